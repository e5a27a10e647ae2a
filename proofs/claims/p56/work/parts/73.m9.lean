/-! ===== reach, post, often, balance ===== -/
noncomputable def y_rcl (b q : Nat → Nat) (x : Nat) : Nat → Nat → Nat → Nat
  | 0, _, v => v
  | m + 1, h, v => y_rcl b q x m (h + 1) (if y_sh b h = 0 ∧ y_th b q x h (q 1) < y_stay b 0 then v ||| 2 ^ h else v)
noncomputable def y_rch (b q : Nat → Nat) (x : Nat) : Nat := y_rcl b q x (y_ho b) 0 0
theorem y_rcl_lt {b q : Nat → Nat} {x : Nat} : ∀ m h v, h + m ≤ 12 → v < 4096 → y_rcl b q x m h v < 4096 := by
  intro m
  induction m with
  | zero => intro h v _ hv; exact hv
  | succ m ih =>
    intro h v hh hv
    unfold y_rcl
    refine ih (h + 1) _ (by omega) ?_
    split
    · exact Nat.or_lt_two_pow (n := 12) hv (Nat.pow_lt_pow_right (by omega) (by omega))
    · exact hv
theorem y_ap_comm {b : Nat → Nat} {a c : Nat} : y_ap b a c = y_ap b c a := by unfold y_ap y_df; omega
section C
variable {σ τ : j_G} {b q : Nat → Nat}
theorem y_rch_lt (hW : y_W b) {x : Nat} : y_rch b q x < 4096 := by
  have := hW.ho
  exact y_rcl_lt _ _ _ (by omega) (by omega)
theorem yc_reach (hN : y_N σ b) (hW : y_W b) (h9 : 0 < b 9) (hp : y_cp σ 28 q) (hq : y_vq b q) {x : Nat} (hx : x < y_ho b) : f_X6_reachFrom (nI x) σ = some (nI (y_rch b q x)) := by
  have h4 := hW.ho
  have e1 := hp 1 (by omega)
  have q1 := hq.2.1
  have st := y_stay_bd hW 0
  have key : ∀ m i n v, i + m = y_ho b → m < n → p_X6_reachFrom_5 (nI x) σ n (nI v) (nI i) = some (nI (y_rcl b q x m i v)) := by
    intro m
    induction m with
    | zero =>
      intro i n v h hn
      obtain ⟨n, rfl⟩ := y_pos hn
      unfold p_X6_reachFrom_5 y_rcl; simp (disch := omega) only [y_lit, y_n1, nI_add, pk_mul, j_lt, j_b1_s, j_b2_s, j_b3_s, j_b0_s, y_bo, y_bo1, y_bo0, y_i0, y_i1, Classical.not_not, nI_clamp, y_ix, y_lt, y_le, y_eq, y_nP, y_nPs, y_ltP, y_ltQ, y_ltPP, y_eqP, y_eqQ, y_eqPP, if_pos, if_neg, ite_true, ite_false, not_true_eq_false, not_false_eq_true, and_true, true_and, and_false, false_and, or_true, true_or, or_false, false_or, yc_holes hN]
    | succ m ih =>
      intro i n v h hn
      obtain ⟨n, rfl⟩ := y_pos hn
      have hs := y_sh_le b i
      have th := y_th_bd hq (a := x) (c := i) (t := q 1) (by omega) (by omega) (by omega)
      unfold p_X6_reachFrom_5 y_rcl; simp (disch := omega) only [y_lit, y_n1, nI_add, pk_mul, j_lt, j_b1_s, j_b2_s, j_b3_s, j_b0_s, y_bo, y_bo1, y_bo0, y_i0, y_i1, Classical.not_not, nI_clamp, y_ix, y_lt, y_le, y_eq, y_nP, y_nPs, y_ltP, y_ltQ, y_ltPP, y_eqP, y_eqQ, y_eqPP, if_pos, if_neg, ite_true, ite_false, not_true_eq_false, not_false_eq_true, and_true, true_and, and_false, false_and, or_true, true_or, or_false, false_or, yc_holes hN, yc_isShut hN hW, e1]
      by_cases c : y_sh b i = 0
      · have c1 : ¬ y_sh b i = 1 := by omega
        simp (disch := omega) only [y_lit, y_n1, nI_add, pk_mul, j_lt, j_b1_s, j_b2_s, j_b3_s, j_b0_s, y_bo, y_bo1, y_bo0, y_i0, y_i1, Classical.not_not, nI_clamp, y_ix, y_lt, y_le, y_eq, y_nP, y_nPs, y_ltP, y_ltQ, y_ltPP, y_eqP, y_eqQ, y_eqPP, if_pos, if_neg, ite_true, ite_false, not_true_eq_false, not_false_eq_true, and_true, true_and, and_false, false_and, or_true, true_or, or_false, false_or, yc_there hN hW h9 hp hq, yc_stay hN hW, y_shl, y_or]
        by_cases d : y_th b q x i (q 1) < y_stay b 0
        · rw [if_pos d, if_pos ⟨c, d⟩]
          exact ih (i + 1) n _ (by omega) (by omega)
        · rw [if_neg d, if_neg (fun z => d z.2)]
          exact ih (i + 1) n _ (by omega) (by omega)
      · have c1 : y_sh b i = 1 := by omega
        rw [if_neg (fun z : y_sh b i = 0 ∧ _ => c z.1)]
        simp (disch := omega) only [y_lit, y_n1, nI_add, pk_mul, j_lt, j_b1_s, j_b2_s, j_b3_s, j_b0_s, y_bo, y_bo1, y_bo0, y_i0, y_i1, Classical.not_not, nI_clamp, y_ix, y_lt, y_le, y_eq, y_nP, y_nPs, y_ltP, y_ltQ, y_ltPP, y_eqP, y_eqQ, y_eqPP, if_pos, if_neg, ite_true, ite_false, not_true_eq_false, not_false_eq_true, and_true, true_and, and_false, false_and, or_true, true_or, or_false, false_or]
        exact ih (i + 1) n _ (by omega) (by omega)
  unfold f_X6_reachFrom
  rw [y_lit, key (y_ho b) 0 j_F 0 (by omega) (y_F (by omega))]
  rfl
theorem ym_reach (hM : y_M τ b) (hW : y_W b) (h9 : 0 < b 9) {p x : Nat} (hp : p < b 6) (hx : x < y_ho b) : f_X12_reachOf (nI p) (nI x) τ = some (nI (y_rch b (y_pq b p) x)) := by
  have h4 := hW.ho
  have h6 := hW.b6
  have hq := y_pqv hW hp
  have q1 := hq.2.1
  have st := y_stay_bd hW 0
  have e1 : f_X12_of (nI p) (nI 1) τ = some (nI (y_pq b p 1)) := ym_of hM (by omega) (by omega)
  have key : ∀ m i n v, i + m = y_ho b → m < n → p_X12_reachOf_14 (nI p) (nI x) (nI (y_stay b 0 - 1)) τ n (nI v) (nI i) = some (nI (y_rcl b (y_pq b p) x m i v)) := by
    intro m
    induction m with
    | zero =>
      intro i n v h hn
      obtain ⟨n, rfl⟩ := y_pos hn
      unfold p_X12_reachOf_14 y_rcl; simp (disch := omega) only [y_lit, y_n1, nI_add, pk_mul, j_lt, j_b1_s, j_b2_s, j_b3_s, j_b0_s, y_bo, y_bo1, y_bo0, y_i0, y_i1, Classical.not_not, nI_clamp, y_ix, y_lt, y_le, y_eq, y_nP, y_nPs, y_ltP, y_ltQ, y_ltPP, y_eqP, y_eqQ, y_eqPP, if_pos, if_neg, ite_true, ite_false, not_true_eq_false, not_false_eq_true, and_true, true_and, and_false, false_and, or_true, true_or, or_false, false_or, ym_holes hM]
    | succ m ih =>
      intro i n v h hn
      obtain ⟨n, rfl⟩ := y_pos hn
      have hs := y_sh_le b i
      have th := y_th_bd hq (a := x) (c := i) (t := y_pq b p 1) (by omega) (by omega) (by omega)
      have ep := ym_pace (q := y_pq b p) hM hW hp rfl (by show b (98 + 5 * p) = b (96 + 5 * p + 2); congr 1; omega) hq (t := y_pq b p 1) (by omega)
      unfold p_X12_reachOf_14 y_rcl; simp (disch := omega) only [y_lit, y_n1, nI_add, pk_mul, j_lt, j_b1_s, j_b2_s, j_b3_s, j_b0_s, y_bo, y_bo1, y_bo0, y_i0, y_i1, Classical.not_not, nI_clamp, y_ix, y_lt, y_le, y_eq, y_nP, y_nPs, y_ltP, y_ltQ, y_ltPP, y_eqP, y_eqQ, y_eqPP, if_pos, if_neg, ite_true, ite_false, not_true_eq_false, not_false_eq_true, and_true, true_and, and_false, false_and, or_true, true_or, or_false, false_or, ym_holes hM, ym_isShut hM hW]
      by_cases c : y_sh b i = 0
      · have c1 : ¬ y_sh b i = 1 := by omega
        simp (disch := omega) only [y_lit, y_n1, nI_add, pk_mul, j_lt, j_b1_s, j_b2_s, j_b3_s, j_b0_s, y_bo, y_bo1, y_bo0, y_i0, y_i1, Classical.not_not, nI_clamp, y_ix, y_lt, y_le, y_eq, y_nP, y_nPs, y_ltP, y_ltQ, y_ltPP, y_eqP, y_eqQ, y_eqPP, if_pos, if_neg, ite_true, ite_false, not_true_eq_false, not_false_eq_true, and_true, true_and, and_false, false_and, or_true, true_or, or_false, false_or, e1, ym_stepsOf hM hW h9, ep, y_shl, y_or]
        rw [show y_pq b p 1 + y_ap b x i * y_pc (y_pq b p) (y_pq b p 1) = y_th b (y_pq b p) x i (y_pq b p 1) from rfl]
        by_cases d : y_th b (y_pq b p) x i (y_pq b p 1) < y_stay b 0
        · rw [if_pos (show y_sh b i = 0 ∧ y_th b (y_pq b p) x i (y_pq b p 1) < y_stay b 0 from ⟨c, d⟩)]
          simp (disch := omega) only [y_lit, y_n1, nI_add, pk_mul, j_lt, j_b1_s, j_b2_s, j_b3_s, j_b0_s, y_bo, y_bo1, y_bo0, y_i0, y_i1, Classical.not_not, nI_clamp, y_ix, y_lt, y_le, y_eq, y_nP, y_nPs, y_ltP, y_ltQ, y_ltPP, y_eqP, y_eqQ, y_eqPP, if_pos, if_neg, ite_true, ite_false, not_true_eq_false, not_false_eq_true, and_true, true_and, and_false, false_and, or_true, true_or, or_false, false_or]
          exact ih (i + 1) n _ (by omega) (by omega)
        · rw [if_neg (fun z : y_sh b i = 0 ∧ _ => d z.2)]
          simp (disch := omega) only [y_lit, y_n1, nI_add, pk_mul, j_lt, j_b1_s, j_b2_s, j_b3_s, j_b0_s, y_bo, y_bo1, y_bo0, y_i0, y_i1, Classical.not_not, nI_clamp, y_ix, y_lt, y_le, y_eq, y_nP, y_nPs, y_ltP, y_ltQ, y_ltPP, y_eqP, y_eqQ, y_eqPP, if_pos, if_neg, ite_true, ite_false, not_true_eq_false, not_false_eq_true, and_true, true_and, and_false, false_and, or_true, true_or, or_false, false_or]
          exact ih (i + 1) n _ (by omega) (by omega)
      · have c1 : y_sh b i = 1 := by omega
        rw [if_neg (fun z : y_sh b i = 0 ∧ _ => c z.1)]
        simp (disch := omega) only [y_lit, y_n1, nI_add, pk_mul, j_lt, j_b1_s, j_b2_s, j_b3_s, j_b0_s, y_bo, y_bo1, y_bo0, y_i0, y_i1, Classical.not_not, nI_clamp, y_ix, y_lt, y_le, y_eq, y_nP, y_nPs, y_ltP, y_ltQ, y_ltPP, y_eqP, y_eqQ, y_eqPP, if_pos, if_neg, ite_true, ite_false, not_true_eq_false, not_false_eq_true, and_true, true_and, and_false, false_and, or_true, true_or, or_false, false_or]
        exact ih (i + 1) n _ (by omega) (by omega)
  unfold f_X12_reachOf
  simp (disch := omega) only [y_lit, y_n1, nI_add, pk_mul, j_lt, j_b1_s, j_b2_s, j_b3_s, j_b0_s, y_bo, y_bo1, y_bo0, y_i0, y_i1, Classical.not_not, nI_clamp, y_ix, y_lt, y_le, y_eq, y_nP, y_nPs, y_ltP, y_ltQ, y_ltPP, y_eqP, y_eqQ, y_eqPP, if_pos, if_neg, ite_true, ite_false, not_true_eq_false, not_false_eq_true, and_true, true_and, and_false, false_and, or_true, true_or, or_false, false_or, ym_stay hM hW, pk_sub]
  rw [key (y_ho b) 0 j_F 0 (by omega) (y_F (by omega))]
  rfl
theorem ym_bits {x : Nat} (hx : x < 4096) : f_X12_bits (nI x) = some (nI (y_pop 12 x)) := by
  have key : ∀ m i n v, i + m = 12 → m < n → p_X12_bits_4 (nI x) n (nI v) (nI i) = some (nI (y_su (fun h => x / 2 ^ h % 2) m i v)) := by
    intro m
    induction m with
    | zero =>
      intro i n v h hn
      obtain ⟨n, rfl⟩ := y_pos hn
      unfold p_X12_bits_4 y_su; simp (disch := omega) only [y_lit, y_n1, nI_add, pk_mul, j_lt, j_b1_s, j_b2_s, j_b3_s, j_b0_s, y_bo, y_bo1, y_bo0, y_i0, y_i1, Classical.not_not, nI_clamp, y_ix, y_lt, y_le, y_eq, y_nP, y_nPs, y_ltP, y_ltQ, y_ltPP, y_eqP, y_eqQ, y_eqPP, if_pos, if_neg, ite_true, ite_false, not_true_eq_false, not_false_eq_true, and_true, true_and, and_false, false_and, or_true, true_or, or_false, false_or]
    | succ m ih =>
      intro i n v h hn
      obtain ⟨n, rfl⟩ := y_pos hn
      unfold p_X12_bits_4 y_su; simp (disch := omega) only [y_lit, y_n1, nI_add, pk_mul, j_lt, j_b1_s, j_b2_s, j_b3_s, j_b0_s, y_bo, y_bo1, y_bo0, y_i0, y_i1, Classical.not_not, nI_clamp, y_ix, y_lt, y_le, y_eq, y_nP, y_nPs, y_ltP, y_ltQ, y_ltPP, y_eqP, y_eqQ, y_eqPP, if_pos, if_neg, ite_true, ite_false, not_true_eq_false, not_false_eq_true, and_true, true_and, and_false, false_and, or_true, true_or, or_false, false_or, y_bit]
      exact ih (i + 1) n _ (by omega) (by omega)
  unfold f_X12_bits
  rw [y_lit, key 12 0 j_F 0 (by omega) (y_F (by omega)), y_su_pop, Nat.pow_zero, Nat.div_one]
  rfl
theorem y_pop_le : ∀ m n, y_pop m n ≤ m := by
  intro m
  induction m with
  | zero => intro n; exact Nat.le_refl _
  | succ m ih => intro n; have := ih (n / 2); show n % 2 + y_pop m (n / 2) ≤ m + 1; omega
/-- how often a hole comes -/
noncomputable def y_of1 (b : Nat → Nat) (h : Nat) : Nat → Nat := fun k => if b (24 + 3 * k) = h ∨ b (25 + 3 * k) = h + 1 then 1 else 0
noncomputable def y_oft (b : Nat → Nat) (h : Nat) : Nat := y_su (y_of1 b h) (b 5) 0 0
theorem y_oft_le (b : Nat → Nat) (h : Nat) : y_oft b h ≤ b 5 := by
  have := y_su_bd (f := y_of1 b h) (c := 1) (b 5) 0 (fun j _ _ => by unfold y_of1; split <;> omega)
  unfold y_oft; omega
theorem yc_oft (hN : y_N σ b) (hW : y_W b) {x : Nat} (hx : x < 100) : f_X3_oftenAt 5 6 7 (nI x) σ = some (nI (y_oft b x)) := by
  have h5 := hW.b5
  have h4 := hW.ho
  have key : ∀ m i n v, i + m = b 5 → m < n → p_X3_oftenAt_4 5 6 7 (nI x) σ n (nI v) (nI i) = some (nI (y_su (y_of1 b x) m i v)) := by
    intro m
    induction m with
    | zero =>
      intro i n v h hn
      obtain ⟨n, rfl⟩ := y_pos hn
      unfold p_X3_oftenAt_4 y_su; simp (disch := omega) only [y_lit, y_n1, nI_add, pk_mul, j_lt, j_b1_s, j_b2_s, j_b3_s, j_b0_s, y_bo, y_bo1, y_bo0, y_i0, y_i1, Classical.not_not, nI_clamp, y_ix, y_lt, y_le, y_eq, y_nP, y_nPs, y_ltP, y_ltQ, y_ltPP, y_eqP, y_eqQ, y_eqPP, if_pos, if_neg, ite_true, ite_false, not_true_eq_false, not_false_eq_true, and_true, true_and, and_false, false_and, or_true, true_or, or_false, false_or, hN.d0]
    | succ m ih =>
      intro i n v h hn
      obtain ⟨n, rfl⟩ := y_pos hn
      have q := hW.co (k := i) (by omega)
      unfold p_X3_oftenAt_4 y_su; simp (disch := omega) only [y_lit, y_n1, nI_add, pk_mul, j_lt, j_b1_s, j_b2_s, j_b3_s, j_b0_s, y_bo, y_bo1, y_bo0, y_i0, y_i1, Classical.not_not, nI_clamp, y_ix, y_lt, y_le, y_eq, y_nP, y_nPs, y_ltP, y_ltQ, y_ltPP, y_eqP, y_eqQ, y_eqPP, if_pos, if_neg, ite_true, ite_false, not_true_eq_false, not_false_eq_true, and_true, true_and, and_false, false_and, or_true, true_or, or_false, false_or, hN.d0, hN.k0 (show i < b 5 by omega), hN.k1 (show i < b 5 by omega)]
      by_cases c : b (24 + 3 * i) = x
      · have e : y_of1 b x i = 1 := if_pos (Or.inl c)
        rw [e]; simp (disch := omega) only [y_lit, y_n1, nI_add, pk_mul, j_lt, j_b1_s, j_b2_s, j_b3_s, j_b0_s, y_bo, y_bo1, y_bo0, y_i0, y_i1, Classical.not_not, nI_clamp, y_ix, y_lt, y_le, y_eq, y_nP, y_nPs, y_ltP, y_ltQ, y_ltPP, y_eqP, y_eqQ, y_eqPP, if_pos, if_neg, ite_true, ite_false, not_true_eq_false, not_false_eq_true, and_true, true_and, and_false, false_and, or_true, true_or, or_false, false_or]
        exact ih (i + 1) n _ (by omega) (by omega)
      · by_cases d : b (25 + 3 * i) = x + 1
        · have e : y_of1 b x i = 1 := if_pos (Or.inr d)
          rw [e]; simp (disch := omega) only [y_lit, y_n1, nI_add, pk_mul, j_lt, j_b1_s, j_b2_s, j_b3_s, j_b0_s, y_bo, y_bo1, y_bo0, y_i0, y_i1, Classical.not_not, nI_clamp, y_ix, y_lt, y_le, y_eq, y_nP, y_nPs, y_ltP, y_ltQ, y_ltPP, y_eqP, y_eqQ, y_eqPP, if_pos, if_neg, ite_true, ite_false, not_true_eq_false, not_false_eq_true, and_true, true_and, and_false, false_and, or_true, true_or, or_false, false_or]
          exact ih (i + 1) n _ (by omega) (by omega)
        · have e : y_of1 b x i = 0 := if_neg (fun z => z.elim c d)
          rw [e]; simp (disch := omega) only [y_lit, y_n1, nI_add, pk_mul, j_lt, j_b1_s, j_b2_s, j_b3_s, j_b0_s, y_bo, y_bo1, y_bo0, y_i0, y_i1, Classical.not_not, nI_clamp, y_ix, y_lt, y_le, y_eq, y_nP, y_nPs, y_ltP, y_ltQ, y_ltPP, y_eqP, y_eqQ, y_eqPP, if_pos, if_neg, ite_true, ite_false, not_true_eq_false, not_false_eq_true, and_true, true_and, and_false, false_and, or_true, true_or, or_false, false_or]
          exact ih (i + 1) n _ (by omega) (by omega)
  unfold f_X3_oftenAt
  rw [y_lit, key (b 5) 0 j_F 0 (by omega) (y_F (by omega))]
  rfl
theorem ym_oft (hM : y_M τ b) (hW : y_W b) {x : Nat} (hx : x < 100) : f_X12_oftenOf (nI x) τ = some (nI (y_oft b x)) := by
  have h5 := hW.b5
  have h4 := hW.ho
  have key : ∀ m i n v, i + m = b 5 → m < n → p_X12_oftenOf_4 (nI x) τ n (nI v) (nI i) = some (nI (y_su (y_of1 b x) m i v)) := by
    intro m
    induction m with
    | zero =>
      intro i n v h hn
      obtain ⟨n, rfl⟩ := y_pos hn
      unfold p_X12_oftenOf_4 y_su; simp (disch := omega) only [y_lit, y_n1, nI_add, pk_mul, j_lt, j_b1_s, j_b2_s, j_b3_s, j_b0_s, y_bo, y_bo1, y_bo0, y_i0, y_i1, Classical.not_not, nI_clamp, y_ix, y_lt, y_le, y_eq, y_nP, y_nPs, y_ltP, y_ltQ, y_ltPP, y_eqP, y_eqQ, y_eqPP, if_pos, if_neg, ite_true, ite_false, not_true_eq_false, not_false_eq_true, and_true, true_and, and_false, false_and, or_true, true_or, or_false, false_or, hM.f]
    | succ m ih =>
      intro i n v h hn
      obtain ⟨n, rfl⟩ := y_pos hn
      have q := hW.co (k := i) (by omega)
      unfold p_X12_oftenOf_4 y_su; simp (disch := omega) only [y_lit, y_n1, nI_add, pk_mul, j_lt, j_b1_s, j_b2_s, j_b3_s, j_b0_s, y_bo, y_bo1, y_bo0, y_i0, y_i1, Classical.not_not, nI_clamp, y_ix, y_lt, y_le, y_eq, y_nP, y_nPs, y_ltP, y_ltQ, y_ltPP, y_eqP, y_eqQ, y_eqPP, if_pos, if_neg, ite_true, ite_false, not_true_eq_false, not_false_eq_true, and_true, true_and, and_false, false_and, or_true, true_or, or_false, false_or, hM.f, ym_co0 hM, ym_co1 hM]
      by_cases c : b (24 + 3 * i) = x
      · have e : y_of1 b x i = 1 := if_pos (Or.inl c)
        rw [e]; simp (disch := omega) only [y_lit, y_n1, nI_add, pk_mul, j_lt, j_b1_s, j_b2_s, j_b3_s, j_b0_s, y_bo, y_bo1, y_bo0, y_i0, y_i1, Classical.not_not, nI_clamp, y_ix, y_lt, y_le, y_eq, y_nP, y_nPs, y_ltP, y_ltQ, y_ltPP, y_eqP, y_eqQ, y_eqPP, if_pos, if_neg, ite_true, ite_false, not_true_eq_false, not_false_eq_true, and_true, true_and, and_false, false_and, or_true, true_or, or_false, false_or]
        exact ih (i + 1) n _ (by omega) (by omega)
      · by_cases d : b (25 + 3 * i) = x + 1
        · have e : y_of1 b x i = 1 := if_pos (Or.inr d)
          rw [e]; simp (disch := omega) only [y_lit, y_n1, nI_add, pk_mul, j_lt, j_b1_s, j_b2_s, j_b3_s, j_b0_s, y_bo, y_bo1, y_bo0, y_i0, y_i1, Classical.not_not, nI_clamp, y_ix, y_lt, y_le, y_eq, y_nP, y_nPs, y_ltP, y_ltQ, y_ltPP, y_eqP, y_eqQ, y_eqPP, if_pos, if_neg, ite_true, ite_false, not_true_eq_false, not_false_eq_true, and_true, true_and, and_false, false_and, or_true, true_or, or_false, false_or]
          exact ih (i + 1) n _ (by omega) (by omega)
        · have e : y_of1 b x i = 0 := if_neg (fun z => z.elim c d)
          rw [e]; simp (disch := omega) only [y_lit, y_n1, nI_add, pk_mul, j_lt, j_b1_s, j_b2_s, j_b3_s, j_b0_s, y_bo, y_bo1, y_bo0, y_i0, y_i1, Classical.not_not, nI_clamp, y_ix, y_lt, y_le, y_eq, y_nP, y_nPs, y_ltP, y_ltQ, y_ltPP, y_eqP, y_eqQ, y_eqPP, if_pos, if_neg, ite_true, ite_false, not_true_eq_false, not_false_eq_true, and_true, true_and, and_false, false_and, or_true, true_or, or_false, false_or]
          exact ih (i + 1) n _ (by omega) (by omega)
  unfold f_X12_oftenOf
  rw [y_lit, key (b 5) 0 j_F 0 (by omega) (y_F (by omega))]
  rfl
end C
section Z
variable {σ τ : j_G}
theorem z_reach (hR : j_Rel σ τ) (a1 a2 : Int32) : ∃ v σ1, f_X11_reach a1 a2 σ = some (v, σ1) ∧ f_X12_reach a1 a2 τ = some v ∧ j_Rel σ1 τ := by
  obtain ⟨b, hW, hN, hM, hK⟩ := id hR
  by_cases h : y_rg a1 (b 6)
  · by_cases h3 : y_rg a2 (y_ho b)
    · obtain ⟨p, hp, rfl⟩ := y_of _ _ h.1 h.2
      obtain ⟨x, hx, rfl⟩ := y_of _ _ h3.1 h3.2
      have h9 := hW.on0 (Or.inr (Or.inr (Or.inr (Or.inl (by omega : 0 < b 6)))))
      obtain ⟨σ1, e1, e2, e3⟩ := yc_take (a := 28) hN hW hp (by omega)
      have hN1 := hN.fr e3 (by omega)
      refine ⟨nI (y_rch b (y_pq b p) x), σ1, ?_, ?_, y_done hR (e3.wide (by omega) (by omega)) y_fm.refl⟩
      · unfold f_X11_reach; rw [yc_isHole hN hW, yc_isPlayer hN hW, if_pos h, if_pos h3]; simp (disch := omega) only [y_lit, y_n1, nI_add, pk_mul, j_lt, j_b1_s, j_b2_s, j_b3_s, j_b0_s, y_bo, y_bo1, y_bo0, y_i0, y_i1, Classical.not_not, nI_clamp, y_ix, y_lt, y_le, y_eq, y_nP, y_nPs, y_ltP, y_ltQ, y_ltPP, y_eqP, y_eqQ, y_eqPP, if_pos, if_neg, ite_true, ite_false, not_true_eq_false, not_false_eq_true, and_true, true_and, and_false, false_and, or_true, true_or, or_false, false_or, e1, yc_reach hN1 hW h9 e2 (y_pqv hW hp) hx]
      · unfold f_X12_reach; rw [ym_isPlayer hM hW, if_pos h, j_b1_s, ym_isHole hM hW, if_pos h3]; simp (disch := omega) only [y_lit, y_n1, nI_add, pk_mul, j_lt, j_b1_s, j_b2_s, j_b3_s, j_b0_s, y_bo, y_bo1, y_bo0, y_i0, y_i1, Classical.not_not, nI_clamp, y_ix, y_lt, y_le, y_eq, y_nP, y_nPs, y_ltP, y_ltQ, y_ltPP, y_eqP, y_eqQ, y_eqPP, if_pos, if_neg, ite_true, ite_false, not_true_eq_false, not_false_eq_true, and_true, true_and, and_false, false_and, or_true, true_or, or_false, false_or, ym_reach hM hW h9 hp hx]
    · refine ⟨-2, σ, ?_, ?_, hR⟩
      · unfold f_X11_reach; simp (disch := omega) only [y_lit, y_n1, nI_add, pk_mul, j_lt, j_b1_s, j_b2_s, j_b3_s, j_b0_s, y_bo, y_bo1, y_bo0, y_i0, y_i1, Classical.not_not, nI_clamp, y_ix, y_lt, y_le, y_eq, y_nP, y_nPs, y_ltP, y_ltQ, y_ltPP, y_eqP, y_eqQ, y_eqPP, if_pos, if_neg, ite_true, ite_false, not_true_eq_false, not_false_eq_true, and_true, true_and, and_false, false_and, or_true, true_or, or_false, false_or, yc_isHole hN hW, yc_isPlayer hN hW, h, h3]
      · unfold f_X12_reach; simp (disch := omega) only [y_lit, y_n1, nI_add, pk_mul, j_lt, j_b1_s, j_b2_s, j_b3_s, j_b0_s, y_bo, y_bo1, y_bo0, y_i0, y_i1, Classical.not_not, nI_clamp, y_ix, y_lt, y_le, y_eq, y_nP, y_nPs, y_ltP, y_ltQ, y_ltPP, y_eqP, y_eqQ, y_eqPP, if_pos, if_neg, ite_true, ite_false, not_true_eq_false, not_false_eq_true, and_true, true_and, and_false, false_and, or_true, true_or, or_false, false_or, ym_isHole hM hW, ym_isPlayer hM hW, h, h3]
  · refine ⟨-2, σ, ?_, ?_, hR⟩
    · unfold f_X11_reach; simp (disch := omega) only [y_lit, y_n1, nI_add, pk_mul, j_lt, j_b1_s, j_b2_s, j_b3_s, j_b0_s, y_bo, y_bo1, y_bo0, y_i0, y_i1, Classical.not_not, nI_clamp, y_ix, y_lt, y_le, y_eq, y_nP, y_nPs, y_ltP, y_ltQ, y_ltPP, y_eqP, y_eqQ, y_eqPP, if_pos, if_neg, ite_true, ite_false, not_true_eq_false, not_false_eq_true, and_true, true_and, and_false, false_and, or_true, true_or, or_false, false_or, yc_isPlayer hN hW, h]
    · unfold f_X12_reach; simp (disch := omega) only [y_lit, y_n1, nI_add, pk_mul, j_lt, j_b1_s, j_b2_s, j_b3_s, j_b0_s, y_bo, y_bo1, y_bo0, y_i0, y_i1, Classical.not_not, nI_clamp, y_ix, y_lt, y_le, y_eq, y_nP, y_nPs, y_ltP, y_ltQ, y_ltPP, y_eqP, y_eqQ, y_eqPP, if_pos, if_neg, ite_true, ite_false, not_true_eq_false, not_false_eq_true, and_true, true_and, and_false, false_and, or_true, true_or, or_false, false_or, ym_isPlayer hM hW, h]
theorem z_post (hR : j_Rel σ τ) (a1 : Int32) : ∃ v σ1, f_X11_post a1 σ = some (v, σ1) ∧ f_X12_post a1 τ = some v ∧ j_Rel σ1 τ := by
  obtain ⟨b, hW, hN, hM, hK⟩ := id hR
  have h4 := hW.ho
  by_cases h : y_rg a1 (b 6)
  · obtain ⟨p, hp, rfl⟩ := y_of _ _ h.1 h.2
    have h9 := hW.on0 (Or.inr (Or.inr (Or.inr (Or.inl (by omega : 0 < b 6)))))
    have ho := hW.on1 h9
    obtain ⟨σ1, e1, e2, e3⟩ := yc_take (a := 28) hN hW hp (by omega)
    have hN1 := hN.fr e3 (by omega)
    have hq := y_pqv hW hp
    have pl := fun x => y_pop_le 12 (y_rch b (y_pq b p) x)
    have rl := fun x => y_rch_lt (q := y_pq b p) hW (x := x)
    have both : ∀ m i n n' x, i + m = y_ho b → m < n → m < n' → x < y_ho b → ∃ v, p_X11_post_33 σ1 n (nI x) (nI (y_pop 12 (y_rch b (y_pq b p) x))) (nI i) = some v ∧ p_X12_post_15 (nI p) τ n' (nI x) (nI i) = some v := by
      intro m
      induction m with
      | zero =>
        intro i n n' x h hn hn' hx
        obtain ⟨n, rfl⟩ := y_pos hn; obtain ⟨n', rfl⟩ := y_pos hn'
        refine ⟨nI x, ?_, ?_⟩
        · unfold p_X11_post_33; simp (disch := omega) only [y_lit, y_n1, nI_add, pk_mul, j_lt, j_b1_s, j_b2_s, j_b3_s, j_b0_s, y_bo, y_bo1, y_bo0, y_i0, y_i1, Classical.not_not, nI_clamp, y_ix, y_lt, y_le, y_eq, y_nP, y_nPs, y_ltP, y_ltQ, y_ltPP, y_eqP, y_eqQ, y_eqPP, if_pos, if_neg, ite_true, ite_false, not_true_eq_false, not_false_eq_true, and_true, true_and, and_false, false_and, or_true, true_or, or_false, false_or, yc_holes hN1]
        · unfold p_X12_post_15; simp (disch := omega) only [y_lit, y_n1, nI_add, pk_mul, j_lt, j_b1_s, j_b2_s, j_b3_s, j_b0_s, y_bo, y_bo1, y_bo0, y_i0, y_i1, Classical.not_not, nI_clamp, y_ix, y_lt, y_le, y_eq, y_nP, y_nPs, y_ltP, y_ltQ, y_ltPP, y_eqP, y_eqQ, y_eqPP, if_pos, if_neg, ite_true, ite_false, not_true_eq_false, not_false_eq_true, and_true, true_and, and_false, false_and, or_true, true_or, or_false, false_or, ym_holes hM]
      | succ m ih =>
        intro i n n' x h hn hn' hx
        obtain ⟨n, rfl⟩ := y_pos hn; obtain ⟨n', rfl⟩ := y_pos hn'
        have p1 := pl i; have p2 := pl x
        obtain ⟨v, v1, v2⟩ := ih (i + 1) n n' x (by omega) (by omega) (by omega) hx
        obtain ⟨w, w1, w2⟩ := ih (i + 1) n n' i (by omega) (by omega) (by omega) (by omega)
        have km : p_X12_post_15 (nI p) τ (n' + 1) (nI x) (nI i) = p_X12_post_15 (nI p) τ n' (if nI (y_pop 12 (y_rch b (y_pq b p) x)) < nI (y_pop 12 (y_rch b (y_pq b p) i)) then nI i else nI x) (nI (i + 1)) := by
          have hlt : nI i < nI (y_ho b) := (y_lt (by omega) (by omega)).mpr (by omega)
          rw [p_X12_post_15, ym_holes hM, j_b1_s, if_pos hlt, ym_reach hM hW h9 hp (show i < y_ho b by omega), j_b1_s, ym_bits (rl i), j_b1_s, ym_reach hM hW h9 hp hx, j_b1_s, ym_bits (rl x), j_b1_s, j_lt, y_lit, nI_add]
        rw [km]
        unfold p_X11_post_33
        simp (disch := omega) only [y_lit, y_n1, nI_add, pk_mul, j_lt, j_b1_s, j_b2_s, j_b3_s, j_b0_s, y_bo, y_bo1, y_bo0, y_i0, y_i1, Classical.not_not, nI_clamp, y_ix, y_lt, y_le, y_eq, y_nP, y_nPs, y_ltP, y_ltQ, y_ltPP, y_eqP, y_eqQ, y_eqPP, if_pos, if_neg, ite_true, ite_false, not_true_eq_false, not_false_eq_true, and_true, true_and, and_false, false_and, or_true, true_or, or_false, false_or, yc_holes hN1, yc_reach hN1 hW h9 e2 hq, y_bcn _ (rl i)]
        generalize y_pop 12 (y_rch b (y_pq b p) x) = X at *
        generalize y_pop 12 (y_rch b (y_pq b p) i) = I at *
        by_cases q : X < I
        · simp (disch := omega) only [y_lit, y_n1, nI_add, pk_mul, j_lt, j_b1_s, j_b2_s, j_b3_s, j_b0_s, y_bo, y_bo1, y_bo0, y_i0, y_i1, Classical.not_not, nI_clamp, y_ix, y_lt, y_le, y_eq, y_nP, y_nPs, y_ltP, y_ltQ, y_ltPP, y_eqP, y_eqQ, y_eqPP, if_pos, if_neg, ite_true, ite_false, not_true_eq_false, not_false_eq_true, and_true, true_and, and_false, false_and, or_true, true_or, or_false, false_or]; exact ⟨w, w1, w2⟩
        · simp (disch := omega) only [y_lit, y_n1, nI_add, pk_mul, j_lt, j_b1_s, j_b2_s, j_b3_s, j_b0_s, y_bo, y_bo1, y_bo0, y_i0, y_i1, Classical.not_not, nI_clamp, y_ix, y_lt, y_le, y_eq, y_nP, y_nPs, y_ltP, y_ltQ, y_ltPP, y_eqP, y_eqQ, y_eqPP, if_pos, if_neg, ite_true, ite_false, not_true_eq_false, not_false_eq_true, and_true, true_and, and_false, false_and, or_true, true_or, or_false, false_or]; exact ⟨v, v1, v2⟩
    obtain ⟨v, v1, v2⟩ := both (y_ho b - 1) 1 4999 j_F 0 (by omega) (by omega) (y_F (by omega)) ho
    have p0 := pl 0
    have w0 : p_X11_post_33 σ1 j_F (nI 0) (nP 0) (nI 0) = some v := by
      rw [show j_F = 4999 + 1 from rfl]
      unfold p_X11_post_33; simp (disch := omega) only [y_lit, y_n1, nI_add, pk_mul, j_lt, j_b1_s, j_b2_s, j_b3_s, j_b0_s, y_bo, y_bo1, y_bo0, y_i0, y_i1, Classical.not_not, nI_clamp, y_ix, y_lt, y_le, y_eq, y_nP, y_nPs, y_ltP, y_ltQ, y_ltPP, y_eqP, y_eqQ, y_eqPP, if_pos, if_neg, ite_true, ite_false, not_true_eq_false, not_false_eq_true, and_true, true_and, and_false, false_and, or_true, true_or, or_false, false_or, yc_holes hN1, yc_reach hN1 hW h9 e2 hq, y_bcn _ (rl 0)]
      exact v1
    refine ⟨v, σ1, ?_, ?_, y_done hR (e3.wide (by omega) (by omega)) y_fm.refl⟩
    · unfold f_X11_post; simp (disch := omega) only [y_lit, y_n1, nI_add, pk_mul, j_lt, j_b1_s, j_b2_s, j_b3_s, j_b0_s, y_bo, y_bo1, y_bo0, y_i0, y_i1, Classical.not_not, nI_clamp, y_ix, y_lt, y_le, y_eq, y_nP, y_nPs, y_ltP, y_ltQ, y_ltPP, y_eqP, y_eqQ, y_eqPP, if_pos, if_neg, ite_true, ite_false, not_true_eq_false, not_false_eq_true, and_true, true_and, and_false, false_and, or_true, true_or, or_false, false_or, yc_isPlayer hN hW, y_rn, e1, w0]
    · unfold f_X12_post; simp (disch := omega) only [y_lit, y_n1, nI_add, pk_mul, j_lt, j_b1_s, j_b2_s, j_b3_s, j_b0_s, y_bo, y_bo1, y_bo0, y_i0, y_i1, Classical.not_not, nI_clamp, y_ix, y_lt, y_le, y_eq, y_nP, y_nPs, y_ltP, y_ltQ, y_ltPP, y_eqP, y_eqQ, y_eqPP, if_pos, if_neg, ite_true, ite_false, not_true_eq_false, not_false_eq_true, and_true, true_and, and_false, false_and, or_true, true_or, or_false, false_or, ym_isPlayer hM hW, y_rn, v2]
  · refine ⟨-2, σ, ?_, ?_, hR⟩
    · unfold f_X11_post; simp (disch := omega) only [y_lit, y_n1, nI_add, pk_mul, j_lt, j_b1_s, j_b2_s, j_b3_s, j_b0_s, y_bo, y_bo1, y_bo0, y_i0, y_i1, Classical.not_not, nI_clamp, y_ix, y_lt, y_le, y_eq, y_nP, y_nPs, y_ltP, y_ltQ, y_ltPP, y_eqP, y_eqQ, y_eqPP, if_pos, if_neg, ite_true, ite_false, not_true_eq_false, not_false_eq_true, and_true, true_and, and_false, false_and, or_true, true_or, or_false, false_or, yc_isPlayer hN hW, h]
    · unfold f_X12_post; simp (disch := omega) only [y_lit, y_n1, nI_add, pk_mul, j_lt, j_b1_s, j_b2_s, j_b3_s, j_b0_s, y_bo, y_bo1, y_bo0, y_i0, y_i1, Classical.not_not, nI_clamp, y_ix, y_lt, y_le, y_eq, y_nP, y_nPs, y_ltP, y_ltQ, y_ltPP, y_eqP, y_eqQ, y_eqPP, if_pos, if_neg, ite_true, ite_false, not_true_eq_false, not_false_eq_true, and_true, true_and, and_false, false_and, or_true, true_or, or_false, false_or, ym_isPlayer hM hW, h]
theorem z_often (hR : j_Rel σ τ) (a1 : Int32) : ∃ v, f_X11_often a1 σ = some v ∧ f_X12_often a1 τ = some v := by
  obtain ⟨b, hW, hN, hM, hK⟩ := id hR
  have h4 := hW.ho
  by_cases h : y_rg a1 (y_ho b)
  · obtain ⟨x, hx, rfl⟩ := y_of _ _ h.1 h.2
    refine ⟨nI (y_oft b x), ?_, ?_⟩
    · unfold f_X11_often; simp (disch := omega) only [y_lit, y_n1, nI_add, pk_mul, j_lt, j_b1_s, j_b2_s, j_b3_s, j_b0_s, y_bo, y_bo1, y_bo0, y_i0, y_i1, Classical.not_not, nI_clamp, y_ix, y_lt, y_le, y_eq, y_nP, y_nPs, y_ltP, y_ltQ, y_ltPP, y_eqP, y_eqQ, y_eqPP, if_pos, if_neg, ite_true, ite_false, not_true_eq_false, not_false_eq_true, and_true, true_and, and_false, false_and, or_true, true_or, or_false, false_or, yc_isHole hN hW, y_rn, yc_oft hN hW]
    · unfold f_X12_often; simp (disch := omega) only [y_lit, y_n1, nI_add, pk_mul, j_lt, j_b1_s, j_b2_s, j_b3_s, j_b0_s, y_bo, y_bo1, y_bo0, y_i0, y_i1, Classical.not_not, nI_clamp, y_ix, y_lt, y_le, y_eq, y_nP, y_nPs, y_ltP, y_ltQ, y_ltPP, y_eqP, y_eqQ, y_eqPP, if_pos, if_neg, ite_true, ite_false, not_true_eq_false, not_false_eq_true, and_true, true_and, and_false, false_and, or_true, true_or, or_false, false_or, ym_isHole hM hW, y_rn, ym_oft hM hW]
  · refine ⟨-2, ?_, ?_⟩
    · unfold f_X11_often; simp (disch := omega) only [y_lit, y_n1, nI_add, pk_mul, j_lt, j_b1_s, j_b2_s, j_b3_s, j_b0_s, y_bo, y_bo1, y_bo0, y_i0, y_i1, Classical.not_not, nI_clamp, y_ix, y_lt, y_le, y_eq, y_nP, y_nPs, y_ltP, y_ltQ, y_ltPP, y_eqP, y_eqQ, y_eqPP, if_pos, if_neg, ite_true, ite_false, not_true_eq_false, not_false_eq_true, and_true, true_and, and_false, false_and, or_true, true_or, or_false, false_or, yc_isHole hN hW, h]
    · unfold f_X12_often; simp (disch := omega) only [y_lit, y_n1, nI_add, pk_mul, j_lt, j_b1_s, j_b2_s, j_b3_s, j_b0_s, y_bo, y_bo1, y_bo0, y_i0, y_i1, Classical.not_not, nI_clamp, y_ix, y_lt, y_le, y_eq, y_nP, y_nPs, y_ltP, y_ltQ, y_ltPP, y_eqP, y_eqQ, y_eqPP, if_pos, if_neg, ite_true, ite_false, not_true_eq_false, not_false_eq_true, and_true, true_and, and_false, false_and, or_true, true_or, or_false, false_or, ym_isHole hM hW, h]
theorem z_balance (hR : j_Rel σ τ) : ∃ v, f_X11_balance σ = some v ∧ f_X12_balance τ = some v := by
  obtain ⟨b, hW, hN, hM, hK⟩ := id hR
  have h4 := hW.ho
  have h5 := hW.b5
  by_cases h9 : 0 < b 9
  · have both : ∀ m i n t lo, i + m = y_ho b → m < n → t < 100 → lo < 100 → ∃ t' lo', t' < 100 ∧ lo' < 100 ∧ p_X11_balance_19 σ n (nP t) (if t = 0 then nP 0 else nI lo) (nI i) = some (nP t', if t' = 0 then nP 0 else nI lo') ∧ p_X12_balance_18 τ n (if t = 0 then nI 1000000 else nI lo) (nP t) (nI i) = some (if t' = 0 then nI 1000000 else nI lo', nP t') := by
      intro m
      induction m with
      | zero =>
        intro i n t lo h hn ht hl
        obtain ⟨n, rfl⟩ := y_pos hn
        refine ⟨t, lo, ht, hl, ?_, ?_⟩
        · unfold p_X11_balance_19; simp (disch := omega) only [y_lit, y_n1, nI_add, pk_mul, j_lt, j_b1_s, j_b2_s, j_b3_s, j_b0_s, y_bo, y_bo1, y_bo0, y_i0, y_i1, Classical.not_not, nI_clamp, y_ix, y_lt, y_le, y_eq, y_nP, y_nPs, y_ltP, y_ltQ, y_ltPP, y_eqP, y_eqQ, y_eqPP, if_pos, if_neg, ite_true, ite_false, not_true_eq_false, not_false_eq_true, and_true, true_and, and_false, false_and, or_true, true_or, or_false, false_or, yc_holes hN]
        · unfold p_X12_balance_18; simp (disch := omega) only [y_lit, y_n1, nI_add, pk_mul, j_lt, j_b1_s, j_b2_s, j_b3_s, j_b0_s, y_bo, y_bo1, y_bo0, y_i0, y_i1, Classical.not_not, nI_clamp, y_ix, y_lt, y_le, y_eq, y_nP, y_nPs, y_ltP, y_ltQ, y_ltPP, y_eqP, y_eqQ, y_eqPP, if_pos, if_neg, ite_true, ite_false, not_true_eq_false, not_false_eq_true, and_true, true_and, and_false, false_and, or_true, true_or, or_false, false_or, ym_holes hM]
      | succ m ih =>
        intro i n t lo h hn ht hl
        obtain ⟨n, rfl⟩ := y_pos hn
        have hs := y_sh_le b i
        have hf := y_oft_le b i
        unfold p_X11_balance_19 p_X12_balance_18
        simp (disch := omega) only [y_lit, y_n1, nI_add, pk_mul, j_lt, j_b1_s, j_b2_s, j_b3_s, j_b0_s, y_bo, y_bo1, y_bo0, y_i0, y_i1, Classical.not_not, nI_clamp, y_ix, y_lt, y_le, y_eq, y_nP, y_nPs, y_ltP, y_ltQ, y_ltPP, y_eqP, y_eqQ, y_eqPP, if_pos, if_neg, ite_true, ite_false, not_true_eq_false, not_false_eq_true, and_true, true_and, and_false, false_and, or_true, true_or, or_false, false_or, yc_holes hN, ym_holes hM, yc_isShut hN hW, ym_isShut hM hW]
        by_cases c : y_sh b i = 1
        · simp (disch := omega) only [y_lit, y_n1, nI_add, pk_mul, j_lt, j_b1_s, j_b2_s, j_b3_s, j_b0_s, y_bo, y_bo1, y_bo0, y_i0, y_i1, Classical.not_not, nI_clamp, y_ix, y_lt, y_le, y_eq, y_nP, y_nPs, y_ltP, y_ltQ, y_ltPP, y_eqP, y_eqQ, y_eqPP, if_pos, if_neg, ite_true, ite_false, not_true_eq_false, not_false_eq_true, and_true, true_and, and_false, false_and, or_true, true_or, or_false, false_or]
          exact ih (i + 1) n t lo (by omega) (by omega) ht hl
        · simp (disch := omega) only [y_lit, y_n1, nI_add, pk_mul, j_lt, j_b1_s, j_b2_s, j_b3_s, j_b0_s, y_bo, y_bo1, y_bo0, y_i0, y_i1, Classical.not_not, nI_clamp, y_ix, y_lt, y_le, y_eq, y_nP, y_nPs, y_ltP, y_ltQ, y_ltPP, y_eqP, y_eqQ, y_eqPP, if_pos, if_neg, ite_true, ite_false, not_true_eq_false, not_false_eq_true, and_true, true_and, and_false, false_and, or_true, true_or, or_false, false_or, yc_oft hN hW, ym_oft hM hW]
          have key := ih (i + 1) n (if t < y_oft b i + 1 then y_oft b i + 1 else t) (if t = 0 then y_oft b i else if y_oft b i < lo then y_oft b i else lo) (by omega) (by omega) (by split <;> omega) (by split <;> (try split) <;> omega)
          obtain ⟨t', lo', k1, k2, k3, k4⟩ := key
          refine ⟨t', lo', k1, k2, ?_, ?_⟩
          · rw [← k3]
            by_cases z : t = 0
            · subst z; simp (disch := omega) only [y_lit, y_n1, nI_add, pk_mul, j_lt, j_b1_s, j_b2_s, j_b3_s, j_b0_s, y_bo, y_bo1, y_bo0, y_i0, y_i1, Classical.not_not, nI_clamp, y_ix, y_lt, y_le, y_eq, y_nP, y_nPs, y_ltP, y_ltQ, y_ltPP, y_eqP, y_eqQ, y_eqPP, if_pos, if_neg, ite_true, ite_false, not_true_eq_false, not_false_eq_true, and_true, true_and, and_false, false_and, or_true, true_or, or_false, false_or]
            · by_cases y : t < y_oft b i + 1
              · by_cases x : y_oft b i < lo
                · simp (disch := omega) only [y_lit, y_n1, nI_add, pk_mul, j_lt, j_b1_s, j_b2_s, j_b3_s, j_b0_s, y_bo, y_bo1, y_bo0, y_i0, y_i1, Classical.not_not, nI_clamp, y_ix, y_lt, y_le, y_eq, y_nP, y_nPs, y_ltP, y_ltQ, y_ltPP, y_eqP, y_eqQ, y_eqPP, if_pos, if_neg, ite_true, ite_false, not_true_eq_false, not_false_eq_true, and_true, true_and, and_false, false_and, or_true, true_or, or_false, false_or]
                · simp (disch := omega) only [y_lit, y_n1, nI_add, pk_mul, j_lt, j_b1_s, j_b2_s, j_b3_s, j_b0_s, y_bo, y_bo1, y_bo0, y_i0, y_i1, Classical.not_not, nI_clamp, y_ix, y_lt, y_le, y_eq, y_nP, y_nPs, y_ltP, y_ltQ, y_ltPP, y_eqP, y_eqQ, y_eqPP, if_pos, if_neg, ite_true, ite_false, not_true_eq_false, not_false_eq_true, and_true, true_and, and_false, false_and, or_true, true_or, or_false, false_or]
              · by_cases x : y_oft b i < lo
                · simp (disch := omega) only [y_lit, y_n1, nI_add, pk_mul, j_lt, j_b1_s, j_b2_s, j_b3_s, j_b0_s, y_bo, y_bo1, y_bo0, y_i0, y_i1, Classical.not_not, nI_clamp, y_ix, y_lt, y_le, y_eq, y_nP, y_nPs, y_ltP, y_ltQ, y_ltPP, y_eqP, y_eqQ, y_eqPP, if_pos, if_neg, ite_true, ite_false, not_true_eq_false, not_false_eq_true, and_true, true_and, and_false, false_and, or_true, true_or, or_false, false_or]
                · simp (disch := omega) only [y_lit, y_n1, nI_add, pk_mul, j_lt, j_b1_s, j_b2_s, j_b3_s, j_b0_s, y_bo, y_bo1, y_bo0, y_i0, y_i1, Classical.not_not, nI_clamp, y_ix, y_lt, y_le, y_eq, y_nP, y_nPs, y_ltP, y_ltQ, y_ltPP, y_eqP, y_eqQ, y_eqPP, if_pos, if_neg, ite_true, ite_false, not_true_eq_false, not_false_eq_true, and_true, true_and, and_false, false_and, or_true, true_or, or_false, false_or]
          · rw [← k4]
            by_cases z : t = 0
            · subst z; simp (disch := omega) only [y_lit, y_n1, nI_add, pk_mul, j_lt, j_b1_s, j_b2_s, j_b3_s, j_b0_s, y_bo, y_bo1, y_bo0, y_i0, y_i1, Classical.not_not, nI_clamp, y_ix, y_lt, y_le, y_eq, y_nP, y_nPs, y_ltP, y_ltQ, y_ltPP, y_eqP, y_eqQ, y_eqPP, if_pos, if_neg, ite_true, ite_false, not_true_eq_false, not_false_eq_true, and_true, true_and, and_false, false_and, or_true, true_or, or_false, false_or]
            · by_cases y : t < y_oft b i + 1
              · by_cases x : y_oft b i < lo
                · simp (disch := omega) only [y_lit, y_n1, nI_add, pk_mul, j_lt, j_b1_s, j_b2_s, j_b3_s, j_b0_s, y_bo, y_bo1, y_bo0, y_i0, y_i1, Classical.not_not, nI_clamp, y_ix, y_lt, y_le, y_eq, y_nP, y_nPs, y_ltP, y_ltQ, y_ltPP, y_eqP, y_eqQ, y_eqPP, if_pos, if_neg, ite_true, ite_false, not_true_eq_false, not_false_eq_true, and_true, true_and, and_false, false_and, or_true, true_or, or_false, false_or]
                · simp (disch := omega) only [y_lit, y_n1, nI_add, pk_mul, j_lt, j_b1_s, j_b2_s, j_b3_s, j_b0_s, y_bo, y_bo1, y_bo0, y_i0, y_i1, Classical.not_not, nI_clamp, y_ix, y_lt, y_le, y_eq, y_nP, y_nPs, y_ltP, y_ltQ, y_ltPP, y_eqP, y_eqQ, y_eqPP, if_pos, if_neg, ite_true, ite_false, not_true_eq_false, not_false_eq_true, and_true, true_and, and_false, false_and, or_true, true_or, or_false, false_or]
              · by_cases x : y_oft b i < lo
                · simp (disch := omega) only [y_lit, y_n1, nI_add, pk_mul, j_lt, j_b1_s, j_b2_s, j_b3_s, j_b0_s, y_bo, y_bo1, y_bo0, y_i0, y_i1, Classical.not_not, nI_clamp, y_ix, y_lt, y_le, y_eq, y_nP, y_nPs, y_ltP, y_ltQ, y_ltPP, y_eqP, y_eqQ, y_eqPP, if_pos, if_neg, ite_true, ite_false, not_true_eq_false, not_false_eq_true, and_true, true_and, and_false, false_and, or_true, true_or, or_false, false_or]
                · simp (disch := omega) only [y_lit, y_n1, nI_add, pk_mul, j_lt, j_b1_s, j_b2_s, j_b3_s, j_b0_s, y_bo, y_bo1, y_bo0, y_i0, y_i1, Classical.not_not, nI_clamp, y_ix, y_lt, y_le, y_eq, y_nP, y_nPs, y_ltP, y_ltQ, y_ltPP, y_eqP, y_eqQ, y_eqPP, if_pos, if_neg, ite_true, ite_false, not_true_eq_false, not_false_eq_true, and_true, true_and, and_false, false_and, or_true, true_or, or_false, false_or]
    obtain ⟨t', lo', k1, k2, k3, k4⟩ := both (y_ho b) 0 j_F 0 0 (by omega) (y_F (by omega)) (by omega) (by omega)
    rw [if_pos rfl] at k3 k4
    by_cases z : t' = 0
    · refine ⟨-1, ?_, ?_⟩
      · unfold f_X11_balance; simp (disch := omega) only [y_lit, y_n1, nI_add, pk_mul, j_lt, j_b1_s, j_b2_s, j_b3_s, j_b0_s, y_bo, y_bo1, y_bo0, y_i0, y_i1, Classical.not_not, nI_clamp, y_ix, y_lt, y_le, y_eq, y_nP, y_nPs, y_ltP, y_ltQ, y_ltPP, y_eqP, y_eqQ, y_eqPP, if_pos, if_neg, ite_true, ite_false, not_true_eq_false, not_false_eq_true, and_true, true_and, and_false, false_and, or_true, true_or, or_false, false_or, yc_isTold hN hW, k3, z]
      · unfold f_X12_balance; simp (disch := omega) only [y_lit, y_n1, nI_add, pk_mul, j_lt, j_b1_s, j_b2_s, j_b3_s, j_b0_s, y_bo, y_bo1, y_bo0, y_i0, y_i1, Classical.not_not, nI_clamp, y_ix, y_lt, y_le, y_eq, y_nP, y_nPs, y_ltP, y_ltQ, y_ltPP, y_eqP, y_eqQ, y_eqPP, if_pos, if_neg, ite_true, ite_false, not_true_eq_false, not_false_eq_true, and_true, true_and, and_false, false_and, or_true, true_or, or_false, false_or, ym_isBoard hM hW, k4, z]
    · rw [if_neg z] at k3 k4
      refine ⟨nP t' - nI lo', ?_, ?_⟩
      · unfold f_X11_balance; simp (disch := omega) only [y_lit, y_n1, nI_add, pk_mul, j_lt, j_b1_s, j_b2_s, j_b3_s, j_b0_s, y_bo, y_bo1, y_bo0, y_i0, y_i1, Classical.not_not, nI_clamp, y_ix, y_lt, y_le, y_eq, y_nP, y_nPs, y_ltP, y_ltQ, y_ltPP, y_eqP, y_eqQ, y_eqPP, if_pos, if_neg, ite_true, ite_false, not_true_eq_false, not_false_eq_true, and_true, true_and, and_false, false_and, or_true, true_or, or_false, false_or, yc_isTold hN hW, k3]
      · unfold f_X12_balance; simp (disch := omega) only [y_lit, y_n1, nI_add, pk_mul, j_lt, j_b1_s, j_b2_s, j_b3_s, j_b0_s, y_bo, y_bo1, y_bo0, y_i0, y_i1, Classical.not_not, nI_clamp, y_ix, y_lt, y_le, y_eq, y_nP, y_nPs, y_ltP, y_ltQ, y_ltPP, y_eqP, y_eqQ, y_eqPP, if_pos, if_neg, ite_true, ite_false, not_true_eq_false, not_false_eq_true, and_true, true_and, and_false, false_and, or_true, true_or, or_false, false_or, ym_isBoard hM hW, k4]
  · refine ⟨-2, ?_, ?_⟩
    · unfold f_X11_balance; simp (disch := omega) only [y_lit, y_n1, nI_add, pk_mul, j_lt, j_b1_s, j_b2_s, j_b3_s, j_b0_s, y_bo, y_bo1, y_bo0, y_i0, y_i1, Classical.not_not, nI_clamp, y_ix, y_lt, y_le, y_eq, y_nP, y_nPs, y_ltP, y_ltQ, y_ltPP, y_eqP, y_eqQ, y_eqPP, if_pos, if_neg, ite_true, ite_false, not_true_eq_false, not_false_eq_true, and_true, true_and, and_false, false_and, or_true, true_or, or_false, false_or, yc_isTold hN hW]
    · unfold f_X12_balance; simp (disch := omega) only [y_lit, y_n1, nI_add, pk_mul, j_lt, j_b1_s, j_b2_s, j_b3_s, j_b0_s, y_bo, y_bo1, y_bo0, y_i0, y_i1, Classical.not_not, nI_clamp, y_ix, y_lt, y_le, y_eq, y_nP, y_nPs, y_ltP, y_ltQ, y_ltPP, y_eqP, y_eqQ, y_eqPP, if_pos, if_neg, ite_true, ite_false, not_true_eq_false, not_false_eq_true, and_true, true_and, and_false, false_and, or_true, true_or, or_false, false_or, ym_isBoard hM hW]
end Z
/-! ===== the kept cells, and a board changed in one place ===== -/
def y_kc (σ σ' : j_G) : Prop := ∀ c, c = 10 ∨ c = 19 ∨ c = 20 ∨ 43 ≤ c → σ'.1 c = σ.1 c ∧ σ'.2 c = σ.2 c
def y_km (τ τ' : j_G) : Prop := (∀ j, j = 5 ∨ j = 12 ∨ j = 13 → τ'.1 75 j = τ.1 75 j) ∧ ∀ c, c = 77 ∨ c = 78 ∨ c = 79 ∨ c = 94 ∨ c = 95 ∨ c = 96 → τ'.1 c = τ.1 c ∧ τ'.2 c = τ.2 c
theorem y_kc.of {σ σ' : j_G} {lo hi : Nat} (h : y_fr lo hi σ σ') (h1 : 20 < lo ∨ hi < 10) (h2 : hi < 43) : y_kc σ σ' := fun c hc => h c (by omega)
theorem y_kc.trans {σ σ' σ'' : j_G} (h : y_kc σ σ') (h' : y_kc σ' σ'') : y_kc σ σ'' := fun c hc => ⟨(h' c hc).1.trans (h c hc).1, (h' c hc).2.trans (h c hc).2⟩
theorem y_kc.refl {σ : j_G} : y_kc σ σ := fun _ _ => ⟨rfl, rfl⟩
theorem y_km.refl {σ : j_G} : y_km σ σ := ⟨fun _ _ => rfl, fun _ _ => ⟨rfl, rfl⟩⟩
theorem y_km.trans {σ σ' σ'' : j_G} (h : y_km σ σ') (h' : y_km σ' σ'') : y_km σ σ'' :=
  ⟨fun j hj => (h'.1 j hj).trans (h.1 j hj), fun c hc => ⟨(h'.2 c hc).1.trans (h.2 c hc).1, (h'.2 c hc).2.trans (h.2 c hc).2⟩⟩
theorem y_km.of {σ σ' : j_G} {f g lo hi : Nat} (h : y_fm f g lo hi σ σ') (h1 : 13 < f) (h2 : 79 < lo ∨ hi < 77) (h3 : hi < 94) : y_km σ σ' :=
  ⟨fun j hj => h.1 j (by omega), fun c hc => h.2 c (by omega) (by omega)⟩
theorem y_km.w {σ : j_G} {j : Nat} {v : Int32} : y_km σ (j_si σ 76 j v) :=
  ⟨fun j' hj => j_r_ne (by omega), fun c hc => ⟨funext fun j' => j_r_ne (by omega), rfl⟩⟩
theorem y_kc.w {σ : j_G} {c j : Nat} {v : Int32} (hc : c < 10) : y_kc σ (j_si σ c j v) :=
  fun c' hc' => ⟨funext fun j' => j_r_ne (by omega), rfl⟩
theorem y_K.fr2 {σ τ σ' τ' : j_G} (h : y_K σ τ) (h1 : y_kc σ σ') (h2 : y_km τ τ') : y_K σ' τ' := by
  obtain ⟨⟨i0, i1, i2⟩, ⟨s0, s1, s2, s3⟩, ht, hf⟩ := h
  have e77 := (h2.2 77 (by omega)).1
  have e78 := (h2.2 78 (by omega)).1
  have e94 := (h2.2 94 (by omega)).1
  have e95 := (h2.2 95 (by omega)).1
  have e96 := (h2.2 96 (by omega)).2
  refine ⟨⟨i0.fr (fun x hx => (h1 x (by omega)).1) e77 e78, i1.fr (fun x hx => (h1 x (by omega)).1) e77 e78, i2.fr (fun x hx => (h1 x (by omega)).1) e77 e78⟩,
    ⟨s0.fr (h1 67 (by omega)).1 (h1 68 (by omega)).2 e94 e95 e96, s1.fr (h1 69 (by omega)).1 (h1 70 (by omega)).2 e94 e95 e96, s2.fr (h1 71 (by omega)).1 (h1 72 (by omega)).2 e94 e95 e96, s3.fr (h1 73 (by omega)).1 (h1 74 (by omega)).2 e94 e95 e96⟩, ?_, ?_⟩
  · unfold y_tp at *
    rw [(h1 19 (by omega)).1, (h1 20 (by omega)).1, h2.1 5 (by omega), (h2.2 79 (by omega)).1]
    exact ht
  · unfold y_ft at *
    rw [(h1 10 (by omega)).1, h2.1 12 (by omega), h2.1 13 (by omega)]
    exact hf
theorem y_M.set {τ : j_G} {b : Nat → Nat} {j v : Nat} (h : y_M τ b) (hj : ¬ (24 ≤ j ∧ j < 96 ∧ j % 3 = 1)) : y_M (j_si τ 76 j (nI v)) (y_u b j v) := by
  intro i hi
  by_cases e : i = j
  · subst e; rw [j_r_eq, if_neg hj, y_ue]
  · rw [j_r_nj e, y_un e]; exact h i hi
/-- stands -/
theorem y_W.set8 {b : Nat → Nat} {k : Nat} (h : y_W b) (hk : k < b 5) : y_W (y_u b 8 k) := by
  obtain ⟨h1, h2, h3, h4, h5, h6, h7, h8, h9⟩ := h
  unfold y_W y_ho at *
  simp (disch := omega) only [y_ue, y_un]
  exact ⟨h1, h2, h3, fun _ => hk, fun z => by omega, h6, h7, h8, h9⟩
theorem y_N.set8 {σ : j_G} {b : Nat → Nat} {k : Nat} (h : y_N σ b) : y_N (j_si σ 5 1 (nI k)) (y_u b 8 k) := by
  obtain ⟨⟨f1, f2, f3, f4, f5, f6, f7, f10, d0, d1⟩, f8, s, t, c⟩ := h
  unfold y_N y_cb
  refine ⟨?_, ?_, ?_, ?_, ?_⟩
  · simp (disch := omega) only [j_r_ne, j_r_eq, j_r_nj, y_ue, y_un]
    exact ⟨f1, f2, f3, f4, f5, f6, f7, f10, d0, trivial⟩
  · simp (disch := omega) only [j_r_ne, j_r_eq, j_r_nj, y_ue, y_un]; exact f8
  · simp (disch := omega) only [j_r_ne, j_r_eq, j_r_nj, y_ue, y_un]; exact s
  · intro p q hp hq
    simp (disch := omega) only [y_ue, y_un] at hp
    have := t p q hp hq
    simp (disch := omega) only [j_r_ne, j_r_eq, j_r_nj, y_ue, y_un]; exact this
  · simp (disch := omega) only [j_r_ne, j_r_eq, j_r_nj, y_ue, y_un]; exact c
/-- red -/
theorem y_W.setr {b : Nat → Nat} {k v : Nat} (h : y_W b) (hk : k < b 5) (hv : v ≤ 1) (ho : b (25 + 3 * k) = 0) : y_W (y_u b (26 + 3 * k) v) := by
  have b5 := h.b5; have b4 := h.b4; have b6 := h.b6
  obtain ⟨h1, h2, h3, h4, h5, h6, h7, h8, h9⟩ := h
  unfold y_W y_ho at *
  refine ⟨?_, ?_, ?_, ?_, ?_, fun j hj => ?_, fun j l hj hl => ?_, fun j hj => ?_, fun j hj => ?_⟩
  · simp (disch := omega) only [y_un]; exact h1
  · simp (disch := omega) only [y_un]; exact h2
  · simp (disch := omega) only [y_un]; exact h3
  · simp (disch := omega) only [y_un]; exact h4
  · simp (disch := omega) only [y_un]; exact h5
  · simp (disch := omega) only [y_un] at hj; simp (disch := omega) only [y_un]; exact h6 j hj
  · simp (disch := omega) only [y_un] at hl; simp (disch := omega) only [y_un]; exact h7 j l hj hl
  · simp (disch := omega) only [y_un] at hj
    have q := h8 j hj
    by_cases e : j = k
    · subst e; simp (disch := omega) only [y_ue, y_un]
      exact ⟨q.1, q.2.1, q.2.2.1, hv, fun z => by omega, q.2.2.2.2.2.1, q.2.2.2.2.2.2⟩
    · simp (disch := omega) only [y_ue, y_un]; exact q
  · simp (disch := omega) only [y_un] at hj; simp (disch := omega) only [y_un]; exact h9 j hj
theorem y_N.setr {σ : j_G} {b : Nat → Nat} {k v : Nat} (h : y_N σ b) (hW : y_W b) (hk : k < b 5) : y_N (j_si σ 8 k (nI v)) (y_u b (26 + 3 * k) v) := by
  have b5 := hW.b5; have b4 := hW.b4; have b6 := hW.b6
  obtain ⟨⟨f1, f2, f3, f4, f5, f6, f7, f10, d0, d1⟩, f8, s, t, c⟩ := h
  unfold y_N y_cb
  refine ⟨?_, ?_, fun j hj => ?_, fun p q hp hq => ?_, fun j hj => ?_⟩
  · simp (disch := omega) only [j_r_ne, y_un]
    exact ⟨f1, f2, f3, f4, f5, f6, f7, f10, d0, d1⟩
  · simp (disch := omega) only [j_r_ne, y_un]; exact f8
  · simp (disch := omega) only [y_un] at hj; simp (disch := omega) only [j_r_ne, y_un]; exact s j hj
  · simp (disch := omega) only [y_un] at hp
    simp (disch := omega) only [j_r_ne, y_un]; exact t p q hp hq
  · simp (disch := omega) only [y_un] at hj
    have := c j hj
    by_cases e : j = k
    · subst e; simp (disch := omega) only [j_r_ne, j_r_eq, y_ue, y_un]; exact ⟨this.1, this.2.1, trivial⟩
    · simp (disch := omega) only [j_r_ne, j_r_eq, j_r_nj, y_ue, y_un]; exact this
/-- a player's number -/
theorem y_W.sett {b : Nat → Nat} {p q v : Nat} (h : y_W b) (hp : p < b 6) (hq : q < 5) (hv : (q = 0 → 1 ≤ v ∧ v ≤ 9) ∧ (q = 1 → v ≤ 20) ∧ (q = 2 → v ≤ 99) ∧ (q = 3 → v ≤ 9) ∧ (q = 4 → v < y_ho b)) : y_W (y_u b (96 + 5 * p + q) v) := by
  have b5 := h.b5; have b4 := h.b4; have b6 := h.b6
  obtain ⟨h1, h2, h3, h4, h5, h6, h7, h8, h9⟩ := h
  unfold y_W y_ho at *
  refine ⟨?_, ?_, ?_, ?_, ?_, fun j hj => ?_, fun j l hj hl => ?_, fun j hj => ?_, fun j hj => ?_⟩
  · simp (disch := omega) only [y_un]; exact h1
  · simp (disch := omega) only [y_un]; exact h2
  · simp (disch := omega) only [y_un]; exact h3
  · simp (disch := omega) only [y_un]; exact h4
  · simp (disch := omega) only [y_un]; exact h5
  · simp (disch := omega) only [y_un] at hj; simp (disch := omega) only [y_un]; exact h6 j hj
  · simp (disch := omega) only [y_un] at hl; simp (disch := omega) only [y_un]; exact h7 j l hj hl
  · simp (disch := omega) only [y_un] at hj; simp (disch := omega) only [y_un]; exact h8 j hj
  · simp (disch := omega) only [y_un] at hj
    have w := h9 j hj
    have e0 : y_u b (96 + 5 * p + q) v 0 = b 0 := y_un (by omega)
    have e1 : y_u b (96 + 5 * p + q) v 1 = b 1 := y_un (by omega)
    rw [e0, e1]
    unfold y_u
    obtain ⟨v0, v1, v2, v3, v4⟩ := hv
    refine ⟨?_, ?_, ?_, ?_, ?_, ?_⟩ <;> split <;> omega
theorem y_N.sett {σ : j_G} {b : Nat → Nat} {p q v : Nat} (h : y_N σ b) (hW : y_W b) (hp : p < b 6) (hq : q < 5) : y_N (j_si σ 4 (5 * p + q) (nI v)) (y_u b (96 + 5 * p + q) v) := by
  have b5 := hW.b5; have b4 := hW.b4; have b6 := hW.b6
  obtain ⟨⟨f1, f2, f3, f4, f5, f6, f7, f10, d0, d1⟩, f8, s, t, c⟩ := h
  unfold y_N y_cb
  refine ⟨?_, ?_, fun j hj => ?_, fun p' q' hp' hq' => ?_, fun j hj => ?_⟩
  · simp (disch := omega) only [j_r_ne, y_un]
    exact ⟨f1, f2, f3, f4, f5, f6, f7, f10, d0, d1⟩
  · simp (disch := omega) only [j_r_ne, y_un]; exact f8
  · simp (disch := omega) only [y_un] at hj; simp (disch := omega) only [j_r_ne, y_un]; exact s j hj
  · simp (disch := omega) only [y_un] at hp'
    by_cases e : 5 * p' + q' = 5 * p + q
    · rw [e, show 96 + 5 * p' + q' = 96 + 5 * p + q from by omega, j_r_eq, y_ue]
    · rw [j_r_nj e, y_un (by omega)]; exact t p' q' hp' hq'
  · simp (disch := omega) only [y_un] at hj
    simp (disch := omega) only [j_r_ne, y_un]; exact c j hj
/-! ===== turn, paint, shut, train ===== -/
theorem y_flip1 (S C : BitVec 32) (h : S &&& C = 0#32) : S ^^^ C = (S &&& ~~~C) ||| C ∧ S &&& ~~~C = S := by
  have hb : ∀ (i : Nat) (hi : i < 32), (S[i] && C[i]) = false := fun i hi => by
    have := congrArg (fun z : BitVec 32 => z[i]) h
    simpa using this
  constructor
  · apply BitVec.eq_of_getElem_eq
    intro i hi
    have := hb i hi
    simp only [BitVec.getElem_xor, BitVec.getElem_or, BitVec.getElem_and, BitVec.getElem_not]
    cases h1 : S[i] <;> cases h2 : C[i] <;> simp_all
  · apply BitVec.eq_of_getElem_eq
    intro i hi
    have := hb i hi
    simp only [BitVec.getElem_and, BitVec.getElem_not]
    cases h1 : S[i] <;> cases h2 : C[i] <;> simp_all
theorem y_flip2 (S C : BitVec 32) (h : S &&& C = C) : S ^^^ C = S &&& ~~~C ∧ (S &&& ~~~C) ||| C = S := by
  have hb : ∀ (i : Nat) (hi : i < 32), (S[i] && C[i]) = C[i] := fun i hi => by
    have := congrArg (fun z : BitVec 32 => z[i]) h
    simpa using this
  constructor
  · apply BitVec.eq_of_getElem_eq
    intro i hi
    have := hb i hi
    simp only [BitVec.getElem_xor, BitVec.getElem_and, BitVec.getElem_not]
    cases h1 : S[i] <;> cases h2 : C[i] <;> simp_all
  · apply BitVec.eq_of_getElem_eq
    intro i hi
    have := hb i hi
    simp only [BitVec.getElem_or, BitVec.getElem_and, BitVec.getElem_not]
    cases h1 : S[i] <;> cases h2 : C[i] <;> simp_all
theorem y_xor {a c : Nat} : nI a ^^^ nI c = nI (a ^^^ c) := by
  apply Int32.toBitVec_inj.mp
  show BitVec.ofNat 32 a ^^^ BitVec.ofNat 32 c = BitVec.ofNat 32 (a ^^^ c)
  rw [BitVec.ofNat_xor]
theorem y_tb {s x : Nat} : s / 2 ^ x % 2 = 1 ↔ s.testBit x = true := by
  rw [Nat.testBit_eq_decide_div_mod_eq, decide_eq_true_iff]
theorem y_tb0 {s x : Nat} (h : s / 2 ^ x % 2 = 0) : s.testBit x = false := by
  cases hb : s.testBit x with
  | false => rfl
  | true => have := y_tb.mpr hb; omega
theorem y_tb2 {s x : Nat} : s / 2 ^ x % 2 = (s.testBit x).toNat := by
  cases hb : s.testBit x with
  | true => exact y_tb.mpr hb
  | false =>
    have : ¬ s / 2 ^ x % 2 = 1 := fun z => by rw [y_tb.mp z] at hb; cases hb
    show _ = 0; omega
theorem y_and0 {s x : Nat} (h : s / 2 ^ x % 2 = 0) : s &&& 2 ^ x = 0 := by
  apply Nat.eq_of_testBit_eq
  intro i
  rw [Nat.testBit_and, Nat.testBit_two_pow, Nat.zero_testBit]
  by_cases e : x = i
  · subst e; rw [y_tb0 h]; rfl
  · rw [decide_eq_false e, Bool.and_false]
theorem y_and1 {s x : Nat} (h : s / 2 ^ x % 2 = 1) : s &&& 2 ^ x = 2 ^ x := by
  apply Nat.eq_of_testBit_eq
  intro i
  rw [Nat.testBit_and, Nat.testBit_two_pow]
  by_cases e : x = i
  · subst e; rw [y_tb.mp h]; rfl
  · rw [decide_eq_false e, Bool.and_false]
theorem y_nPx (C : Int32) : (C ^^^ nP 0).toBitVec = ~~~ C.toBitVec := by
  show C.toBitVec ^^^ BitVec.allOnes 32 = _
  rw [BitVec.xor_allOnes]
/-- the new bits of a hole shut or not -/
noncomputable def y_shn (s x w : Nat) : Nat := if s / 2 ^ x % 2 = w then s else s ^^^ 2 ^ x
theorem ym_shn {s x w : Nat} (hx : x < 12) (hw : w < 2) : (nI s &&& (nI (2 ^ x) ^^^ nP 0)) ||| (nI w <<< (nI x &&& nI 31)) = nI (y_shn s x w) := by
  have h2 : s / 2 ^ x % 2 < 2 := Nat.mod_lt _ (by omega)
  obtain rfl | rfl : w = 0 ∨ w = 1 := by omega
  · have e0 : nI 0 <<< (nI x &&& nI 31) = nI 0 := by
      rw [y_an (by omega), pk_shlN _ x (y_sm x (by omega)) (by omega), Nat.zero_mul]
    rw [e0]
    unfold y_shn
    by_cases c : s / 2 ^ x % 2 = 0
    · rw [if_pos c]
      have q := (y_flip1 (BitVec.ofNat 32 s) (BitVec.ofNat 32 (2 ^ x)) (by rw [← BitVec.ofNat_and, y_and0 c])).2
      apply Int32.toBitVec_inj.mp
      show (BitVec.ofNat 32 s &&& (nI (2 ^ x) ^^^ nP 0).toBitVec) ||| 0#32 = BitVec.ofNat 32 s
      rw [y_nPx, BitVec.or_zero]
      exact q
    · rw [if_neg c]
      have c1 : s / 2 ^ x % 2 = 1 := by omega
      have q := (y_flip2 (BitVec.ofNat 32 s) (BitVec.ofNat 32 (2 ^ x)) (by rw [← BitVec.ofNat_and, y_and1 c1])).1
      apply Int32.toBitVec_inj.mp
      show (BitVec.ofNat 32 s &&& (nI (2 ^ x) ^^^ nP 0).toBitVec) ||| 0#32 = BitVec.ofNat 32 (s ^^^ 2 ^ x)
      rw [y_nPx, BitVec.or_zero, BitVec.ofNat_xor]
      exact q.symm
  · rw [y_shl (by omega)]
    unfold y_shn
    by_cases c : s / 2 ^ x % 2 = 1
    · rw [if_pos c]
      have q := (y_flip2 (BitVec.ofNat 32 s) (BitVec.ofNat 32 (2 ^ x)) (by rw [← BitVec.ofNat_and, y_and1 c])).2
      apply Int32.toBitVec_inj.mp
      show (BitVec.ofNat 32 s &&& (nI (2 ^ x) ^^^ nP 0).toBitVec) ||| BitVec.ofNat 32 (2 ^ x) = BitVec.ofNat 32 s
      rw [y_nPx]
      exact q
    · rw [if_neg c]
      have c0 : s / 2 ^ x % 2 = 0 := by omega
      have q := (y_flip1 (BitVec.ofNat 32 s) (BitVec.ofNat 32 (2 ^ x)) (by rw [← BitVec.ofNat_and, y_and0 c0])).1
      apply Int32.toBitVec_inj.mp
      show (BitVec.ofNat 32 s &&& (nI (2 ^ x) ^^^ nP 0).toBitVec) ||| BitVec.ofNat 32 (2 ^ x) = BitVec.ofNat 32 (s ^^^ 2 ^ x)
      rw [y_nPx, BitVec.ofNat_xor]
      exact q.symm
theorem y_shn_o {s x w j : Nat} (h : j ≠ x) : y_shn s x w / 2 ^ j % 2 = s / 2 ^ j % 2 := by
  unfold y_shn
  split
  · rfl
  · rw [y_tb2, y_tb2, Nat.testBit_xor, Nat.testBit_two_pow_of_ne (fun z => h z.symm), Bool.xor_false]
theorem y_shn_lt {s x w n : Nat} (hs : s < 2 ^ n) (hx : x < n) : y_shn s x w < 2 ^ n := by
  unfold y_shn
  split
  · exact hs
  · exact Nat.xor_lt_two_pow hs (Nat.pow_lt_pow_right (by omega) hx)
theorem y_su_0 {f : Nat → Nat} : ∀ m i, y_su f m i 0 = 0 → ∀ j, i ≤ j → j < i + m → f j = 0 := by
  intro m
  induction m with
  | zero => intro i _ j h1 h2; omega
  | succ m ih =>
    intro i h j h1 h2
    rw [y_su_s] at h
    by_cases e : j = i
    · subst e; omega
    · exact ih (i + 1) (by omega) j (by omega) (by omega)
theorem y_oft0 {b : Nat → Nat} {x : Nat} (h : y_oft b x = 0) {k : Nat} (hk : k < b 5) : b (24 + 3 * k) ≠ x ∧ b (25 + 3 * k) ≠ x + 1 := by
  have q := y_su_0 (b 5) 0 h k (by omega) (by omega)
  unfold y_of1 at q
  by_cases c : b (24 + 3 * k) = x ∨ b (25 + 3 * k) = x + 1
  · rw [if_pos c] at q; omega
  · omega
theorem y_W.set7 {b : Nat → Nat} {x w : Nat} (h : y_W b) (hx : x < y_ho b) (ho : y_oft b x = 0) : y_W (y_u b 7 (y_shn (b 7) x w)) := by
  have b5 := h.b5; have b4 := h.b4
  obtain ⟨⟨a0, a1, a2, a3, a4, a5, a6, a7, a9⟩, h2, h3, h4, h5, h6, h7, h8, h9⟩ := h
  have nw := y_shn_lt (w := w) a7 hx
  unfold y_W y_ho at *
  refine ⟨?_, ?_, ?_, ?_, ?_, fun j hj => ?_, fun j l hj hl => ?_, fun j hj => ?_, fun j hj => ?_⟩
  · simp (disch := omega) only [y_ue, y_un]; exact ⟨a0, a1, a2, a3, a4, a5, a6, nw, a9⟩
  · simp (disch := omega) only [y_un]; exact h2
  · simp (disch := omega) only [y_un]; exact h3
  · simp (disch := omega) only [y_un]; exact h4
  · simp (disch := omega) only [y_un]; exact h5
  · simp (disch := omega) only [y_un] at hj; simp (disch := omega) only [y_un]; exact h6 j hj
  · simp (disch := omega) only [y_un] at hl; simp (disch := omega) only [y_un]; exact h7 j l hj hl
  · simp (disch := omega) only [y_un] at hj
    have q := h8 j hj
    have o := y_oft0 ho hj
    simp (disch := omega) only [y_ue, y_un]
    refine ⟨q.1, q.2.1, q.2.2.1, q.2.2.2.1, q.2.2.2.2.1, ?_, fun z => ?_⟩
    · rw [y_shn_o o.1]; exact q.2.2.2.2.2.1
    · rw [y_shn_o (by omega)]; exact q.2.2.2.2.2.2 z
  · simp (disch := omega) only [y_un] at hj; simp (disch := omega) only [y_un]; exact h9 j hj
theorem y_N.set7 {σ : j_G} {b : Nat → Nat} {k : Nat} (h : y_N σ b) : y_N (j_si σ 1 6 (nI k)) (y_u b 7 k) := by
  obtain ⟨⟨f1, f2, f3, f4, f5, f6, f7, f10, d0, d1⟩, f8, s, t, c⟩ := h
  unfold y_N y_cb
  refine ⟨?_, ?_, ?_, ?_, ?_⟩
  · simp (disch := omega) only [j_r_ne, j_r_eq, j_r_nj, y_ue, y_un]
    exact ⟨f1, f2, f3, f4, f5, trivial, f7, f10, d0, d1⟩
  · simp (disch := omega) only [j_r_ne, j_r_eq, j_r_nj, y_ue, y_un]; exact f8
  · simp (disch := omega) only [j_r_ne, j_r_eq, j_r_nj, y_ue, y_un]; exact s
  · intro p q hp hq
    simp (disch := omega) only [y_ue, y_un] at hp
    have := t p q hp hq
    simp (disch := omega) only [j_r_ne, j_r_eq, j_r_nj, y_ue, y_un]; exact this
  · simp (disch := omega) only [j_r_ne, j_r_eq, j_r_nj, y_ue, y_un]; exact c
section Z
variable {σ τ : j_G}
theorem z_turn (hR : j_Rel σ τ) (a1 : Int32) : ∃ v σ1 τ1, f_X11_turn a1 σ = some (v, σ1) ∧ f_X12_turn a1 τ = some (v, τ1) ∧ j_Rel σ1 τ1 := by
  obtain ⟨b, hW, hN, hM, hK⟩ := id hR
  have h5 := hW.b5
  by_cases h : y_rg a1 (b 5)
  · obtain ⟨k, hk, rfl⟩ := y_of _ _ h.1 h.2
    refine ⟨nI (b 8), j_si σ 5 1 (nI k), j_si τ 76 8 (nI k), ?_, ?_, y_u b 8 k, hW.set8 hk, hN.set8, hM.set (by omega), hK.fr2 (y_kc.w (by omega)) y_km.w⟩
    · unfold f_X11_turn; simp (disch := omega) only [y_lit, y_n1, nI_add, pk_mul, j_lt, j_b1_s, j_b2_s, j_b3_s, j_b0_s, y_bo, y_bo1, y_bo0, y_i0, y_i1, Classical.not_not, nI_clamp, y_ix, y_lt, y_le, y_eq, y_nP, y_nPs, y_ltP, y_ltQ, y_ltPP, y_eqP, y_eqQ, y_eqPP, if_pos, if_neg, ite_true, ite_false, not_true_eq_false, not_false_eq_true, and_true, true_and, and_false, false_and, or_true, true_or, or_false, false_or, yc_has hN hW, y_rn, hN.d1]
    · unfold f_X12_turn; simp (disch := omega) only [y_lit, y_n1, nI_add, pk_mul, j_lt, j_b1_s, j_b2_s, j_b3_s, j_b0_s, y_bo, y_bo1, y_bo0, y_i0, y_i1, Classical.not_not, nI_clamp, y_ix, y_lt, y_le, y_eq, y_nP, y_nPs, y_ltP, y_ltQ, y_ltPP, y_eqP, y_eqQ, y_eqPP, if_pos, if_neg, ite_true, ite_false, not_true_eq_false, not_false_eq_true, and_true, true_and, and_false, false_and, or_true, true_or, or_false, false_or, ym_isComing hM hW, y_rn, hM.f]
  · refine ⟨-2, σ, τ, ?_, ?_, hR⟩
    · unfold f_X11_turn; simp (disch := omega) only [y_lit, y_n1, nI_add, pk_mul, j_lt, j_b1_s, j_b2_s, j_b3_s, j_b0_s, y_bo, y_bo1, y_bo0, y_i0, y_i1, Classical.not_not, nI_clamp, y_ix, y_lt, y_le, y_eq, y_nP, y_nPs, y_ltP, y_ltQ, y_ltPP, y_eqP, y_eqQ, y_eqPP, if_pos, if_neg, ite_true, ite_false, not_true_eq_false, not_false_eq_true, and_true, true_and, and_false, false_and, or_true, true_or, or_false, false_or, yc_has hN hW, h]
    · unfold f_X12_turn; simp (disch := omega) only [y_lit, y_n1, nI_add, pk_mul, j_lt, j_b1_s, j_b2_s, j_b3_s, j_b0_s, y_bo, y_bo1, y_bo0, y_i0, y_i1, Classical.not_not, nI_clamp, y_ix, y_lt, y_le, y_eq, y_nP, y_nPs, y_ltP, y_ltQ, y_ltPP, y_eqP, y_eqQ, y_eqPP, if_pos, if_neg, ite_true, ite_false, not_true_eq_false, not_false_eq_true, and_true, true_and, and_false, false_and, or_true, true_or, or_false, false_or, ym_isComing hM hW, h]
theorem z_paint (hR : j_Rel σ τ) (a1 a2 : Int32) : ∃ v σ1 τ1, f_X11_paint a1 a2 σ = some (v, σ1) ∧ f_X12_paint a1 a2 τ = some (v, τ1) ∧ j_Rel σ1 τ1 := by
  obtain ⟨b, hW, hN, hM, hK⟩ := id hR
  have h5 := hW.b5
  have h4 := hW.ho
  by_cases h : y_rg a1 (b 5)
  · by_cases h2 : y_rg a2 2
    · obtain ⟨k, hk, rfl⟩ := y_of _ _ h.1 h.2
      obtain ⟨w, hw, rfl⟩ := y_of _ _ h2.1 h2.2
      have q := hW.co hk
      by_cases c : b (25 + 3 * k) = 0
      · refine ⟨nI (b (26 + 3 * k)), j_si σ 8 k (nI w), j_si τ 76 (26 + 3 * k) (nI w), ?_, ?_, y_u b (26 + 3 * k) w, hW.setr hk (by omega) c, hN.setr hW hk, hM.set (by omega), hK.fr2 (y_kc.w (by omega)) y_km.w⟩
        · unfold f_X11_paint; simp (disch := omega) only [y_lit, y_n1, nI_add, pk_mul, j_lt, j_b1_s, j_b2_s, j_b3_s, j_b0_s, y_bo, y_bo1, y_bo0, y_i0, y_i1, Classical.not_not, nI_clamp, y_ix, y_lt, y_le, y_eq, y_nP, y_nPs, y_ltP, y_ltQ, y_ltPP, y_eqP, y_eqQ, y_eqPP, if_pos, if_neg, ite_true, ite_false, not_true_eq_false, not_false_eq_true, and_true, true_and, and_false, false_and, or_true, true_or, or_false, false_or, yc_has hN hW, y_rn, hN.k1 hk, hN.k2 hk]
        · unfold f_X12_paint; simp (disch := omega) only [y_lit, y_n1, nI_add, pk_mul, j_lt, j_b1_s, j_b2_s, j_b3_s, j_b0_s, y_bo, y_bo1, y_bo0, y_i0, y_i1, Classical.not_not, nI_clamp, y_ix, y_lt, y_le, y_eq, y_nP, y_nPs, y_ltP, y_ltQ, y_ltPP, y_eqP, y_eqQ, y_eqPP, if_pos, if_neg, ite_true, ite_false, not_true_eq_false, not_false_eq_true, and_true, true_and, and_false, false_and, or_true, true_or, or_false, false_or, ym_isComing hM hW, y_rn, y_lit64, y_in, ym_co1 hM, ym_co2 hM, Nat.add_right_comm 24 _ 2]
      · refine ⟨-2, σ, τ, ?_, ?_, hR⟩
        · unfold f_X11_paint; simp (disch := omega) only [y_lit, y_n1, nI_add, pk_mul, j_lt, j_b1_s, j_b2_s, j_b3_s, j_b0_s, y_bo, y_bo1, y_bo0, y_i0, y_i1, Classical.not_not, nI_clamp, y_ix, y_lt, y_le, y_eq, y_nP, y_nPs, y_ltP, y_ltQ, y_ltPP, y_eqP, y_eqQ, y_eqPP, if_pos, if_neg, ite_true, ite_false, not_true_eq_false, not_false_eq_true, and_true, true_and, and_false, false_and, or_true, true_or, or_false, false_or, yc_has hN hW, y_rn, hN.k1 hk]
        · unfold f_X12_paint; simp (disch := omega) only [y_lit, y_n1, nI_add, pk_mul, j_lt, j_b1_s, j_b2_s, j_b3_s, j_b0_s, y_bo, y_bo1, y_bo0, y_i0, y_i1, Classical.not_not, nI_clamp, y_ix, y_lt, y_le, y_eq, y_nP, y_nPs, y_ltP, y_ltQ, y_ltPP, y_eqP, y_eqQ, y_eqPP, if_pos, if_neg, ite_true, ite_false, not_true_eq_false, not_false_eq_true, and_true, true_and, and_false, false_and, or_true, true_or, or_false, false_or, ym_isComing hM hW, y_rn, y_lit64, y_in, ym_co1 hM]
    · refine ⟨-2, σ, τ, ?_, ?_, hR⟩
      · unfold f_X11_paint; simp (disch := omega) only [y_lit, y_n1, nI_add, pk_mul, j_lt, j_b1_s, j_b2_s, j_b3_s, j_b0_s, y_bo, y_bo1, y_bo0, y_i0, y_i1, Classical.not_not, nI_clamp, y_ix, y_lt, y_le, y_eq, y_nP, y_nPs, y_ltP, y_ltQ, y_ltPP, y_eqP, y_eqQ, y_eqPP, if_pos, if_neg, ite_true, ite_false, not_true_eq_false, not_false_eq_true, and_true, true_and, and_false, false_and, or_true, true_or, or_false, false_or, yc_has hN hW, y_c3, h2]
      · unfold f_X12_paint; simp (disch := omega) only [y_lit, y_n1, nI_add, pk_mul, j_lt, j_b1_s, j_b2_s, j_b3_s, j_b0_s, y_bo, y_bo1, y_bo0, y_i0, y_i1, Classical.not_not, nI_clamp, y_ix, y_lt, y_le, y_eq, y_nP, y_nPs, y_ltP, y_ltQ, y_ltPP, y_eqP, y_eqQ, y_eqPP, if_pos, if_neg, ite_true, ite_false, not_true_eq_false, not_false_eq_true, and_true, true_and, and_false, false_and, or_true, true_or, or_false, false_or, ym_isComing hM hW, y_lit64, y_in, y_c3, h2]
  · refine ⟨-2, σ, τ, ?_, ?_, hR⟩
    · unfold f_X11_paint; simp (disch := omega) only [y_lit, y_n1, nI_add, pk_mul, j_lt, j_b1_s, j_b2_s, j_b3_s, j_b0_s, y_bo, y_bo1, y_bo0, y_i0, y_i1, Classical.not_not, nI_clamp, y_ix, y_lt, y_le, y_eq, y_nP, y_nPs, y_ltP, y_ltQ, y_ltPP, y_eqP, y_eqQ, y_eqPP, if_pos, if_neg, ite_true, ite_false, not_true_eq_false, not_false_eq_true, and_true, true_and, and_false, false_and, or_true, true_or, or_false, false_or, yc_has hN hW, h]
    · unfold f_X12_paint; simp (disch := omega) only [y_lit, y_n1, nI_add, pk_mul, j_lt, j_b1_s, j_b2_s, j_b3_s, j_b0_s, y_bo, y_bo1, y_bo0, y_i0, y_i1, Classical.not_not, nI_clamp, y_ix, y_lt, y_le, y_eq, y_nP, y_nPs, y_ltP, y_ltQ, y_ltPP, y_eqP, y_eqQ, y_eqPP, if_pos, if_neg, ite_true, ite_false, not_true_eq_false, not_false_eq_true, and_true, true_and, and_false, false_and, or_true, true_or, or_false, false_or, ym_isComing hM hW, h]
theorem z_shut (hR : j_Rel σ τ) (a1 a2 : Int32) : ∃ v σ1 τ1, f_X11_shut a1 a2 σ = some (v, σ1) ∧ f_X12_shut a1 a2 τ = some (v, τ1) ∧ j_Rel σ1 τ1 := by
  obtain ⟨b, hW, hN, hM, hK⟩ := id hR
  have h5 := hW.b5
  have h4 := hW.ho
  by_cases h : y_rg a1 (y_ho b)
  · by_cases h2 : y_rg a2 2
    · obtain ⟨x, hx, rfl⟩ := y_of _ _ h.1 h.2
      obtain ⟨w, hw, rfl⟩ := y_of _ _ h2.1 h2.2
      have ol := y_oft_le b x
      by_cases c : y_oft b x = 0
      · have sl := y_sh_le b x
        have e2 : (nI (b 7) &&& (nI (2 ^ x) ^^^ nP 0)) ||| (nI w <<< (nI x &&& nI 31)) = nI (y_shn (b 7) x w) := ym_shn (by omega) (by omega)
        have hm : f_X12_shut (nI x) (nI w) τ = some (nI (y_sh b x), j_si τ 76 7 (nI (y_shn (b 7) x w))) := by
          unfold f_X12_shut; simp (disch := omega) only [y_lit, y_n1, nI_add, pk_mul, j_lt, j_b1_s, j_b2_s, j_b3_s, j_b0_s, y_bo, y_bo1, y_bo0, y_i0, y_i1, Classical.not_not, nI_clamp, y_ix, y_lt, y_le, y_eq, y_nP, y_nPs, y_ltP, y_ltQ, y_ltPP, y_eqP, y_eqQ, y_eqPP, if_pos, if_neg, ite_true, ite_false, not_true_eq_false, not_false_eq_true, and_true, true_and, and_false, false_and, or_true, true_or, or_false, false_or, ym_isHole hM hW, y_rn, y_lit64, y_in, ym_oft hM hW, c, ym_isShut hM hW, hM.f, y_shl, e2]
          by_cases s : y_sh b x = 1
          · rw [if_pos s, s]
          · have s0 : y_sh b x = 0 := by omega
            rw [if_neg s, s0]
        by_cases d : y_sh b x = w
        · have es : y_shn (b 7) x w = b 7 := if_pos d
          rw [es] at hm
          have eb : y_u b 7 (b 7) = b := y_uid
          have hM1 := hM.set (j := 7) (v := b 7) (by omega)
          rw [eb] at hM1
          refine ⟨nI (y_sh b x), σ, j_si τ 76 7 (nI (b 7)), ?_, hm, b, hW, hN, hM1, hK.fr2 y_kc.refl y_km.w⟩
          unfold f_X11_shut; simp (disch := omega) only [y_lit, y_n1, nI_add, pk_mul, j_lt, j_b1_s, j_b2_s, j_b3_s, j_b0_s, y_bo, y_bo1, y_bo0, y_i0, y_i1, Classical.not_not, nI_clamp, y_ix, y_lt, y_le, y_eq, y_nP, y_nPs, y_ltP, y_ltQ, y_ltPP, y_eqP, y_eqQ, y_eqPP, if_pos, if_neg, ite_true, ite_false, not_true_eq_false, not_false_eq_true, and_true, true_and, and_false, false_and, or_true, true_or, or_false, false_or, yc_isHole hN hW, y_rn, yc_oft hN hW, c, yc_isShut hN hW]
          by_cases s : y_sh b x = 1
          · simp (disch := omega) only [y_lit, y_n1, nI_add, pk_mul, j_lt, j_b1_s, j_b2_s, j_b3_s, j_b0_s, y_bo, y_bo1, y_bo0, y_i0, y_i1, Classical.not_not, nI_clamp, y_ix, y_lt, y_le, y_eq, y_nP, y_nPs, y_ltP, y_ltQ, y_ltPP, y_eqP, y_eqQ, y_eqPP, if_pos, if_neg, ite_true, ite_false, not_true_eq_false, not_false_eq_true, and_true, true_and, and_false, false_and, or_true, true_or, or_false, false_or]
            rw [s]
          · have s0 : y_sh b x = 0 := by omega
            simp (disch := omega) only [y_lit, y_n1, nI_add, pk_mul, j_lt, j_b1_s, j_b2_s, j_b3_s, j_b0_s, y_bo, y_bo1, y_bo0, y_i0, y_i1, Classical.not_not, nI_clamp, y_ix, y_lt, y_le, y_eq, y_nP, y_nPs, y_ltP, y_ltQ, y_ltPP, y_eqP, y_eqQ, y_eqPP, if_pos, if_neg, ite_true, ite_false, not_true_eq_false, not_false_eq_true, and_true, true_and, and_false, false_and, or_true, true_or, or_false, false_or]
            rw [s0]
        · have es : y_shn (b 7) x w = b 7 ^^^ 2 ^ x := if_neg d
          refine ⟨nI (y_sh b x), j_si σ 1 6 (nI (y_shn (b 7) x w)), j_si τ 76 7 (nI (y_shn (b 7) x w)), ?_, hm, y_u b 7 (y_shn (b 7) x w), hW.set7 hx c, hN.set7, hM.set (by omega), hK.fr2 (y_kc.w (by omega)) y_km.w⟩
          unfold f_X11_shut; simp (disch := omega) only [y_lit, y_n1, nI_add, pk_mul, j_lt, j_b1_s, j_b2_s, j_b3_s, j_b0_s, y_bo, y_bo1, y_bo0, y_i0, y_i1, Classical.not_not, nI_clamp, y_ix, y_lt, y_le, y_eq, y_nP, y_nPs, y_ltP, y_ltQ, y_ltPP, y_eqP, y_eqQ, y_eqPP, if_pos, if_neg, ite_true, ite_false, not_true_eq_false, not_false_eq_true, and_true, true_and, and_false, false_and, or_true, true_or, or_false, false_or, yc_isHole hN hW, y_rn, yc_oft hN hW, c, yc_isShut hN hW, hN.f6, y_shl, y_xor, es]
          by_cases s : y_sh b x = 1
          · simp (disch := omega) only [y_lit, y_n1, nI_add, pk_mul, j_lt, j_b1_s, j_b2_s, j_b3_s, j_b0_s, y_bo, y_bo1, y_bo0, y_i0, y_i1, Classical.not_not, nI_clamp, y_ix, y_lt, y_le, y_eq, y_nP, y_nPs, y_ltP, y_ltQ, y_ltPP, y_eqP, y_eqQ, y_eqPP, if_pos, if_neg, ite_true, ite_false, not_true_eq_false, not_false_eq_true, and_true, true_and, and_false, false_and, or_true, true_or, or_false, false_or]
            rw [s]
          · have s0 : y_sh b x = 0 := by omega
            simp (disch := omega) only [y_lit, y_n1, nI_add, pk_mul, j_lt, j_b1_s, j_b2_s, j_b3_s, j_b0_s, y_bo, y_bo1, y_bo0, y_i0, y_i1, Classical.not_not, nI_clamp, y_ix, y_lt, y_le, y_eq, y_nP, y_nPs, y_ltP, y_ltQ, y_ltPP, y_eqP, y_eqQ, y_eqPP, if_pos, if_neg, ite_true, ite_false, not_true_eq_false, not_false_eq_true, and_true, true_and, and_false, false_and, or_true, true_or, or_false, false_or]
            rw [s0]
      · refine ⟨-2, σ, τ, ?_, ?_, hR⟩
        · unfold f_X11_shut; simp (disch := omega) only [y_lit, y_n1, nI_add, pk_mul, j_lt, j_b1_s, j_b2_s, j_b3_s, j_b0_s, y_bo, y_bo1, y_bo0, y_i0, y_i1, Classical.not_not, nI_clamp, y_ix, y_lt, y_le, y_eq, y_nP, y_nPs, y_ltP, y_ltQ, y_ltPP, y_eqP, y_eqQ, y_eqPP, if_pos, if_neg, ite_true, ite_false, not_true_eq_false, not_false_eq_true, and_true, true_and, and_false, false_and, or_true, true_or, or_false, false_or, yc_isHole hN hW, y_rn, yc_oft hN hW]
        · unfold f_X12_shut; simp (disch := omega) only [y_lit, y_n1, nI_add, pk_mul, j_lt, j_b1_s, j_b2_s, j_b3_s, j_b0_s, y_bo, y_bo1, y_bo0, y_i0, y_i1, Classical.not_not, nI_clamp, y_ix, y_lt, y_le, y_eq, y_nP, y_nPs, y_ltP, y_ltQ, y_ltPP, y_eqP, y_eqQ, y_eqPP, if_pos, if_neg, ite_true, ite_false, not_true_eq_false, not_false_eq_true, and_true, true_and, and_false, false_and, or_true, true_or, or_false, false_or, ym_isHole hM hW, y_rn, y_lit64, y_in, ym_oft hM hW]
    · refine ⟨-2, σ, τ, ?_, ?_, hR⟩
      · unfold f_X11_shut; simp (disch := omega) only [y_lit, y_n1, nI_add, pk_mul, j_lt, j_b1_s, j_b2_s, j_b3_s, j_b0_s, y_bo, y_bo1, y_bo0, y_i0, y_i1, Classical.not_not, nI_clamp, y_ix, y_lt, y_le, y_eq, y_nP, y_nPs, y_ltP, y_ltQ, y_ltPP, y_eqP, y_eqQ, y_eqPP, if_pos, if_neg, ite_true, ite_false, not_true_eq_false, not_false_eq_true, and_true, true_and, and_false, false_and, or_true, true_or, or_false, false_or, yc_isHole hN hW, y_c3, h2]
      · unfold f_X12_shut; simp (disch := omega) only [y_lit, y_n1, nI_add, pk_mul, j_lt, j_b1_s, j_b2_s, j_b3_s, j_b0_s, y_bo, y_bo1, y_bo0, y_i0, y_i1, Classical.not_not, nI_clamp, y_ix, y_lt, y_le, y_eq, y_nP, y_nPs, y_ltP, y_ltQ, y_ltPP, y_eqP, y_eqQ, y_eqPP, if_pos, if_neg, ite_true, ite_false, not_true_eq_false, not_false_eq_true, and_true, true_and, and_false, false_and, or_true, true_or, or_false, false_or, ym_isHole hM hW, y_lit64, y_in, y_c3, h2]
  · refine ⟨-2, σ, τ, ?_, ?_, hR⟩
    · unfold f_X11_shut; simp (disch := omega) only [y_lit, y_n1, nI_add, pk_mul, j_lt, j_b1_s, j_b2_s, j_b3_s, j_b0_s, y_bo, y_bo1, y_bo0, y_i0, y_i1, Classical.not_not, nI_clamp, y_ix, y_lt, y_le, y_eq, y_nP, y_nPs, y_ltP, y_ltQ, y_ltPP, y_eqP, y_eqQ, y_eqPP, if_pos, if_neg, ite_true, ite_false, not_true_eq_false, not_false_eq_true, and_true, true_and, and_false, false_and, or_true, true_or, or_false, false_or, yc_isHole hN hW, h]
    · unfold f_X12_shut; simp (disch := omega) only [y_lit, y_n1, nI_add, pk_mul, j_lt, j_b1_s, j_b2_s, j_b3_s, j_b0_s, y_bo, y_bo1, y_bo0, y_i0, y_i1, Classical.not_not, nI_clamp, y_ix, y_lt, y_le, y_eq, y_nP, y_nPs, y_ltP, y_ltQ, y_ltPP, y_eqP, y_eqQ, y_eqPP, if_pos, if_neg, ite_true, ite_false, not_true_eq_false, not_false_eq_true, and_true, true_and, and_false, false_and, or_true, true_or, or_false, false_or, ym_isHole hM hW, h]
end Z
/-! ===== train ===== -/
def y_tok (b : Nat → Nat) (q : Nat) (x : Int32) : Prop := (q = 0 ∧ 1 ≤ x.toInt ∧ x.toInt ≤ 9) ∨ (q = 1 ∧ y_rg x 21) ∨ (q = 2 ∧ y_rg x 100) ∨ (q = 3 ∧ y_rg x 10) ∨ (q = 4 ∧ y_rg x (y_ho b))
theorem y_c19 {x : Int32} : (¬ x < nI 1 ∧ ¬ nI 9 < x) ↔ 1 ≤ x.toInt ∧ x.toInt ≤ 9 := by
  rw [j_ltI, j_ltI, nI_toInt (by omega), nI_toInt (by omega)]; omega
section Z
variable {σ τ : j_G}
theorem z_train (hR : j_Rel σ τ) (a1 a2 a3 : Int32) : ∃ v σ1 τ1, f_X11_train a1 a2 a3 σ = some (v, σ1) ∧ f_X12_train a1 a2 a3 τ = some (v, τ1) ∧ j_Rel σ1 τ1 := by
  obtain ⟨b, hW, hN, hM, hK⟩ := id hR
  have h6 := hW.b6
  have h4 := hW.ho
  by_cases h : y_rg a1 (b 6)
  · obtain ⟨p, hp, rfl⟩ := y_of _ _ h.1 h.2
    have done : ∀ q n, q < 5 → ((q = 0 → 1 ≤ n ∧ n ≤ 9) ∧ (q = 1 → n ≤ 20) ∧ (q = 2 → n ≤ 99) ∧ (q = 3 → n ≤ 9) ∧ (q = 4 → n < y_ho b)) → a2 = nI q → a3 = nI n → ∃ v σ1 τ1, f_X11_train (nI p) a2 a3 σ = some (v, σ1) ∧ f_X12_train (nI p) a2 a3 τ = some (v, τ1) ∧ j_Rel σ1 τ1 := by
      intro q n hq hn e2 e3
      subst e2 e3
      have hnn : n < 200 := by obtain ⟨v0, v1, v2, v3, v4⟩ := hn; omega
      have et : f_X2_isTrait 1 (nI q) (nI n) σ = nI 1 := by
        unfold f_X2_isTrait
        obtain ⟨v0, v1, v2, v3, v4⟩ := hn
        obtain rfl | rfl | rfl | rfl | rfl : q = 0 ∨ q = 1 ∨ q = 2 ∨ q = 3 ∨ q = 4 := by omega
        · have := v0 rfl; clear v0 v1 v2 v3 v4; simp (disch := omega) only [y_lit, y_n1, nI_add, pk_mul, j_lt, j_b1_s, j_b2_s, j_b3_s, j_b0_s, y_bo, y_bo1, y_bo0, y_i0, y_i1, Classical.not_not, nI_clamp, y_ix, y_lt, y_le, y_eq, y_nP, y_nPs, y_ltP, y_ltQ, y_ltPP, y_eqP, y_eqQ, y_eqPP, if_pos, if_neg, ite_true, ite_false, not_true_eq_false, not_false_eq_true, and_true, true_and, and_false, false_and, or_true, true_or, or_false, false_or]
        · have := v1 rfl; clear v0 v1 v2 v3 v4; simp (disch := omega) only [y_lit, y_n1, nI_add, pk_mul, j_lt, j_b1_s, j_b2_s, j_b3_s, j_b0_s, y_bo, y_bo1, y_bo0, y_i0, y_i1, Classical.not_not, nI_clamp, y_ix, y_lt, y_le, y_eq, y_nP, y_nPs, y_ltP, y_ltQ, y_ltPP, y_eqP, y_eqQ, y_eqPP, if_pos, if_neg, ite_true, ite_false, not_true_eq_false, not_false_eq_true, and_true, true_and, and_false, false_and, or_true, true_or, or_false, false_or]
        · have := v2 rfl; clear v0 v1 v2 v3 v4; simp (disch := omega) only [y_lit, y_n1, nI_add, pk_mul, j_lt, j_b1_s, j_b2_s, j_b3_s, j_b0_s, y_bo, y_bo1, y_bo0, y_i0, y_i1, Classical.not_not, nI_clamp, y_ix, y_lt, y_le, y_eq, y_nP, y_nPs, y_ltP, y_ltQ, y_ltPP, y_eqP, y_eqQ, y_eqPP, if_pos, if_neg, ite_true, ite_false, not_true_eq_false, not_false_eq_true, and_true, true_and, and_false, false_and, or_true, true_or, or_false, false_or]
        · have := v3 rfl; clear v0 v1 v2 v3 v4; simp (disch := omega) only [y_lit, y_n1, nI_add, pk_mul, j_lt, j_b1_s, j_b2_s, j_b3_s, j_b0_s, y_bo, y_bo1, y_bo0, y_i0, y_i1, Classical.not_not, nI_clamp, y_ix, y_lt, y_le, y_eq, y_nP, y_nPs, y_ltP, y_ltQ, y_ltPP, y_eqP, y_eqQ, y_eqPP, if_pos, if_neg, ite_true, ite_false, not_true_eq_false, not_false_eq_true, and_true, true_and, and_false, false_and, or_true, true_or, or_false, false_or]
        · have := v4 rfl; clear v0 v1 v2 v3 v4; simp (disch := omega) only [y_lit, y_n1, nI_add, pk_mul, j_lt, j_b1_s, j_b2_s, j_b3_s, j_b0_s, y_bo, y_bo1, y_bo0, y_i0, y_i1, Classical.not_not, nI_clamp, y_ix, y_lt, y_le, y_eq, y_nP, y_nPs, y_ltP, y_ltQ, y_ltPP, y_eqP, y_eqQ, y_eqPP, if_pos, if_neg, ite_true, ite_false, not_true_eq_false, not_false_eq_true, and_true, true_and, and_false, false_and, or_true, true_or, or_false, false_or, yc_isHole hN hW, y_rn]
      refine ⟨nI (b (96 + 5 * p + q)), j_si σ 4 (5 * p + q) (nI n), j_si τ 76 (96 + 5 * p + q) (nI n), ?_, ?_, y_u b (96 + 5 * p + q) n, hW.sett hp hq hn, hN.sett hW hp hq, hM.set (by omega), hK.fr2 (y_kc.w (by omega)) y_km.w⟩
      · unfold f_X11_train f_X2_setTrait; simp (disch := omega) only [y_lit, y_n1, nI_add, pk_mul, j_lt, j_b1_s, j_b2_s, j_b3_s, j_b0_s, y_bo, y_bo1, y_bo0, y_i0, y_i1, Classical.not_not, nI_clamp, y_ix, y_lt, y_le, y_eq, y_nP, y_nPs, y_ltP, y_ltQ, y_ltPP, y_eqP, y_eqQ, y_eqPP, if_pos, if_neg, ite_true, ite_false, not_true_eq_false, not_false_eq_true, and_true, true_and, and_false, false_and, or_true, true_or, or_false, false_or, yc_isPlayer hN hW, y_rn, et, yc_trait hN hW, Nat.mul_comm p 5]
      · unfold f_X12_train
        obtain ⟨v0, v1, v2, v3, v4⟩ := hn
        obtain rfl | rfl | rfl | rfl | rfl : q = 0 ∨ q = 1 ∨ q = 2 ∨ q = 3 ∨ q = 4 := by omega
        · have := v0 rfl; clear v0 v1 v2 v3 v4; simp (disch := omega) only [y_lit, y_n1, nI_add, pk_mul, j_lt, j_b1_s, j_b2_s, j_b3_s, j_b0_s, y_bo, y_bo1, y_bo0, y_i0, y_i1, Classical.not_not, nI_clamp, y_ix, y_lt, y_le, y_eq, y_nP, y_nPs, y_ltP, y_ltQ, y_ltPP, y_eqP, y_eqQ, y_eqPP, if_pos, if_neg, ite_true, ite_false, not_true_eq_false, not_false_eq_true, and_true, true_and, and_false, false_and, or_true, true_or, or_false, false_or, ym_isPlayer hM hW, y_rn, y_lit64, y_in, ym_of hM]
        · have := v1 rfl; clear v0 v1 v2 v3 v4; simp (disch := omega) only [y_lit, y_n1, nI_add, pk_mul, j_lt, j_b1_s, j_b2_s, j_b3_s, j_b0_s, y_bo, y_bo1, y_bo0, y_i0, y_i1, Classical.not_not, nI_clamp, y_ix, y_lt, y_le, y_eq, y_nP, y_nPs, y_ltP, y_ltQ, y_ltPP, y_eqP, y_eqQ, y_eqPP, if_pos, if_neg, ite_true, ite_false, not_true_eq_false, not_false_eq_true, and_true, true_and, and_false, false_and, or_true, true_or, or_false, false_or, ym_isPlayer hM hW, y_rn, y_lit64, y_in, ym_of hM]
        · have := v2 rfl; clear v0 v1 v2 v3 v4; simp (disch := omega) only [y_lit, y_n1, nI_add, pk_mul, j_lt, j_b1_s, j_b2_s, j_b3_s, j_b0_s, y_bo, y_bo1, y_bo0, y_i0, y_i1, Classical.not_not, nI_clamp, y_ix, y_lt, y_le, y_eq, y_nP, y_nPs, y_ltP, y_ltQ, y_ltPP, y_eqP, y_eqQ, y_eqPP, if_pos, if_neg, ite_true, ite_false, not_true_eq_false, not_false_eq_true, and_true, true_and, and_false, false_and, or_true, true_or, or_false, false_or, ym_isPlayer hM hW, y_rn, y_lit64, y_in, ym_of hM]
        · have := v3 rfl; clear v0 v1 v2 v3 v4; simp (disch := omega) only [y_lit, y_n1, nI_add, pk_mul, j_lt, j_b1_s, j_b2_s, j_b3_s, j_b0_s, y_bo, y_bo1, y_bo0, y_i0, y_i1, Classical.not_not, nI_clamp, y_ix, y_lt, y_le, y_eq, y_nP, y_nPs, y_ltP, y_ltQ, y_ltPP, y_eqP, y_eqQ, y_eqPP, if_pos, if_neg, ite_true, ite_false, not_true_eq_false, not_false_eq_true, and_true, true_and, and_false, false_and, or_true, true_or, or_false, false_or, ym_isPlayer hM hW, y_rn, y_lit64, y_in, ym_of hM]
        · have := v4 rfl; clear v0 v1 v2 v3 v4; simp (disch := omega) only [y_lit, y_n1, nI_add, pk_mul, j_lt, j_b1_s, j_b2_s, j_b3_s, j_b0_s, y_bo, y_bo1, y_bo0, y_i0, y_i1, Classical.not_not, nI_clamp, y_ix, y_lt, y_le, y_eq, y_nP, y_nPs, y_ltP, y_ltQ, y_ltPP, y_eqP, y_eqQ, y_eqPP, if_pos, if_neg, ite_true, ite_false, not_true_eq_false, not_false_eq_true, and_true, true_and, and_false, false_and, or_true, true_or, or_false, false_or, ym_isPlayer hM hW, y_rn, y_lit64, y_in, ym_of hM, ym_isHole hM hW]
    have bad : f_X2_isTrait 1 a2 a3 σ = nI 0 → f_X12_train (nI p) a2 a3 τ = some (-2, τ) → ∃ v σ1 τ1, f_X11_train (nI p) a2 a3 σ = some (v, σ1) ∧ f_X12_train (nI p) a2 a3 τ = some (v, τ1) ∧ j_Rel σ1 τ1 := by
      intro e1 e2
      refine ⟨-2, σ, τ, ?_, e2, hR⟩
      unfold f_X11_train; simp (disch := omega) only [y_lit, y_n1, nI_add, pk_mul, j_lt, j_b1_s, j_b2_s, j_b3_s, j_b0_s, y_bo, y_bo1, y_bo0, y_i0, y_i1, Classical.not_not, nI_clamp, y_ix, y_lt, y_le, y_eq, y_nP, y_nPs, y_ltP, y_ltQ, y_ltPP, y_eqP, y_eqQ, y_eqPP, if_pos, if_neg, ite_true, ite_false, not_true_eq_false, not_false_eq_true, and_true, true_and, and_false, false_and, or_true, true_or, or_false, false_or, yc_isPlayer hN hW, y_rn, e1]
    by_cases c0 : a2 = nI 0
    · subst c0
      by_cases d : 1 ≤ a3.toInt ∧ a3.toInt ≤ 9
      · obtain ⟨n, hn, rfl⟩ := y_of a3 10 (by omega) (by omega)
        rw [nI_toInt (by omega)] at d
        exact done 0 n (by omega) ⟨fun _ => by omega, fun z => absurd z (by decide), fun z => absurd z (by decide), fun z => absurd z (by decide), fun z => absurd z (by decide)⟩ rfl rfl
      · refine bad ?_ ?_
        · unfold f_X2_isTrait; simp (disch := omega) only [y_lit, y_n1, nI_add, pk_mul, j_lt, j_b1_s, j_b2_s, j_b3_s, j_b0_s, y_bo, y_bo1, y_bo0, y_i0, y_i1, Classical.not_not, nI_clamp, y_ix, y_lt, y_le, y_eq, y_nP, y_nPs, y_ltP, y_ltQ, y_ltPP, y_eqP, y_eqQ, y_eqPP, if_pos, if_neg, ite_true, ite_false, not_true_eq_false, not_false_eq_true, and_true, true_and, and_false, false_and, or_true, true_or, or_false, false_or, y_c19, d]
        · unfold f_X12_train; simp (disch := omega) only [y_lit, y_n1, nI_add, pk_mul, j_lt, j_b1_s, j_b2_s, j_b3_s, j_b0_s, y_bo, y_bo1, y_bo0, y_i0, y_i1, Classical.not_not, nI_clamp, y_ix, y_lt, y_le, y_eq, y_nP, y_nPs, y_ltP, y_ltQ, y_ltPP, y_eqP, y_eqQ, y_eqPP, if_pos, if_neg, ite_true, ite_false, not_true_eq_false, not_false_eq_true, and_true, true_and, and_false, false_and, or_true, true_or, or_false, false_or, ym_isPlayer hM hW, y_rn, y_lit64, y_in, y_c19, d]
    by_cases c1 : a2 = nI 1
    · subst c1
      by_cases d : y_rg a3 21
      · obtain ⟨n, hn, rfl⟩ := y_of _ _ d.1 d.2
        exact done 1 n (by omega) ⟨fun z => absurd z (by decide), fun _ => by omega, fun z => absurd z (by decide), fun z => absurd z (by decide), fun z => absurd z (by decide)⟩ rfl rfl
      · refine bad ?_ ?_
        · unfold f_X2_isTrait; simp (disch := omega) only [y_lit, y_n1, nI_add, pk_mul, j_lt, j_b1_s, j_b2_s, j_b3_s, j_b0_s, y_bo, y_bo1, y_bo0, y_i0, y_i1, Classical.not_not, nI_clamp, y_ix, y_lt, y_le, y_eq, y_nP, y_nPs, y_ltP, y_ltQ, y_ltPP, y_eqP, y_eqQ, y_eqPP, if_pos, if_neg, ite_true, ite_false, not_true_eq_false, not_false_eq_true, and_true, true_and, and_false, false_and, or_true, true_or, or_false, false_or, y_c3, d]
        · unfold f_X12_train; simp (disch := omega) only [y_lit, y_n1, nI_add, pk_mul, j_lt, j_b1_s, j_b2_s, j_b3_s, j_b0_s, y_bo, y_bo1, y_bo0, y_i0, y_i1, Classical.not_not, nI_clamp, y_ix, y_lt, y_le, y_eq, y_nP, y_nPs, y_ltP, y_ltQ, y_ltPP, y_eqP, y_eqQ, y_eqPP, if_pos, if_neg, ite_true, ite_false, not_true_eq_false, not_false_eq_true, and_true, true_and, and_false, false_and, or_true, true_or, or_false, false_or, ym_isPlayer hM hW, y_rn, y_lit64, y_in, y_c3, d]
    by_cases c2 : a2 = nI 2
    · subst c2
      by_cases d : y_rg a3 100
      · obtain ⟨n, hn, rfl⟩ := y_of _ _ d.1 d.2
        exact done 2 n (by omega) ⟨fun z => absurd z (by decide), fun z => absurd z (by decide), fun _ => by omega, fun z => absurd z (by decide), fun z => absurd z (by decide)⟩ rfl rfl
      · refine bad ?_ ?_
        · unfold f_X2_isTrait; simp (disch := omega) only [y_lit, y_n1, nI_add, pk_mul, j_lt, j_b1_s, j_b2_s, j_b3_s, j_b0_s, y_bo, y_bo1, y_bo0, y_i0, y_i1, Classical.not_not, nI_clamp, y_ix, y_lt, y_le, y_eq, y_nP, y_nPs, y_ltP, y_ltQ, y_ltPP, y_eqP, y_eqQ, y_eqPP, if_pos, if_neg, ite_true, ite_false, not_true_eq_false, not_false_eq_true, and_true, true_and, and_false, false_and, or_true, true_or, or_false, false_or, y_c3, d]
        · unfold f_X12_train; simp (disch := omega) only [y_lit, y_n1, nI_add, pk_mul, j_lt, j_b1_s, j_b2_s, j_b3_s, j_b0_s, y_bo, y_bo1, y_bo0, y_i0, y_i1, Classical.not_not, nI_clamp, y_ix, y_lt, y_le, y_eq, y_nP, y_nPs, y_ltP, y_ltQ, y_ltPP, y_eqP, y_eqQ, y_eqPP, if_pos, if_neg, ite_true, ite_false, not_true_eq_false, not_false_eq_true, and_true, true_and, and_false, false_and, or_true, true_or, or_false, false_or, ym_isPlayer hM hW, y_rn, y_lit64, y_in, y_c3, d]
    by_cases c3 : a2 = nI 3
    · subst c3
      by_cases d : y_rg a3 10
      · obtain ⟨n, hn, rfl⟩ := y_of _ _ d.1 d.2
        exact done 3 n (by omega) ⟨fun z => absurd z (by decide), fun z => absurd z (by decide), fun z => absurd z (by decide), fun _ => by omega, fun z => absurd z (by decide)⟩ rfl rfl
      · refine bad ?_ ?_
        · unfold f_X2_isTrait; simp (disch := omega) only [y_lit, y_n1, nI_add, pk_mul, j_lt, j_b1_s, j_b2_s, j_b3_s, j_b0_s, y_bo, y_bo1, y_bo0, y_i0, y_i1, Classical.not_not, nI_clamp, y_ix, y_lt, y_le, y_eq, y_nP, y_nPs, y_ltP, y_ltQ, y_ltPP, y_eqP, y_eqQ, y_eqPP, if_pos, if_neg, ite_true, ite_false, not_true_eq_false, not_false_eq_true, and_true, true_and, and_false, false_and, or_true, true_or, or_false, false_or, y_c3, d]
        · unfold f_X12_train; simp (disch := omega) only [y_lit, y_n1, nI_add, pk_mul, j_lt, j_b1_s, j_b2_s, j_b3_s, j_b0_s, y_bo, y_bo1, y_bo0, y_i0, y_i1, Classical.not_not, nI_clamp, y_ix, y_lt, y_le, y_eq, y_nP, y_nPs, y_ltP, y_ltQ, y_ltPP, y_eqP, y_eqQ, y_eqPP, if_pos, if_neg, ite_true, ite_false, not_true_eq_false, not_false_eq_true, and_true, true_and, and_false, false_and, or_true, true_or, or_false, false_or, ym_isPlayer hM hW, y_rn, y_lit64, y_in, y_c3, d]
    by_cases c4 : a2 = nI 4
    · subst c4
      by_cases d : y_rg a3 (y_ho b)
      · obtain ⟨n, hn, rfl⟩ := y_of _ _ d.1 d.2
        exact done 4 n (by omega) ⟨fun z => absurd z (by decide), fun z => absurd z (by decide), fun z => absurd z (by decide), fun z => absurd z (by decide), fun _ => by omega⟩ rfl rfl
      · refine bad ?_ ?_
        · unfold f_X2_isTrait; simp (disch := omega) only [y_lit, y_n1, nI_add, pk_mul, j_lt, j_b1_s, j_b2_s, j_b3_s, j_b0_s, y_bo, y_bo1, y_bo0, y_i0, y_i1, Classical.not_not, nI_clamp, y_ix, y_lt, y_le, y_eq, y_nP, y_nPs, y_ltP, y_ltQ, y_ltPP, y_eqP, y_eqQ, y_eqPP, if_pos, if_neg, ite_true, ite_false, not_true_eq_false, not_false_eq_true, and_true, true_and, and_false, false_and, or_true, true_or, or_false, false_or, yc_isHole hN hW, d]
        · unfold f_X12_train; simp (disch := omega) only [y_lit, y_n1, nI_add, pk_mul, j_lt, j_b1_s, j_b2_s, j_b3_s, j_b0_s, y_bo, y_bo1, y_bo0, y_i0, y_i1, Classical.not_not, nI_clamp, y_ix, y_lt, y_le, y_eq, y_nP, y_nPs, y_ltP, y_ltQ, y_ltPP, y_eqP, y_eqQ, y_eqPP, if_pos, if_neg, ite_true, ite_false, not_true_eq_false, not_false_eq_true, and_true, true_and, and_false, false_and, or_true, true_or, or_false, false_or, ym_isPlayer hM hW, y_rn, ym_isHole hM hW, d]
    · refine bad ?_ ?_
      · unfold f_X2_isTrait; simp (disch := omega) only [y_lit, y_n1, nI_add, pk_mul, j_lt, j_b1_s, j_b2_s, j_b3_s, j_b0_s, y_bo, y_bo1, y_bo0, y_i0, y_i1, Classical.not_not, nI_clamp, y_ix, y_lt, y_le, y_eq, y_nP, y_nPs, y_ltP, y_ltQ, y_ltPP, y_eqP, y_eqQ, y_eqPP, if_pos, if_neg, ite_true, ite_false, not_true_eq_false, not_false_eq_true, and_true, true_and, and_false, false_and, or_true, true_or, or_false, false_or, c0, c1, c2, c3, c4]
      · unfold f_X12_train; simp (disch := omega) only [y_lit, y_n1, nI_add, pk_mul, j_lt, j_b1_s, j_b2_s, j_b3_s, j_b0_s, y_bo, y_bo1, y_bo0, y_i0, y_i1, Classical.not_not, nI_clamp, y_ix, y_lt, y_le, y_eq, y_nP, y_nPs, y_ltP, y_ltQ, y_ltPP, y_eqP, y_eqQ, y_eqPP, if_pos, if_neg, ite_true, ite_false, not_true_eq_false, not_false_eq_true, and_true, true_and, and_false, false_and, or_true, true_or, or_false, false_or, ym_isPlayer hM hW, y_rn, c0, c1, c2, c3, c4]
  · refine ⟨-2, σ, τ, ?_, ?_, hR⟩
    · unfold f_X11_train; simp (disch := omega) only [y_lit, y_n1, nI_add, pk_mul, j_lt, j_b1_s, j_b2_s, j_b3_s, j_b0_s, y_bo, y_bo1, y_bo0, y_i0, y_i1, Classical.not_not, nI_clamp, y_ix, y_lt, y_le, y_eq, y_nP, y_nPs, y_ltP, y_ltQ, y_ltPP, y_eqP, y_eqQ, y_eqPP, if_pos, if_neg, ite_true, ite_false, not_true_eq_false, not_false_eq_true, and_true, true_and, and_false, false_and, or_true, true_or, or_false, false_or, yc_isPlayer hN hW, h]
    · unfold f_X12_train; simp (disch := omega) only [y_lit, y_n1, nI_add, pk_mul, j_lt, j_b1_s, j_b2_s, j_b3_s, j_b0_s, y_bo, y_bo1, y_bo0, y_i0, y_i1, Classical.not_not, nI_clamp, y_ix, y_lt, y_le, y_eq, y_nP, y_nPs, y_ltP, y_ltQ, y_ltPP, y_eqP, y_eqQ, y_eqPP, if_pos, if_neg, ite_true, ite_false, not_true_eq_false, not_false_eq_true, and_true, true_and, and_false, false_and, or_true, true_or, or_false, false_or, ym_isPlayer hM hW, h]
end Z
/-! ===== the drum round, laws, path, breaks ===== -/
noncomputable def y_rd (b : Nat → Nat) (a : Nat) : Nat := b (24 + 3 * (a % b 5))
theorem y_fmI {a n : Nat} (ha : a < 2 ^ 30) (h0 : 0 < n) (hn : n < 2 ^ 30) : f_J9_floorMod_7cf53 (nI a) (nI n) = some (nI (a % n)) := by
  have hx : a ^^^ n < 2 ^ 30 := Nat.xor_lt_two_pow ha hn
  have hr : nI a - nI (a / n * n) = nI (a % n) := by
    rw [← pk_mul, ← pk_div (by omega) (by omega) (by omega), pk_rem (by omega) (by omega) (by omega)]
  unfold f_J9_floorMod_7cf53
  simp (disch := omega) only [y_lit, y_n1, nI_add, pk_mul, j_lt, j_b1_s, j_b2_s, j_b3_s, j_b0_s, y_bo, y_bo1, y_bo0, y_i0, y_i1, Classical.not_not, nI_clamp, y_ix, y_lt, y_le, y_eq, y_nP, y_nPs, y_ltP, y_ltQ, y_ltPP, y_eqP, y_eqQ, y_eqPP, if_pos, if_neg, ite_true, ite_false, not_true_eq_false, not_false_eq_true, and_true, true_and, and_false, false_and, or_true, true_or, or_false, false_or, y_xor, pk_div, hr]
theorem y_fm1 : ∀ n, n < 25 → 0 < n → f_J9_floorMod_7cf53 (nP 0) (nI n) = some (nI ((2 * n - 1) % n)) := by decide
theorem y_fm2 : ∀ n, n < 25 → 0 < n → f_J9_floorMod_7cf53 (nI 0 - nI 2) (nI n) = some (nI ((2 * n - 2) % n)) := by decide
theorem y_fm3 : ∀ n, n < 25 → 0 < n → f_J9_floorMod_7cf53 (nI 1 - nI 2) (nI n) = some (nI ((1 + 2 * n - 2) % n)) := by decide
theorem y_fmm {k c n : Nat} (hk : k < 100) (h0 : 0 < n) (hn : n < 25) (hc : c = 1 ∨ c = 2) : f_J9_floorMod_7cf53 (nI k - nI c) (nI n) = some (nI ((k + 2 * n - c) % n)) := by
  by_cases h : c ≤ k
  · rw [pk_sub h, y_fmI (by omega) h0 (by omega), show k + 2 * n - c = k - c + n * 2 from by omega, Nat.add_mul_mod_self_left]
  · rcases hc with rfl | rfl
    · obtain rfl : k = 0 := by omega
      rw [show nI 0 - nI 1 = nP 0 from rfl, y_fm1 n hn h0, Nat.zero_add]
    · obtain rfl | rfl : k = 0 ∨ k = 1 := by omega
      · rw [y_fm2 n hn h0, Nat.zero_add]
      · rw [y_fm3 n hn h0]
/-- may it come: its hole, the one ahead and 1, the one ahead of that and 1 -/
noncomputable def y_lz (b : Nat → Nat) (l h one two : Nat) : Nat := if l = 0 then 1 else if l = 1 then (if h + 1 = one then 0 else 1) else if l = 2 then (if one = 0 then 1 else if 1 < y_ap b h (one - 1) then 1 else 0) else (if h + 1 = one then 0 else if h + 1 = two then 0 else 1)
theorem y_lz_le (b : Nat → Nat) (l h one two : Nat) : y_lz b l h one two ≤ 1 := by
  unfold y_lz
  repeat' split
  all_goals omega
section C
variable {σ τ : j_G} {b : Nat → Nat}
theorem y_rd_lt (hW : y_W b) (h5 : 0 < b 5) (a : Nat) : y_rd b a < y_ho b := (hW.co (Nat.mod_lt _ h5)).1
theorem yc_round (hN : y_N σ b) (hW : y_W b) (h5 : 0 < b 5) {a : Nat} (ha : a < 10000) : f_X3_round (nI a) σ = some (nI (y_rd b a)) := by
  have b5 := hW.b5
  have hm : a % b 5 < b 5 := Nat.mod_lt _ h5
  unfold f_X3_round y_rd; simp (disch := omega) only [y_lit, y_n1, nI_add, pk_mul, j_lt, j_b1_s, j_b2_s, j_b3_s, j_b0_s, y_bo, y_bo1, y_bo0, y_i0, y_i1, Classical.not_not, nI_clamp, y_ix, y_lt, y_le, y_eq, y_nP, y_nPs, y_ltP, y_ltQ, y_ltPP, y_eqP, y_eqQ, y_eqPP, if_pos, if_neg, ite_true, ite_false, not_true_eq_false, not_false_eq_true, and_true, true_and, and_false, false_and, or_true, true_or, or_false, false_or, hN.d0, y_fmI]
  rw [hN.k0 hm]
theorem yc_roundm (hN : y_N σ b) (hW : y_W b) (h5 : 0 < b 5) {k c : Nat} (hk : k < 100) (hc : c = 1 ∨ c = 2) : f_X3_round (nI k - nI c) σ = some (nI (y_rd b (k + 2 * b 5 - c))) := by
  have b5 := hW.b5
  have hm : (k + 2 * b 5 - c) % b 5 < b 5 := Nat.mod_lt _ h5
  unfold f_X3_round y_rd
  rw [hN.d0, y_fmm hk h5 (by omega) hc]
  simp (disch := omega) only [y_lit, y_n1, nI_add, pk_mul, j_lt, j_b1_s, j_b2_s, j_b3_s, j_b0_s, y_bo, y_bo1, y_bo0, y_i0, y_i1, Classical.not_not, nI_clamp, y_ix, y_lt, y_le, y_eq, y_nP, y_nPs, y_ltP, y_ltQ, y_ltPP, y_eqP, y_eqQ, y_eqPP, if_pos, if_neg, ite_true, ite_false, not_true_eq_false, not_false_eq_true, and_true, true_and, and_false, false_and, or_true, true_or, or_false, false_or]
  rw [hN.k0 hm]
theorem ym_holeAt (hM : y_M τ b) (hW : y_W b) (h5 : 0 < b 5) {a : Nat} (ha : a < 10000) : f_X12_holeAt (nI a) τ = some (nI (y_rd b a)) := by
  have b5 := hW.b5
  have hm : a % b 5 < b 5 := Nat.mod_lt _ h5
  unfold f_X12_holeAt y_rd; simp (disch := omega) only [y_lit, y_n1, nI_add, pk_mul, j_lt, j_b1_s, j_b2_s, j_b3_s, j_b0_s, y_bo, y_bo1, y_bo0, y_i0, y_i1, Classical.not_not, nI_clamp, y_ix, y_lt, y_le, y_eq, y_nP, y_nPs, y_ltP, y_ltQ, y_ltPP, y_eqP, y_eqQ, y_eqPP, if_pos, if_neg, ite_true, ite_false, not_true_eq_false, not_false_eq_true, and_true, true_and, and_false, false_and, or_true, true_or, or_false, false_or, hM.f, y_fmI, ym_co0 hM]
theorem ym_holeAtm (hM : y_M τ b) (hW : y_W b) (h5 : 0 < b 5) {k c : Nat} (hk : k < 100) (hc : c = 1 ∨ c = 2) : f_X12_holeAt (nI k - nI c) τ = some (nI (y_rd b (k + 2 * b 5 - c))) := by
  have b5 := hW.b5
  have hm : (k + 2 * b 5 - c) % b 5 < b 5 := Nat.mod_lt _ h5
  have e5 := hM.f (j := 5) (by omega)
  unfold f_X12_holeAt y_rd
  rw [show (5 : Int32) = nI 5 from rfl, y_ix (by omega) (by omega), nI_clamp (by omega), e5, y_fmm hk h5 (by omega) hc]
  simp (disch := omega) only [y_lit, y_n1, nI_add, pk_mul, j_lt, j_b1_s, j_b2_s, j_b3_s, j_b0_s, y_bo, y_bo1, y_bo0, y_i0, y_i1, Classical.not_not, nI_clamp, y_ix, y_lt, y_le, y_eq, y_nP, y_nPs, y_ltP, y_ltQ, y_ltPP, y_eqP, y_eqQ, y_eqPP, if_pos, if_neg, ite_true, ite_false, not_true_eq_false, not_false_eq_true, and_true, true_and, and_false, false_and, or_true, true_or, or_false, false_or, ym_co0 hM]
theorem yc_lets (hN : y_N σ b) (hW : y_W b) (h9 : 0 < b 9) {l h one two : Nat} {B L : Int32} (hl : l < 4) (hh : h < 12) (h1 : one ≤ 12) (h2 : two ≤ 12) (hz : one = 0 → two = 0) (eB : B = nP two) (eL : L = nP one) : f_X2_lets (nI l) B L (nI h) σ = some (nI (y_lz b l h one two)) := by
  subst eB eL
  unfold f_X2_lets y_lz
  by_cases z : one = 0
  · subst z
    have hz2 := hz rfl
    subst hz2
    obtain rfl | rfl | rfl | rfl : l = 0 ∨ l = 1 ∨ l = 2 ∨ l = 3 := by omega
    · simp (disch := omega) only [y_lit, y_n1, nI_add, pk_mul, j_lt, j_b1_s, j_b2_s, j_b3_s, j_b0_s, y_bo, y_bo1, y_bo0, y_i0, y_i1, Classical.not_not, nI_clamp, y_ix, y_lt, y_le, y_eq, y_nP, y_nPs, y_ltP, y_ltQ, y_ltPP, y_eqP, y_eqQ, y_eqPP, if_pos, if_neg, ite_true, ite_false, not_true_eq_false, not_false_eq_true, and_true, true_and, and_false, false_and, or_true, true_or, or_false, false_or]
    · simp (disch := omega) only [y_lit, y_n1, nI_add, pk_mul, j_lt, j_b1_s, j_b2_s, j_b3_s, j_b0_s, y_bo, y_bo1, y_bo0, y_i0, y_i1, Classical.not_not, nI_clamp, y_ix, y_lt, y_le, y_eq, y_nP, y_nPs, y_ltP, y_ltQ, y_ltPP, y_eqP, y_eqQ, y_eqPP, if_pos, if_neg, ite_true, ite_false, not_true_eq_false, not_false_eq_true, and_true, true_and, and_false, false_and, or_true, true_or, or_false, false_or]
    · simp (disch := omega) only [y_lit, y_n1, nI_add, pk_mul, j_lt, j_b1_s, j_b2_s, j_b3_s, j_b0_s, y_bo, y_bo1, y_bo0, y_i0, y_i1, Classical.not_not, nI_clamp, y_ix, y_lt, y_le, y_eq, y_nP, y_nPs, y_ltP, y_ltQ, y_ltPP, y_eqP, y_eqQ, y_eqPP, if_pos, if_neg, ite_true, ite_false, not_true_eq_false, not_false_eq_true, and_true, true_and, and_false, false_and, or_true, true_or, or_false, false_or]
    · simp (disch := omega) only [y_lit, y_n1, nI_add, pk_mul, j_lt, j_b1_s, j_b2_s, j_b3_s, j_b0_s, y_bo, y_bo1, y_bo0, y_i0, y_i1, Classical.not_not, nI_clamp, y_ix, y_lt, y_le, y_eq, y_nP, y_nPs, y_ltP, y_ltQ, y_ltPP, y_eqP, y_eqQ, y_eqPP, if_pos, if_neg, ite_true, ite_false, not_true_eq_false, not_false_eq_true, and_true, true_and, and_false, false_and, or_true, true_or, or_false, false_or]
  · obtain ⟨o, rfl⟩ : ∃ o, one = o + 1 := ⟨one - 1, by omega⟩
    rw [y_nPs, Nat.add_sub_cancel]
    have ap := y_ap_bd (b := b) (a := o) (c := h) (by omega) (by omega)
    obtain rfl | rfl | rfl | rfl : l = 0 ∨ l = 1 ∨ l = 2 ∨ l = 3 := by omega
    · simp (disch := omega) only [y_lit, y_n1, nI_add, pk_mul, j_lt, j_b1_s, j_b2_s, j_b3_s, j_b0_s, y_bo, y_bo1, y_bo0, y_i0, y_i1, Classical.not_not, nI_clamp, y_ix, y_lt, y_le, y_eq, y_nP, y_nPs, y_ltP, y_ltQ, y_ltPP, y_eqP, y_eqQ, y_eqPP, if_pos, if_neg, ite_true, ite_false, not_true_eq_false, not_false_eq_true, and_true, true_and, and_false, false_and, or_true, true_or, or_false, false_or]
    · by_cases c : h = o
      · simp (disch := omega) only [y_lit, y_n1, nI_add, pk_mul, j_lt, j_b1_s, j_b2_s, j_b3_s, j_b0_s, y_bo, y_bo1, y_bo0, y_i0, y_i1, Classical.not_not, nI_clamp, y_ix, y_lt, y_le, y_eq, y_nP, y_nPs, y_ltP, y_ltQ, y_ltPP, y_eqP, y_eqQ, y_eqPP, if_pos, if_neg, ite_true, ite_false, not_true_eq_false, not_false_eq_true, and_true, true_and, and_false, false_and, or_true, true_or, or_false, false_or]
      · simp (disch := omega) only [y_lit, y_n1, nI_add, pk_mul, j_lt, j_b1_s, j_b2_s, j_b3_s, j_b0_s, y_bo, y_bo1, y_bo0, y_i0, y_i1, Classical.not_not, nI_clamp, y_ix, y_lt, y_le, y_eq, y_nP, y_nPs, y_ltP, y_ltQ, y_ltPP, y_eqP, y_eqQ, y_eqPP, if_pos, if_neg, ite_true, ite_false, not_true_eq_false, not_false_eq_true, and_true, true_and, and_false, false_and, or_true, true_or, or_false, false_or]
    · simp (disch := omega) only [y_lit, y_n1, nI_add, pk_mul, j_lt, j_b1_s, j_b2_s, j_b3_s, j_b0_s, y_bo, y_bo1, y_bo0, y_i0, y_i1, Classical.not_not, nI_clamp, y_ix, y_lt, y_le, y_eq, y_nP, y_nPs, y_ltP, y_ltQ, y_ltPP, y_eqP, y_eqQ, y_eqPP, if_pos, if_neg, ite_true, ite_false, not_true_eq_false, not_false_eq_true, and_true, true_and, and_false, false_and, or_true, true_or, or_false, false_or, yc_apart hN hW h9]
      rw [y_ap_comm (a := h) (c := o)]
      by_cases c : 1 < y_ap b o h
      · simp (disch := omega) only [y_lit, y_n1, nI_add, pk_mul, j_lt, j_b1_s, j_b2_s, j_b3_s, j_b0_s, y_bo, y_bo1, y_bo0, y_i0, y_i1, Classical.not_not, nI_clamp, y_ix, y_lt, y_le, y_eq, y_nP, y_nPs, y_ltP, y_ltQ, y_ltPP, y_eqP, y_eqQ, y_eqPP, if_pos, if_neg, ite_true, ite_false, not_true_eq_false, not_false_eq_true, and_true, true_and, and_false, false_and, or_true, true_or, or_false, false_or]
      · simp (disch := omega) only [y_lit, y_n1, nI_add, pk_mul, j_lt, j_b1_s, j_b2_s, j_b3_s, j_b0_s, y_bo, y_bo1, y_bo0, y_i0, y_i1, Classical.not_not, nI_clamp, y_ix, y_lt, y_le, y_eq, y_nP, y_nPs, y_ltP, y_ltQ, y_ltPP, y_eqP, y_eqQ, y_eqPP, if_pos, if_neg, ite_true, ite_false, not_true_eq_false, not_false_eq_true, and_true, true_and, and_false, false_and, or_true, true_or, or_false, false_or]
    · by_cases c : h = o
      · simp (disch := omega) only [y_lit, y_n1, nI_add, pk_mul, j_lt, j_b1_s, j_b2_s, j_b3_s, j_b0_s, y_bo, y_bo1, y_bo0, y_i0, y_i1, Classical.not_not, nI_clamp, y_ix, y_lt, y_le, y_eq, y_nP, y_nPs, y_ltP, y_ltQ, y_ltPP, y_eqP, y_eqQ, y_eqPP, if_pos, if_neg, ite_true, ite_false, not_true_eq_false, not_false_eq_true, and_true, true_and, and_false, false_and, or_true, true_or, or_false, false_or]
      · by_cases d : h + 1 = two
        · simp (disch := omega) only [y_lit, y_n1, nI_add, pk_mul, j_lt, j_b1_s, j_b2_s, j_b3_s, j_b0_s, y_bo, y_bo1, y_bo0, y_i0, y_i1, Classical.not_not, nI_clamp, y_ix, y_lt, y_le, y_eq, y_nP, y_nPs, y_ltP, y_ltQ, y_ltPP, y_eqP, y_eqQ, y_eqPP, if_pos, if_neg, ite_true, ite_false, not_true_eq_false, not_false_eq_true, and_true, true_and, and_false, false_and, or_true, true_or, or_false, false_or]
        · simp (disch := omega) only [y_lit, y_n1, nI_add, pk_mul, j_lt, j_b1_s, j_b2_s, j_b3_s, j_b0_s, y_bo, y_bo1, y_bo0, y_i0, y_i1, Classical.not_not, nI_clamp, y_ix, y_lt, y_le, y_eq, y_nP, y_nPs, y_ltP, y_ltQ, y_ltPP, y_eqP, y_eqQ, y_eqPP, if_pos, if_neg, ite_true, ite_false, not_true_eq_false, not_false_eq_true, and_true, true_and, and_false, false_and, or_true, true_or, or_false, false_or]
theorem ym_lets (hM : y_M τ b) (hW : y_W b) (h9 : 0 < b 9) {l h one two : Nat} {B L : Int32} (hl : l < 4) (hh : h < 12) (h1 : one ≤ 12) (h2 : two ≤ 12) (eB : B = nP two) (eL : L = nP one) : f_X12_lets (nI l) (nI h) L B τ = some (nI (if y_sh b h = 1 then 0 else y_lz b l h one two)) := by
  subst eB eL
  unfold f_X12_lets
  simp (disch := omega) only [y_lit, y_n1, nI_add, pk_mul, j_lt, j_b1_s, j_b2_s, j_b3_s, j_b0_s, y_bo, y_bo1, y_bo0, y_i0, y_i1, Classical.not_not, nI_clamp, y_ix, y_lt, y_le, y_eq, y_nP, y_nPs, y_ltP, y_ltQ, y_ltPP, y_eqP, y_eqQ, y_eqPP, if_pos, if_neg, ite_true, ite_false, not_true_eq_false, not_false_eq_true, and_true, true_and, and_false, false_and, or_true, true_or, or_false, false_or, ym_isShut hM hW]
  by_cases s : y_sh b h = 1
  · simp (disch := omega) only [y_lit, y_n1, nI_add, pk_mul, j_lt, j_b1_s, j_b2_s, j_b3_s, j_b0_s, y_bo, y_bo1, y_bo0, y_i0, y_i1, Classical.not_not, nI_clamp, y_ix, y_lt, y_le, y_eq, y_nP, y_nPs, y_ltP, y_ltQ, y_ltPP, y_eqP, y_eqQ, y_eqPP, if_pos, if_neg, ite_true, ite_false, not_true_eq_false, not_false_eq_true, and_true, true_and, and_false, false_and, or_true, true_or, or_false, false_or]
  · rw [if_neg s, if_neg s]
    unfold y_lz
    obtain rfl | rfl | rfl | rfl : l = 0 ∨ l = 1 ∨ l = 2 ∨ l = 3 := by omega
    · simp (disch := omega) only [y_lit, y_n1, nI_add, pk_mul, j_lt, j_b1_s, j_b2_s, j_b3_s, j_b0_s, y_bo, y_bo1, y_bo0, y_i0, y_i1, Classical.not_not, nI_clamp, y_ix, y_lt, y_le, y_eq, y_nP, y_nPs, y_ltP, y_ltQ, y_ltPP, y_eqP, y_eqQ, y_eqPP, if_pos, if_neg, ite_true, ite_false, not_true_eq_false, not_false_eq_true, and_true, true_and, and_false, false_and, or_true, true_or, or_false, false_or]
    · by_cases c : h + 1 = one
      · simp (disch := omega) only [y_lit, y_n1, nI_add, pk_mul, j_lt, j_b1_s, j_b2_s, j_b3_s, j_b0_s, y_bo, y_bo1, y_bo0, y_i0, y_i1, Classical.not_not, nI_clamp, y_ix, y_lt, y_le, y_eq, y_nP, y_nPs, y_ltP, y_ltQ, y_ltPP, y_eqP, y_eqQ, y_eqPP, if_pos, if_neg, ite_true, ite_false, not_true_eq_false, not_false_eq_true, and_true, true_and, and_false, false_and, or_true, true_or, or_false, false_or]
      · simp (disch := omega) only [y_lit, y_n1, nI_add, pk_mul, j_lt, j_b1_s, j_b2_s, j_b3_s, j_b0_s, y_bo, y_bo1, y_bo0, y_i0, y_i1, Classical.not_not, nI_clamp, y_ix, y_lt, y_le, y_eq, y_nP, y_nPs, y_ltP, y_ltQ, y_ltPP, y_eqP, y_eqQ, y_eqPP, if_pos, if_neg, ite_true, ite_false, not_true_eq_false, not_false_eq_true, and_true, true_and, and_false, false_and, or_true, true_or, or_false, false_or]
    · by_cases z : one = 0
      · simp (disch := omega) only [y_lit, y_n1, nI_add, pk_mul, j_lt, j_b1_s, j_b2_s, j_b3_s, j_b0_s, y_bo, y_bo1, y_bo0, y_i0, y_i1, Classical.not_not, nI_clamp, y_ix, y_lt, y_le, y_eq, y_nP, y_nPs, y_ltP, y_ltQ, y_ltPP, y_eqP, y_eqQ, y_eqPP, if_pos, if_neg, ite_true, ite_false, not_true_eq_false, not_false_eq_true, and_true, true_and, and_false, false_and, or_true, true_or, or_false, false_or]
      · obtain ⟨o, rfl⟩ : ∃ o, one = o + 1 := ⟨one - 1, by omega⟩
        have ap := y_ap_bd (b := b) (a := h) (c := o) (by omega) (by omega)
        rw [y_nPs, Nat.add_sub_cancel]
        simp (disch := omega) only [y_lit, y_n1, nI_add, pk_mul, j_lt, j_b1_s, j_b2_s, j_b3_s, j_b0_s, y_bo, y_bo1, y_bo0, y_i0, y_i1, Classical.not_not, nI_clamp, y_ix, y_lt, y_le, y_eq, y_nP, y_nPs, y_ltP, y_ltQ, y_ltPP, y_eqP, y_eqQ, y_eqPP, if_pos, if_neg, ite_true, ite_false, not_true_eq_false, not_false_eq_true, and_true, true_and, and_false, false_and, or_true, true_or, or_false, false_or, ym_stepsOf hM hW h9]
        by_cases c : 1 < y_ap b h o
        · simp (disch := omega) only [y_lit, y_n1, nI_add, pk_mul, j_lt, j_b1_s, j_b2_s, j_b3_s, j_b0_s, y_bo, y_bo1, y_bo0, y_i0, y_i1, Classical.not_not, nI_clamp, y_ix, y_lt, y_le, y_eq, y_nP, y_nPs, y_ltP, y_ltQ, y_ltPP, y_eqP, y_eqQ, y_eqPP, if_pos, if_neg, ite_true, ite_false, not_true_eq_false, not_false_eq_true, and_true, true_and, and_false, false_and, or_true, true_or, or_false, false_or]
        · simp (disch := omega) only [y_lit, y_n1, nI_add, pk_mul, j_lt, j_b1_s, j_b2_s, j_b3_s, j_b0_s, y_bo, y_bo1, y_bo0, y_i0, y_i1, Classical.not_not, nI_clamp, y_ix, y_lt, y_le, y_eq, y_nP, y_nPs, y_ltP, y_ltQ, y_ltPP, y_eqP, y_eqQ, y_eqPP, if_pos, if_neg, ite_true, ite_false, not_true_eq_false, not_false_eq_true, and_true, true_and, and_false, false_and, or_true, true_or, or_false, false_or]
    · by_cases c : h + 1 = one
      · simp (disch := omega) only [y_lit, y_n1, nI_add, pk_mul, j_lt, j_b1_s, j_b2_s, j_b3_s, j_b0_s, y_bo, y_bo1, y_bo0, y_i0, y_i1, Classical.not_not, nI_clamp, y_ix, y_lt, y_le, y_eq, y_nP, y_nPs, y_ltP, y_ltQ, y_ltPP, y_eqP, y_eqQ, y_eqPP, if_pos, if_neg, ite_true, ite_false, not_true_eq_false, not_false_eq_true, and_true, true_and, and_false, false_and, or_true, true_or, or_false, false_or]
      · by_cases d : h + 1 = two
        · simp (disch := omega) only [y_lit, y_n1, nI_add, pk_mul, j_lt, j_b1_s, j_b2_s, j_b3_s, j_b0_s, y_bo, y_bo1, y_bo0, y_i0, y_i1, Classical.not_not, nI_clamp, y_ix, y_lt, y_le, y_eq, y_nP, y_nPs, y_ltP, y_ltQ, y_ltPP, y_eqP, y_eqQ, y_eqPP, if_pos, if_neg, ite_true, ite_false, not_true_eq_false, not_false_eq_true, and_true, true_and, and_false, false_and, or_true, true_or, or_false, false_or]
        · simp (disch := omega) only [y_lit, y_n1, nI_add, pk_mul, j_lt, j_b1_s, j_b2_s, j_b3_s, j_b0_s, y_bo, y_bo1, y_bo0, y_i0, y_i1, Classical.not_not, nI_clamp, y_ix, y_lt, y_le, y_eq, y_nP, y_nPs, y_ltP, y_ltQ, y_ltPP, y_eqP, y_eqQ, y_eqPP, if_pos, if_neg, ite_true, ite_false, not_true_eq_false, not_false_eq_true, and_true, true_and, and_false, false_and, or_true, true_or, or_false, false_or]
noncomputable def y_pf (b : Nat → Nat) : Nat → Nat := fun k => y_ap b (y_rd b k) (y_rd b (k + 1))
noncomputable def y_pa (b : Nat → Nat) : Nat := y_su (y_pf b) (b 5) 0 0
theorem y_pa_le (hW : y_W b) : y_pa b ≤ 576 := by
  have b5 := hW.b5
  have h4 := hW.ho
  rcases Nat.eq_zero_or_pos (b 5) with z | z
  · unfold y_pa; rw [z]; exact Nat.zero_le _
  · have := y_su_bd (f := y_pf b) (c := 24) (b 5) 0 (fun j _ _ => y_ap_bd (by have := y_rd_lt hW z j; omega) (by have := y_rd_lt hW z (j + 1); omega))
    unfold y_pa; omega
theorem yc_path (hN : y_N σ b) (hW : y_W b) : f_X2_pathRound σ = some (nI (y_pa b)) := by
  have b5 := hW.b5
  have h4 := hW.ho
  have key : ∀ m i n v, i + m = b 5 → m < n → p_X2_pathRound_4 σ n (nI v) (nI i) = some (nI (y_su (y_pf b) m i v)) := by
    intro m
    induction m with
    | zero =>
      intro i n v h hn
      obtain ⟨n, rfl⟩ := y_pos hn
      unfold p_X2_pathRound_4 y_su; simp (disch := omega) only [y_lit, y_n1, nI_add, pk_mul, j_lt, j_b1_s, j_b2_s, j_b3_s, j_b0_s, y_bo, y_bo1, y_bo0, y_i0, y_i1, Classical.not_not, nI_clamp, y_ix, y_lt, y_le, y_eq, y_nP, y_nPs, y_ltP, y_ltQ, y_ltPP, y_eqP, y_eqQ, y_eqPP, if_pos, if_neg, ite_true, ite_false, not_true_eq_false, not_false_eq_true, and_true, true_and, and_false, false_and, or_true, true_or, or_false, false_or, hN.d0]
    | succ m ih =>
      intro i n v h hn
      obtain ⟨n, rfl⟩ := y_pos hn
      have h5 : 0 < b 5 := by omega
      have h9 := hW.on0 (Or.inr (Or.inr (Or.inl h5)))
      have r1 := y_rd_lt hW h5 i
      have r2 := y_rd_lt hW h5 (i + 1)
      unfold p_X2_pathRound_4 y_su; simp (disch := omega) only [y_lit, y_n1, nI_add, pk_mul, j_lt, j_b1_s, j_b2_s, j_b3_s, j_b0_s, y_bo, y_bo1, y_bo0, y_i0, y_i1, Classical.not_not, nI_clamp, y_ix, y_lt, y_le, y_eq, y_nP, y_nPs, y_ltP, y_ltQ, y_ltPP, y_eqP, y_eqQ, y_eqPP, if_pos, if_neg, ite_true, ite_false, not_true_eq_false, not_false_eq_true, and_true, true_and, and_false, false_and, or_true, true_or, or_false, false_or, hN.d0, yc_round hN hW h5, yc_apart hN hW h9]
      exact ih (i + 1) n _ (by omega) (by omega)
  unfold f_X2_pathRound
  rw [y_lit, key (b 5) 0 j_F 0 (by omega) (y_F (by omega))]
  rfl
theorem ym_path (hM : y_M τ b) (hW : y_W b) : f_X12_pathOf τ = some (nI (y_pa b)) := by
  have b5 := hW.b5
  have h4 := hW.ho
  have key : ∀ m i n v, i + m = b 5 → m < n → p_X12_pathOf_4 τ n (nI v) (nI i) = some (nI (y_su (y_pf b) m i v)) := by
    intro m
    induction m with
    | zero =>
      intro i n v h hn
      obtain ⟨n, rfl⟩ := y_pos hn
      unfold p_X12_pathOf_4 y_su; simp (disch := omega) only [y_lit, y_n1, nI_add, pk_mul, j_lt, j_b1_s, j_b2_s, j_b3_s, j_b0_s, y_bo, y_bo1, y_bo0, y_i0, y_i1, Classical.not_not, nI_clamp, y_ix, y_lt, y_le, y_eq, y_nP, y_nPs, y_ltP, y_ltQ, y_ltPP, y_eqP, y_eqQ, y_eqPP, if_pos, if_neg, ite_true, ite_false, not_true_eq_false, not_false_eq_true, and_true, true_and, and_false, false_and, or_true, true_or, or_false, false_or, hM.f]
    | succ m ih =>
      intro i n v h hn
      obtain ⟨n, rfl⟩ := y_pos hn
      have h5 : 0 < b 5 := by omega
      have h9 := hW.on0 (Or.inr (Or.inr (Or.inl h5)))
      have r1 := y_rd_lt hW h5 i
      have r2 := y_rd_lt hW h5 (i + 1)
      unfold p_X12_pathOf_4 y_su; simp (disch := omega) only [y_lit, y_n1, nI_add, pk_mul, j_lt, j_b1_s, j_b2_s, j_b3_s, j_b0_s, y_bo, y_bo1, y_bo0, y_i0, y_i1, Classical.not_not, nI_clamp, y_ix, y_lt, y_le, y_eq, y_nP, y_nPs, y_ltP, y_ltQ, y_ltPP, y_eqP, y_eqQ, y_eqPP, if_pos, if_neg, ite_true, ite_false, not_true_eq_false, not_false_eq_true, and_true, true_and, and_false, false_and, or_true, true_or, or_false, false_or, hM.f, ym_holeAt hM hW h5, ym_stepsOf hM hW h9]
      exact ih (i + 1) n _ (by omega) (by omega)
  unfold f_X12_pathOf
  rw [y_lit, key (b 5) 0 j_F 0 (by omega) (y_F (by omega))]
  rfl
theorem yc_isLaw {x : Int32} : f_X11_isLaw x = if y_rg x 4 then nI 1 else nI 0 := by
  unfold f_X11_isLaw; simp only [y_lit]; simp (disch := omega) only [y_c1]
theorem ym_isLaw {x : Int32} : f_X12_isLaw x = if y_rg x 4 then nI 1 else nI 0 := by
  unfold f_X12_isLaw; simp (disch := omega) only [y_lit, y_n1, nI_add, pk_mul, j_lt, j_b1_s, j_b2_s, j_b3_s, j_b0_s, y_bo, y_bo1, y_bo0, y_i0, y_i1, Classical.not_not, nI_clamp, y_ix, y_lt, y_le, y_eq, y_nP, y_nPs, y_ltP, y_ltQ, y_ltPP, y_eqP, y_eqQ, y_eqPP, if_pos, if_neg, ite_true, ite_false, not_true_eq_false, not_false_eq_true, and_true, true_and, and_false, false_and, or_true, true_or, or_false, false_or, y_lit64, y_in, y_c3]
end C
section Z
variable {σ τ : j_G}
theorem z_path (hR : j_Rel σ τ) : ∃ v, f_X11_path σ = some v ∧ f_X12_path τ = some v := by
  obtain ⟨b, hW, hN, hM, hK⟩ := id hR
  by_cases h9 : 0 < b 9
  · refine ⟨nI (y_pa b), ?_, ?_⟩
    · unfold f_X11_path; simp (disch := omega) only [y_lit, y_n1, nI_add, pk_mul, j_lt, j_b1_s, j_b2_s, j_b3_s, j_b0_s, y_bo, y_bo1, y_bo0, y_i0, y_i1, Classical.not_not, nI_clamp, y_ix, y_lt, y_le, y_eq, y_nP, y_nPs, y_ltP, y_ltQ, y_ltPP, y_eqP, y_eqQ, y_eqPP, if_pos, if_neg, ite_true, ite_false, not_true_eq_false, not_false_eq_true, and_true, true_and, and_false, false_and, or_true, true_or, or_false, false_or, yc_isTold hN hW, yc_path hN hW]
    · unfold f_X12_path; simp (disch := omega) only [y_lit, y_n1, nI_add, pk_mul, j_lt, j_b1_s, j_b2_s, j_b3_s, j_b0_s, y_bo, y_bo1, y_bo0, y_i0, y_i1, Classical.not_not, nI_clamp, y_ix, y_lt, y_le, y_eq, y_nP, y_nPs, y_ltP, y_ltQ, y_ltPP, y_eqP, y_eqQ, y_eqPP, if_pos, if_neg, ite_true, ite_false, not_true_eq_false, not_false_eq_true, and_true, true_and, and_false, false_and, or_true, true_or, or_false, false_or, ym_isBoard hM hW, ym_path hM hW]
  · refine ⟨-2, ?_, ?_⟩
    · unfold f_X11_path; simp (disch := omega) only [y_lit, y_n1, nI_add, pk_mul, j_lt, j_b1_s, j_b2_s, j_b3_s, j_b0_s, y_bo, y_bo1, y_bo0, y_i0, y_i1, Classical.not_not, nI_clamp, y_ix, y_lt, y_le, y_eq, y_nP, y_nPs, y_ltP, y_ltQ, y_ltPP, y_eqP, y_eqQ, y_eqPP, if_pos, if_neg, ite_true, ite_false, not_true_eq_false, not_false_eq_true, and_true, true_and, and_false, false_and, or_true, true_or, or_false, false_or, yc_isTold hN hW]
    · unfold f_X12_path; simp (disch := omega) only [y_lit, y_n1, nI_add, pk_mul, j_lt, j_b1_s, j_b2_s, j_b3_s, j_b0_s, y_bo, y_bo1, y_bo0, y_i0, y_i1, Classical.not_not, nI_clamp, y_ix, y_lt, y_le, y_eq, y_nP, y_nPs, y_ltP, y_ltQ, y_ltPP, y_eqP, y_eqQ, y_eqPP, if_pos, if_neg, ite_true, ite_false, not_true_eq_false, not_false_eq_true, and_true, true_and, and_false, false_and, or_true, true_or, or_false, false_or, ym_isBoard hM hW]
theorem z_breaks (hR : j_Rel σ τ) (a1 : Int32) : ∃ v, f_X11_breaks a1 σ = some v ∧ f_X12_breaks a1 τ = some v := by
  obtain ⟨b, hW, hN, hM, hK⟩ := id hR
  have b5 := hW.b5
  have h4 := hW.ho
  by_cases h9 : 0 < b 9
  · by_cases h : y_rg a1 4
    · obtain ⟨l, hl, rfl⟩ := y_of _ _ h.1 h.2
      have both : ∀ m i n, i + m = b 5 → m < n → ∃ v, p_X11_breaks_30 (nI l) σ n (nI i) = some v ∧ p_X12_breaks_19 (nI l) τ n (nI i) = some v := by
        intro m
        induction m with
        | zero =>
          intro i n h hn
          obtain ⟨n, rfl⟩ := y_pos hn
          refine ⟨-1, ?_, ?_⟩
          · unfold p_X11_breaks_30; simp (disch := omega) only [y_lit, y_n1, nI_add, pk_mul, j_lt, j_b1_s, j_b2_s, j_b3_s, j_b0_s, y_bo, y_bo1, y_bo0, y_i0, y_i1, Classical.not_not, nI_clamp, y_ix, y_lt, y_le, y_eq, y_nP, y_nPs, y_ltP, y_ltQ, y_ltPP, y_eqP, y_eqQ, y_eqPP, if_pos, if_neg, ite_true, ite_false, not_true_eq_false, not_false_eq_true, and_true, true_and, and_false, false_and, or_true, true_or, or_false, false_or, hN.d0]
          · unfold p_X12_breaks_19; simp (disch := omega) only [y_lit, y_n1, nI_add, pk_mul, j_lt, j_b1_s, j_b2_s, j_b3_s, j_b0_s, y_bo, y_bo1, y_bo0, y_i0, y_i1, Classical.not_not, nI_clamp, y_ix, y_lt, y_le, y_eq, y_nP, y_nPs, y_ltP, y_ltQ, y_ltPP, y_eqP, y_eqQ, y_eqPP, if_pos, if_neg, ite_true, ite_false, not_true_eq_false, not_false_eq_true, and_true, true_and, and_false, false_and, or_true, true_or, or_false, false_or, hM.f]
        | succ m ih =>
          intro i n h hn
          obtain ⟨n, rfl⟩ := y_pos hn
          have h5 : 0 < b 5 := by omega
          have r0 := y_rd_lt hW h5 i
          have r1 := y_rd_lt hW h5 (i + 2 * b 5 - 1)
          have r2 := y_rd_lt hW h5 (i + 2 * b 5 - 2)
          obtain ⟨v, v1, v2⟩ := ih (i + 1) n (by omega) (by omega)
          have sh0 : ¬ y_sh b (y_rd b i) = 1 := by
            have q := (hW.co (Nat.mod_lt i h5)).2.2.2.2.2.1
            have : y_sh b (y_rd b i) = 0 := q
            omega
          have cl := yc_lets hN hW h9 (l := l) (h := y_rd b i) (one := y_rd b (i + 2 * b 5 - 1) + 1) (two := y_rd b (i + 2 * b 5 - 2) + 1) hl (by omega) (by omega) (by omega) (fun z => by omega) (y_nPs _).symm (y_nPs _).symm
          have ml := ym_lets hM hW h9 (l := l) (h := y_rd b i) (one := y_rd b (i + 2 * b 5 - 1) + 1) (two := y_rd b (i + 2 * b 5 - 2) + 1) hl (by omega) (by omega) (by omega) (y_nPs _).symm (y_nPs _).symm
          rw [if_neg sh0] at ml
          have le := y_lz_le b l (y_rd b i) (y_rd b (i + 2 * b 5 - 1) + 1) (y_rd b (i + 2 * b 5 - 2) + 1)
          have hlt : nI i < nI (b 5) := (y_lt (by omega) (by omega)).mpr (by omega)
          have e5 := hM.f (j := 5) (by omega)
          have kc : p_X11_breaks_30 (nI l) σ (n + 1) (nI i) = if nI (y_lz b l (y_rd b i) (y_rd b (i + 2 * b 5 - 1) + 1) (y_rd b (i + 2 * b 5 - 2) + 1)) = nI 0 then some (nI i) else p_X11_breaks_30 (nI l) σ n (nI (i + 1)) := by
            rw [p_X11_breaks_30, hN.d0, if_pos hlt, show (2 : Int32) = nI 2 from rfl, show (1 : Int32) = nI 1 from rfl, yc_roundm hN hW h5 (by omega) (Or.inr rfl), j_b1_s, yc_roundm hN hW h5 (by omega) (Or.inl rfl), j_b1_s, yc_round hN hW h5 (by omega), j_b1_s, cl, j_b1_s, nI_add]
            rfl
          have km : p_X12_breaks_19 (nI l) τ (n + 1) (nI i) = if nI (y_lz b l (y_rd b i) (y_rd b (i + 2 * b 5 - 1) + 1) (y_rd b (i + 2 * b 5 - 2) + 1)) = nI 0 then some (nI i) else p_X12_breaks_19 (nI l) τ n (nI (i + 1)) := by
            rw [p_X12_breaks_19, show (5 : Int32) = nI 5 from rfl, y_ix (by omega) (by omega), nI_clamp (by omega), e5, if_pos hlt, show (2 : Int32) = nI 2 from rfl, show (1 : Int32) = nI 1 from rfl, ym_holeAt hM hW h5 (by omega), j_b1_s, ym_holeAtm hM hW h5 (by omega) (Or.inl rfl), j_b1_s, ym_holeAtm hM hW h5 (by omega) (Or.inr rfl), j_b1_s, ml, j_b1_s, nI_add]
            rfl
          rw [kc, km]
          generalize y_lz b l (y_rd b i) (y_rd b (i + 2 * b 5 - 1) + 1) (y_rd b (i + 2 * b 5 - 2) + 1) = X at *
          by_cases c : nI X = nI 0
          · rw [if_pos c, if_pos c]; exact ⟨nI i, rfl, rfl⟩
          · rw [if_neg c, if_neg c]; exact ⟨v, v1, v2⟩
      obtain ⟨v, v1, v2⟩ := both (b 5) 0 j_F (by omega) (y_F (by omega))
      refine ⟨v, ?_, ?_⟩
      · unfold f_X11_breaks; simp (disch := omega) only [y_lit, y_n1, nI_add, pk_mul, j_lt, j_b1_s, j_b2_s, j_b3_s, j_b0_s, y_bo, y_bo1, y_bo0, y_i0, y_i1, Classical.not_not, nI_clamp, y_ix, y_lt, y_le, y_eq, y_nP, y_nPs, y_ltP, y_ltQ, y_ltPP, y_eqP, y_eqQ, y_eqPP, if_pos, if_neg, ite_true, ite_false, not_true_eq_false, not_false_eq_true, and_true, true_and, and_false, false_and, or_true, true_or, or_false, false_or, yc_isTold hN hW, yc_isLaw, y_rn]; exact v1
      · unfold f_X12_breaks; simp (disch := omega) only [y_lit, y_n1, nI_add, pk_mul, j_lt, j_b1_s, j_b2_s, j_b3_s, j_b0_s, y_bo, y_bo1, y_bo0, y_i0, y_i1, Classical.not_not, nI_clamp, y_ix, y_lt, y_le, y_eq, y_nP, y_nPs, y_ltP, y_ltQ, y_ltPP, y_eqP, y_eqQ, y_eqPP, if_pos, if_neg, ite_true, ite_false, not_true_eq_false, not_false_eq_true, and_true, true_and, and_false, false_and, or_true, true_or, or_false, false_or, ym_isBoard hM hW, ym_isLaw, y_rn]; exact v2
    · refine ⟨-2, ?_, ?_⟩
      · unfold f_X11_breaks; simp (disch := omega) only [y_lit, y_n1, nI_add, pk_mul, j_lt, j_b1_s, j_b2_s, j_b3_s, j_b0_s, y_bo, y_bo1, y_bo0, y_i0, y_i1, Classical.not_not, nI_clamp, y_ix, y_lt, y_le, y_eq, y_nP, y_nPs, y_ltP, y_ltQ, y_ltPP, y_eqP, y_eqQ, y_eqPP, if_pos, if_neg, ite_true, ite_false, not_true_eq_false, not_false_eq_true, and_true, true_and, and_false, false_and, or_true, true_or, or_false, false_or, yc_isTold hN hW, yc_isLaw, h]
      · unfold f_X12_breaks; simp (disch := omega) only [y_lit, y_n1, nI_add, pk_mul, j_lt, j_b1_s, j_b2_s, j_b3_s, j_b0_s, y_bo, y_bo1, y_bo0, y_i0, y_i1, Classical.not_not, nI_clamp, y_ix, y_lt, y_le, y_eq, y_nP, y_nPs, y_ltP, y_ltQ, y_ltPP, y_eqP, y_eqQ, y_eqPP, if_pos, if_neg, ite_true, ite_false, not_true_eq_false, not_false_eq_true, and_true, true_and, and_false, false_and, or_true, true_or, or_false, false_or, ym_isBoard hM hW, ym_isLaw, h]
  · refine ⟨-2, ?_, ?_⟩
    · unfold f_X11_breaks; simp (disch := omega) only [y_lit, y_n1, nI_add, pk_mul, j_lt, j_b1_s, j_b2_s, j_b3_s, j_b0_s, y_bo, y_bo1, y_bo0, y_i0, y_i1, Classical.not_not, nI_clamp, y_ix, y_lt, y_le, y_eq, y_nP, y_nPs, y_ltP, y_ltQ, y_ltPP, y_eqP, y_eqQ, y_eqPP, if_pos, if_neg, ite_true, ite_false, not_true_eq_false, not_false_eq_true, and_true, true_and, and_false, false_and, or_true, true_or, or_false, false_or, yc_isTold hN hW]
    · unfold f_X12_breaks; simp (disch := omega) only [y_lit, y_n1, nI_add, pk_mul, j_lt, j_b1_s, j_b2_s, j_b3_s, j_b0_s, y_bo, y_bo1, y_bo0, y_i0, y_i1, Classical.not_not, nI_clamp, y_ix, y_lt, y_le, y_eq, y_nP, y_nPs, y_ltP, y_ltQ, y_ltPP, y_eqP, y_eqQ, y_eqPP, if_pos, if_neg, ite_true, ite_false, not_true_eq_false, not_false_eq_true, and_true, true_and, and_false, false_and, or_true, true_or, or_false, false_or, ym_isBoard hM hW]
end Z
/-! ===== swap, better ===== -/
noncomputable def y_tr (k l i : Nat) : Nat := if i = k then l else if i = l then k else i
noncomputable def y_sw (b : Nat → Nat) (k l : Nat) : Nat → Nat := fun j => if 24 ≤ j ∧ j < 96 then b (24 + 3 * y_tr k l ((j - 24) / 3) + (j - 24) % 3) else b j
theorem y_sw_o {b : Nat → Nat} {k l j : Nat} (h : j < 24 ∨ 96 ≤ j) : y_sw b k l j = b j := if_neg (by omega)
theorem y_sw0 {b : Nat → Nat} {k l i : Nat} (h : i < 24) : y_sw b k l (24 + 3 * i) = b (24 + 3 * y_tr k l i) := by
  unfold y_sw; rw [if_pos (by omega), show (24 + 3 * i - 24) / 3 = i from by omega, show (24 + 3 * i - 24) % 3 = 0 from by omega]; rfl
theorem y_sw1 {b : Nat → Nat} {k l i : Nat} (h : i < 24) : y_sw b k l (25 + 3 * i) = b (25 + 3 * y_tr k l i) := by
  unfold y_sw; rw [if_pos (by omega), show (25 + 3 * i - 24) / 3 = i from by omega, show (25 + 3 * i - 24) % 3 = 1 from by omega]; congr 1; omega
theorem y_sw2 {b : Nat → Nat} {k l i : Nat} (h : i < 24) : y_sw b k l (26 + 3 * i) = b (26 + 3 * y_tr k l i) := by
  unfold y_sw; rw [if_pos (by omega), show (26 + 3 * i - 24) / 3 = i from by omega, show (26 + 3 * i - 24) % 3 = 2 from by omega]; congr 1; omega
theorem y_tr_lt {k l i n : Nat} (hk : k < n) (hl : l < n) (hi : i < n) : y_tr k l i < n := by
  unfold y_tr; split
  · exact hl
  · split
    · exact hk
    · exact hi
theorem y_tr_tr {k l i : Nat} : y_tr k l (y_tr k l i) = i := by
  unfold y_tr
  by_cases h1 : i = k
  · rw [if_pos h1]
    by_cases h2 : l = k
    · rw [if_pos h2]; omega
    · rw [if_neg h2, if_pos rfl]; omega
  · rw [if_neg h1]
    by_cases h2 : i = l
    · rw [if_pos h2, if_pos rfl]; omega
    · rw [if_neg h2, if_neg h1, if_neg h2]
theorem y_sw_sw {b : Nat → Nat} {k l : Nat} (hk : k < 24) (hl : l < 24) : y_sw (y_sw b k l) k l = b := by
  funext j
  by_cases h : 24 ≤ j ∧ j < 96
  · have hi : (j - 24) / 3 < 24 := by omega
    have ht := y_tr_lt hk hl hi
    have q : (j - 24) % 3 = 0 ∨ (j - 24) % 3 = 1 ∨ (j - 24) % 3 = 2 := by omega
    have e : y_sw (y_sw b k l) k l j = y_sw b k l (24 + 3 * y_tr k l ((j - 24) / 3) + (j - 24) % 3) := if_pos h
    rw [e]
    rcases q with q | q | q
    · rw [q, Nat.add_zero, y_sw0 ht, y_tr_tr]; congr 1; omega
    · rw [q, show 24 + 3 * y_tr k l ((j - 24) / 3) + 1 = 25 + 3 * y_tr k l ((j - 24) / 3) from by omega, y_sw1 ht, y_tr_tr]; congr 1; omega
    · rw [q, show 24 + 3 * y_tr k l ((j - 24) / 3) + 2 = 26 + 3 * y_tr k l ((j - 24) / 3) from by omega, y_sw2 ht, y_tr_tr]; congr 1; omega
  · rw [y_sw_o (by omega), y_sw_o (by omega)]
theorem y_W.sw {b : Nat → Nat} {k l : Nat} (h : y_W b) (hk : k < b 5) (hl : l < b 5) : y_W (y_sw b k l) := by
  have b5 := h.b5; have b4 := h.b4; have b6 := h.b6
  obtain ⟨h1, h2, h3, h4, h5, h6, h7, h8, h9⟩ := h
  unfold y_W y_ho at *
  refine ⟨?_, ?_, ?_, ?_, ?_, fun j hj => ?_, fun j l' hj hl' => ?_, fun j hj => ?_, fun j hj => ?_⟩
  · simp (disch := omega) only [y_sw_o]; exact h1
  · simp (disch := omega) only [y_sw_o]; exact h2
  · simp (disch := omega) only [y_sw_o]; exact h3
  · simp (disch := omega) only [y_sw_o]; exact h4
  · simp (disch := omega) only [y_sw_o]; exact h5
  · simp (disch := omega) only [y_sw_o] at hj; simp (disch := omega) only [y_sw_o]; exact h6 j hj
  · simp (disch := omega) only [y_sw_o] at hl'; simp (disch := omega) only [y_sw_o]; exact h7 j l' hj hl'
  · simp (disch := omega) only [y_sw_o] at hj
    have q := h8 _ (y_tr_lt hk hl hj)
    rw [y_sw0 (by omega), y_sw1 (by omega), y_sw2 (by omega)]
    simp (disch := omega) only [y_sw_o]
    exact q
  · simp (disch := omega) only [y_sw_o] at hj; simp (disch := omega) only [y_sw_o]; exact h9 j hj
section C
variable {σ τ : j_G} {b : Nat → Nat} {k l : Nat}
theorem yc_exIn {a : Nat} {x : Nat → Int32} (hk : k < 24) (hl : l < 24) (hx : ∀ j, σ.1 a j = x j) : f_X3_exchangeIn a (nI k) (nI l) σ = some (j_si (j_si σ a k (x l)) a l (x k)) := by
  unfold f_X3_exchangeIn
  simp (disch := omega) only [y_lit, y_n1, nI_add, pk_mul, j_lt, j_b1_s, j_b2_s, j_b3_s, j_b0_s, y_bo, y_bo1, y_bo0, y_i0, y_i1, Classical.not_not, nI_clamp, y_ix, y_lt, y_le, y_eq, y_nP, y_nPs, y_ltP, y_ltQ, y_ltPP, y_eqP, y_eqQ, y_eqPP, if_pos, if_neg, ite_true, ite_false, not_true_eq_false, not_false_eq_true, and_true, true_and, and_false, false_and, or_true, true_or, or_false, false_or, hx]
theorem y_exr {a c j k l : Nat} {x y : Int32} {σ : j_G} (h : c ≠ a) : (j_si (j_si σ a k x) a l y).1 c j = σ.1 c j := by rw [j_r_ne h, j_r_ne h]
theorem y_exs {a k l j : Nat} {σ : j_G} : (j_si (j_si σ a k (σ.1 a l)) a l (σ.1 a k)).1 a j = σ.1 a (y_tr k l j) := by
  unfold y_tr
  by_cases h : j = l
  · subst h
    rw [j_r_eq]
    by_cases h2 : j = k
    · rw [if_pos h2, h2]
    · rw [if_neg h2, if_pos rfl]
  · rw [j_r_nj h]
    by_cases h2 : j = k
    · subst h2; rw [j_r_eq, if_pos rfl]
    · rw [j_r_nj h2, if_neg h2, if_neg h]
theorem yc_ex (hN : y_N σ b) (hW : y_W b) (hk : k < b 5) (hl : l < b 5) : ∃ σ', f_X3_exchange (nI k) (nI l) σ = some σ' ∧ y_N σ' (y_sw b k l) ∧ y_fr 6 8 σ σ' := by
  have b5 := hW.b5; have b4 := hW.b4; have b6 := hW.b6
  unfold f_X3_exchange
  simp (disch := omega) only [y_lit, y_n1, nI_add, pk_mul, j_lt, j_b1_s, j_b2_s, j_b3_s, j_b0_s, y_bo, y_bo1, y_bo0, y_i0, y_i1, Classical.not_not, nI_clamp, y_ix, y_lt, y_le, y_eq, y_nP, y_nPs, y_ltP, y_ltQ, y_ltPP, y_eqP, y_eqQ, y_eqPP, if_pos, if_neg, ite_true, ite_false, not_true_eq_false, not_false_eq_true, and_true, true_and, and_false, false_and, or_true, true_or, or_false, false_or, yc_has hN hW, y_rn]
  rw [yc_exIn (x := fun j => σ.1 6 j) (by omega) (by omega) (fun _ => rfl), j_b1_s]
  rw [yc_exIn (x := fun j => σ.1 7 j) (by omega) (by omega) (fun _ => y_exr (by omega)), j_b1_s]
  rw [yc_exIn (x := fun j => σ.1 8 j) (by omega) (by omega) (fun _ => by rw [y_exr (by omega), y_exr (by omega)]), j_b1_s]
  refine ⟨_, rfl, ?_, (((((y_fr.refl.si (by omega) (by omega)).si (by omega) (by omega)).si (by omega) (by omega)).si (by omega) (by omega)).si (by omega) (by omega)).si (by omega) (by omega)⟩
  obtain ⟨⟨f1, f2, f3, f4, f5, f6, f7, f10, d0, d1⟩, f8, s, t, c⟩ := hN
  unfold y_N y_cb
  refine ⟨?_, ?_, fun j hj => ?_, fun p q hp hq => ?_, fun j hj => ?_⟩
  · simp (disch := omega) only [y_exr, y_sw_o]
    exact ⟨f1, f2, f3, f4, f5, f6, f7, f10, d0, d1⟩
  · simp (disch := omega) only [y_exr, y_sw_o]; exact f8
  · simp (disch := omega) only [y_sw_o] at hj; simp (disch := omega) only [y_exr, y_sw_o]; exact s j hj
  · simp (disch := omega) only [y_sw_o] at hp; simp (disch := omega) only [y_exr, y_sw_o]; exact t p q hp hq
  · simp (disch := omega) only [y_sw_o] at hj
    have q := c _ (y_tr_lt hk hl hj)
    rw [y_sw0 (by omega), y_sw1 (by omega), y_sw2 (by omega)]
    refine ⟨?_, ?_, ?_⟩
    · rw [y_exr (by omega), y_exr (by omega), y_exs]; exact q.1
    · rw [y_exr (by omega)]
      have e : (j_si (j_si (j_si (j_si σ 6 k (σ.1 6 l)) 6 l (σ.1 6 k)) 7 k (σ.1 7 l)) 7 l (σ.1 7 k)).1 7 j = σ.1 7 (y_tr k l j) := by
        rw [show σ.1 7 l = (j_si (j_si σ 6 k (σ.1 6 l)) 6 l (σ.1 6 k)).1 7 l from (y_exr (by omega)).symm, show σ.1 7 k = (j_si (j_si σ 6 k (σ.1 6 l)) 6 l (σ.1 6 k)).1 7 k from (y_exr (by omega)).symm, y_exs, y_exr (by omega)]
      rw [e]; exact q.2.1
    · have e : ∀ s2 : j_G, (∀ j, s2.1 8 j = σ.1 8 j) → (j_si (j_si s2 8 k (σ.1 8 l)) 8 l (σ.1 8 k)).1 8 j = σ.1 8 (y_tr k l j) := by
        intro s2 h2
        rw [← h2 l, ← h2 k, y_exs, h2]
      rw [e _ (fun j => by rw [y_exr (by omega), y_exr (by omega)])]; exact q.2.2
theorem ym_ex (hM : y_M τ b) (hk : k < 24) (hl : l < 24) : ∃ τ', f_X12_trade (nI k) (nI l) τ = some τ' ∧ y_M τ' (y_sw b k l) ∧ y_km τ τ' := by
  unfold f_X12_trade
  rw [show j_F = 4996 + 1 + 1 + 1 + 1 from rfl]
  unfold p_X12_trade_2 f_X12_ofComing
  simp (disch := omega) only [y_lit, y_n1, nI_add, pk_mul, j_lt, j_b1_s, j_b2_s, j_b3_s, j_b0_s, y_bo, y_bo1, y_bo0, y_i0, y_i1, Classical.not_not, nI_clamp, y_ix, y_lt, y_le, y_eq, y_nP, y_nPs, y_ltP, y_ltQ, y_ltPP, y_eqP, y_eqQ, y_eqPP, if_pos, if_neg, ite_true, ite_false, not_true_eq_false, not_false_eq_true, and_true, true_and, and_false, false_and, or_true, true_or, or_false, false_or, j_r_ne, j_r_eq, j_r_nj]
  unfold p_X12_trade_2 f_X12_ofComing
  simp (disch := omega) only [y_lit, y_n1, nI_add, pk_mul, j_lt, j_b1_s, j_b2_s, j_b3_s, j_b0_s, y_bo, y_bo1, y_bo0, y_i0, y_i1, Classical.not_not, nI_clamp, y_ix, y_lt, y_le, y_eq, y_nP, y_nPs, y_ltP, y_ltQ, y_ltPP, y_eqP, y_eqQ, y_eqPP, if_pos, if_neg, ite_true, ite_false, not_true_eq_false, not_false_eq_true, and_true, true_and, and_false, false_and, or_true, true_or, or_false, false_or, j_r_ne, j_r_eq, j_r_nj]
  unfold p_X12_trade_2 f_X12_ofComing
  simp (disch := omega) only [y_lit, y_n1, nI_add, pk_mul, j_lt, j_b1_s, j_b2_s, j_b3_s, j_b0_s, y_bo, y_bo1, y_bo0, y_i0, y_i1, Classical.not_not, nI_clamp, y_ix, y_lt, y_le, y_eq, y_nP, y_nPs, y_ltP, y_ltQ, y_ltPP, y_eqP, y_eqQ, y_eqPP, if_pos, if_neg, ite_true, ite_false, not_true_eq_false, not_false_eq_true, and_true, true_and, and_false, false_and, or_true, true_or, or_false, false_or, j_r_ne, j_r_eq, j_r_nj]
  unfold p_X12_trade_2
  simp (disch := omega) only [y_lit, y_n1, nI_add, pk_mul, j_lt, j_b1_s, j_b2_s, j_b3_s, j_b0_s, y_bo, y_bo1, y_bo0, y_i0, y_i1, Classical.not_not, nI_clamp, y_ix, y_lt, y_le, y_eq, y_nP, y_nPs, y_ltP, y_ltQ, y_ltPP, y_eqP, y_eqQ, y_eqPP, if_pos, if_neg, ite_true, ite_false, not_true_eq_false, not_false_eq_true, and_true, true_and, and_false, false_and, or_true, true_or, or_false, false_or, j_r_ne, j_r_eq, j_r_nj]
  refine ⟨_, rfl, fun j hj => ?_, ((((y_km.w.trans y_km.w).trans y_km.w).trans y_km.w).trans y_km.w).trans y_km.w⟩
  have e0 := fun {i : Nat} (h : i < 24) => y_mb.k0 hM h
  have e1 := fun {i : Nat} (h : i < 24) => y_mb.k1 hM h
  have e2 := fun {i : Nat} (h : i < 24) => y_mb.k2 hM h
  by_cases h : 24 ≤ j ∧ j < 96
  · obtain ⟨i, hi⟩ : ∃ i, i = (j - 24) / 3 := ⟨_, rfl⟩
    have hi24 : i < 24 := by omega
    have q : j = 24 + 3 * i ∨ j = 25 + 3 * i ∨ j = 26 + 3 * i := by omega
    rcases q with rfl | rfl | rfl
    · rw [if_neg (by omega), y_sw0 hi24]
      unfold y_tr
      by_cases c1 : i = l
      · subst c1
        by_cases c2 : i = k
        · subst c2; rw [if_pos rfl]; simp (disch := omega) only [j_r_ne, j_r_eq, j_r_nj, Nat.add_zero, e0]
        · rw [if_neg c2, if_pos rfl]; simp (disch := omega) only [j_r_ne, j_r_eq, j_r_nj, Nat.add_zero, e0]
      · by_cases c2 : i = k
        · subst c2; rw [if_pos rfl]; simp (disch := omega) only [j_r_ne, j_r_eq, j_r_nj, Nat.add_zero, e0]
        · rw [if_neg c2, if_neg c1]; simp (disch := omega) only [j_r_ne, j_r_eq, j_r_nj, Nat.add_zero, e0]
    · rw [if_pos (by omega), y_sw1 hi24]
      unfold y_tr
      by_cases c1 : i = l
      · subst c1
        by_cases c2 : i = k
        · subst c2; rw [if_pos rfl]; simp (disch := omega) only [j_r_ne, j_r_eq, j_r_nj, Nat.add_right_comm 24 _ 1, e1]
        · rw [if_neg c2, if_pos rfl]; simp (disch := omega) only [j_r_ne, j_r_eq, j_r_nj, Nat.add_right_comm 24 _ 1, e1]
      · by_cases c2 : i = k
        · subst c2; rw [if_pos rfl]; simp (disch := omega) only [j_r_ne, j_r_eq, j_r_nj, Nat.add_right_comm 24 _ 1, e1]
        · rw [if_neg c2, if_neg c1]; simp (disch := omega) only [j_r_ne, j_r_eq, j_r_nj, Nat.add_right_comm 24 _ 1, e1]
    · rw [if_neg (by omega), y_sw2 hi24]
      unfold y_tr
      by_cases c1 : i = l
      · subst c1
        by_cases c2 : i = k
        · subst c2; rw [if_pos rfl]; simp (disch := omega) only [j_r_ne, j_r_eq, j_r_nj, Nat.add_right_comm 24 _ 2, e2]
        · rw [if_neg c2, if_pos rfl]; simp (disch := omega) only [j_r_ne, j_r_eq, j_r_nj, Nat.add_right_comm 24 _ 2, e2]
      · by_cases c2 : i = k
        · subst c2; rw [if_pos rfl]; simp (disch := omega) only [j_r_ne, j_r_eq, j_r_nj, Nat.add_right_comm 24 _ 2, e2]
        · rw [if_neg c2, if_neg c1]; simp (disch := omega) only [j_r_ne, j_r_eq, j_r_nj, Nat.add_right_comm 24 _ 2, e2]
  · rw [y_sw_o (by omega)]
    have := hM j hj
    simp (disch := omega) only [j_r_ne, j_r_eq, j_r_nj]
    exact this
end C
section Z
variable {σ τ : j_G}
theorem z_swap (hR : j_Rel σ τ) (a1 a2 : Int32) : ∃ v σ1 τ1, f_X11_swap a1 a2 σ = some (v, σ1) ∧ f_X12_swap a1 a2 τ = some (v, τ1) ∧ j_Rel σ1 τ1 := by
  obtain ⟨b, hW, hN, hM, hK⟩ := id hR
  have h5 := hW.b5
  by_cases h : y_rg a1 (b 5)
  · by_cases h2 : y_rg a2 (b 5)
    · obtain ⟨k, hk, rfl⟩ := y_of _ _ h.1 h.2
      obtain ⟨l, hl, rfl⟩ := y_of _ _ h2.1 h2.2
      obtain ⟨σ1, e1, e2, e3⟩ := yc_ex hN hW hk hl
      obtain ⟨τ1, f1, f2, f3⟩ := ym_ex (k := k) (l := l) hM (by omega) (by omega)
      refine ⟨0, σ1, τ1, ?_, ?_, y_sw b k l, hW.sw hk hl, e2, f2, hK.fr2 (y_kc.of e3 (by omega) (by omega)) f3⟩
      · unfold f_X11_swap; simp (disch := omega) only [y_lit, y_n1, nI_add, pk_mul, j_lt, j_b1_s, j_b2_s, j_b3_s, j_b0_s, y_bo, y_bo1, y_bo0, y_i0, y_i1, Classical.not_not, nI_clamp, y_ix, y_lt, y_le, y_eq, y_nP, y_nPs, y_ltP, y_ltQ, y_ltPP, y_eqP, y_eqQ, y_eqPP, if_pos, if_neg, ite_true, ite_false, not_true_eq_false, not_false_eq_true, and_true, true_and, and_false, false_and, or_true, true_or, or_false, false_or, yc_has hN hW, y_rn, e1]
      · unfold f_X12_swap; simp (disch := omega) only [y_lit, y_n1, nI_add, pk_mul, j_lt, j_b1_s, j_b2_s, j_b3_s, j_b0_s, y_bo, y_bo1, y_bo0, y_i0, y_i1, Classical.not_not, nI_clamp, y_ix, y_lt, y_le, y_eq, y_nP, y_nPs, y_ltP, y_ltQ, y_ltPP, y_eqP, y_eqQ, y_eqPP, if_pos, if_neg, ite_true, ite_false, not_true_eq_false, not_false_eq_true, and_true, true_and, and_false, false_and, or_true, true_or, or_false, false_or, ym_isComing hM hW, y_rn, f1]
    · refine ⟨-2, σ, τ, ?_, ?_, hR⟩
      · unfold f_X11_swap; simp (disch := omega) only [y_lit, y_n1, nI_add, pk_mul, j_lt, j_b1_s, j_b2_s, j_b3_s, j_b0_s, y_bo, y_bo1, y_bo0, y_i0, y_i1, Classical.not_not, nI_clamp, y_ix, y_lt, y_le, y_eq, y_nP, y_nPs, y_ltP, y_ltQ, y_ltPP, y_eqP, y_eqQ, y_eqPP, if_pos, if_neg, ite_true, ite_false, not_true_eq_false, not_false_eq_true, and_true, true_and, and_false, false_and, or_true, true_or, or_false, false_or, yc_has hN hW, h2]
      · unfold f_X12_swap; simp (disch := omega) only [y_lit, y_n1, nI_add, pk_mul, j_lt, j_b1_s, j_b2_s, j_b3_s, j_b0_s, y_bo, y_bo1, y_bo0, y_i0, y_i1, Classical.not_not, nI_clamp, y_ix, y_lt, y_le, y_eq, y_nP, y_nPs, y_ltP, y_ltQ, y_ltPP, y_eqP, y_eqQ, y_eqPP, if_pos, if_neg, ite_true, ite_false, not_true_eq_false, not_false_eq_true, and_true, true_and, and_false, false_and, or_true, true_or, or_false, false_or, ym_isComing hM hW, h, h2]
  · refine ⟨-2, σ, τ, ?_, ?_, hR⟩
    · unfold f_X11_swap; simp (disch := omega) only [y_lit, y_n1, nI_add, pk_mul, j_lt, j_b1_s, j_b2_s, j_b3_s, j_b0_s, y_bo, y_bo1, y_bo0, y_i0, y_i1, Classical.not_not, nI_clamp, y_ix, y_lt, y_le, y_eq, y_nP, y_nPs, y_ltP, y_ltQ, y_ltPP, y_eqP, y_eqQ, y_eqPP, if_pos, if_neg, ite_true, ite_false, not_true_eq_false, not_false_eq_true, and_true, true_and, and_false, false_and, or_true, true_or, or_false, false_or, yc_has hN hW, h]
    · unfold f_X12_swap; simp (disch := omega) only [y_lit, y_n1, nI_add, pk_mul, j_lt, j_b1_s, j_b2_s, j_b3_s, j_b0_s, y_bo, y_bo1, y_bo0, y_i0, y_i1, Classical.not_not, nI_clamp, y_ix, y_lt, y_le, y_eq, y_nP, y_nPs, y_ltP, y_ltQ, y_ltPP, y_eqP, y_eqQ, y_eqPP, if_pos, if_neg, ite_true, ite_false, not_true_eq_false, not_false_eq_true, and_true, true_and, and_false, false_and, or_true, true_or, or_false, false_or, ym_isComing hM hW, h]
theorem z_better (hR : j_Rel σ τ) (a1 : Int32) : ∃ v σ1 τ1, f_X11_better a1 σ = some (v, σ1) ∧ f_X12_better a1 τ = some (v, τ1) ∧ j_Rel σ1 τ1 := by
  obtain ⟨b, hW, hN, hM, hK⟩ := id hR
  have h5 := hW.b5
  by_cases h9 : 0 < b 9
  · by_cases h : y_rg a1 2
    · have inner : ∀ k, k < b 5 → ∀ m l n f x σ' τ', l + m = b 5 → m < n → x ≤ 576 → y_N σ' b → y_M τ' b → ∃ f' x' σ'' τ'', x' ≤ 576 ∧ p_X11_better_56 a1 (nI k) n f (nI x) (nI l) σ' = some (f', nI x', σ'') ∧ p_X12_better_47 a1 (nI k) n f (nI x) (nI l) τ' = some (f', nI x', τ'') ∧ y_N σ'' b ∧ y_M τ'' b ∧ y_kc σ' σ'' ∧ y_km τ' τ'' := by
        intro k hk m
        induction m with
        | zero =>
          intro l n f x σ' τ' h hn hx hN hM
          obtain ⟨n, rfl⟩ := y_pos hn
          refine ⟨f, x, σ', τ', hx, ?_, ?_, hN, hM, y_kc.refl, y_km.refl⟩
          · unfold p_X11_better_56; simp (disch := omega) only [y_lit, y_n1, nI_add, pk_mul, j_lt, j_b1_s, j_b2_s, j_b3_s, j_b0_s, y_bo, y_bo1, y_bo0, y_i0, y_i1, Classical.not_not, nI_clamp, y_ix, y_lt, y_le, y_eq, y_nP, y_nPs, y_ltP, y_ltQ, y_ltPP, y_eqP, y_eqQ, y_eqPP, if_pos, if_neg, ite_true, ite_false, not_true_eq_false, not_false_eq_true, and_true, true_and, and_false, false_and, or_true, true_or, or_false, false_or, hN.d0]
          · unfold p_X12_better_47; simp (disch := omega) only [y_lit, y_n1, nI_add, pk_mul, j_lt, j_b1_s, j_b2_s, j_b3_s, j_b0_s, y_bo, y_bo1, y_bo0, y_i0, y_i1, Classical.not_not, nI_clamp, y_ix, y_lt, y_le, y_eq, y_nP, y_nPs, y_ltP, y_ltQ, y_ltPP, y_eqP, y_eqQ, y_eqPP, if_pos, if_neg, ite_true, ite_false, not_true_eq_false, not_false_eq_true, and_true, true_and, and_false, false_and, or_true, true_or, or_false, false_or, hM.f]
        | succ m ih =>
          intro l n f x σ' τ' h hn hx hN hM
          obtain ⟨n, rfl⟩ := y_pos hn
          have hl : l < b 5 := by omega
          obtain ⟨σ1, e1, e2, e3⟩ := yc_ex hN hW hk hl
          obtain ⟨τ1, f1, f2, f3⟩ := ym_ex (k := k) (l := l) hM (by omega) (by omega)
          have hW1 := hW.sw hk hl
          have s5 : y_sw b k l 5 = b 5 := y_sw_o (by omega)
          obtain ⟨σ2, g1, g2, g3⟩ := yc_ex e2 hW1 (k := k) (l := l) (by omega) (by omega)
          obtain ⟨τ2, k1, k2, k3⟩ := ym_ex (k := k) (l := l) f2 (by omega) (by omega)
          rw [y_sw_sw (by omega) (by omega)] at g2 k2
          have pl := y_pa_le hW1
          have pc := yc_path e2 hW1
          have pm := ym_path f2 hW1
          generalize y_pa (y_sw b k l) = X at *
          have c1 : y_kc σ' σ2 := (y_kc.of e3 (by omega) (by omega)).trans (y_kc.of g3 (by omega) (by omega))
          have c2 := f3.trans k3
          have hlt : nI l < nI (b 5) := (y_lt (by omega) (by omega)).mpr hl
          have e5 := hM.f (j := 5) (by omega)
          have kc : p_X11_better_56 a1 (nI k) (n + 1) f (nI x) (nI l) σ' = p_X11_better_56 a1 (nI k) n (if a1 = nI 0 then (if nI x < nI X then (nI 100 * nI k + nI l, nI X) else (f, nI x)) else (if nI X < nI x then (nI 100 * nI k + nI l, nI X) else (f, nI x))).1 (if a1 = nI 0 then (if nI x < nI X then (nI 100 * nI k + nI l, nI X) else (f, nI x)) else (if nI X < nI x then (nI 100 * nI k + nI l, nI X) else (f, nI x))).2 (nI (l + 1)) σ2 := by
            rw [p_X11_better_56, hN.d0, if_pos hlt, e1, j_b1_s, pc, j_b1_s, g1, j_b1_s, show (1 : Int32) = nI 1 from rfl, nI_add]
            rfl
          have km : p_X12_better_47 a1 (nI k) (n + 1) f (nI x) (nI l) τ' = p_X12_better_47 a1 (nI k) n (if a1 = nI 0 then (if ¬ nI x < nI X then (f, nI x) else (nI 100 * nI k + nI l, nI X)) else (if ¬ nI X < nI x then (f, nI x) else (nI 100 * nI k + nI l, nI X))).1 (if a1 = nI 0 then (if ¬ nI x < nI X then (f, nI x) else (nI 100 * nI k + nI l, nI X)) else (if ¬ nI X < nI x then (f, nI x) else (nI 100 * nI k + nI l, nI X))).2 (nI (l + 1)) τ2 := by
            rw [p_X12_better_47, show (5 : Int32) = nI 5 from rfl, y_ix (by omega) (by omega), nI_clamp (by omega), e5, if_pos hlt, f1, j_b1_s, pm, j_b1_s, k1, j_b1_s, show (1 : Int32) = nI 1 from rfl, nI_add]
            rfl
          rw [kc, km]
          have go : ∀ f x, x ≤ 576 → ∃ f' x' σ'' τ'', x' ≤ 576 ∧ p_X11_better_56 a1 (nI k) n f (nI x) (nI (l + 1)) σ2 = some (f', nI x', σ'') ∧ p_X12_better_47 a1 (nI k) n f (nI x) (nI (l + 1)) τ2 = some (f', nI x', τ'') ∧ y_N σ'' b ∧ y_M τ'' b ∧ y_kc σ' σ'' ∧ y_km τ' τ'' := by
            intro f x hx
            obtain ⟨f', x', σ'', τ'', r0, r1, r2, r3, r4, r5, r6⟩ := ih (l + 1) n f x σ2 τ2 (by omega) (by omega) hx g2 k2
            exact ⟨f', x', σ'', τ'', r0, r1, r2, r3, r4, c1.trans r5, c2.trans r6⟩
          by_cases a0 : a1 = nI 0
          · simp only [if_pos a0]
            by_cases c : nI x < nI X
            · rw [if_pos c, if_neg (fun z => z c)]; exact go _ _ pl
            · rw [if_neg c, if_pos c]; exact go _ _ hx
          · simp only [if_neg a0]
            by_cases c : nI X < nI x
            · rw [if_pos c, if_neg (fun z => z c)]; exact go _ _ pl
            · rw [if_neg c, if_pos c]; exact go _ _ hx
      have outer : ∀ m k n f x σ' τ', k + m = b 5 → m < n → x ≤ 576 → y_N σ' b → y_M τ' b → ∃ v σ'' τ'', p_X11_better_35 a1 n f (nI x) (nI k) σ' = some (v, σ'') ∧ p_X12_better_30 a1 n f (nI x) (nI k) τ' = some (v, τ'') ∧ y_N σ'' b ∧ y_M τ'' b ∧ y_kc σ' σ'' ∧ y_km τ' τ'' := by
        intro m
        induction m with
        | zero =>
          intro k n f x σ' τ' h hn hx hN hM
          obtain ⟨n, rfl⟩ := y_pos hn
          refine ⟨f, σ', τ', ?_, ?_, hN, hM, y_kc.refl, y_km.refl⟩
          · unfold p_X11_better_35; simp (disch := omega) only [y_lit, y_n1, nI_add, pk_mul, j_lt, j_b1_s, j_b2_s, j_b3_s, j_b0_s, y_bo, y_bo1, y_bo0, y_i0, y_i1, Classical.not_not, nI_clamp, y_ix, y_lt, y_le, y_eq, y_nP, y_nPs, y_ltP, y_ltQ, y_ltPP, y_eqP, y_eqQ, y_eqPP, if_pos, if_neg, ite_true, ite_false, not_true_eq_false, not_false_eq_true, and_true, true_and, and_false, false_and, or_true, true_or, or_false, false_or, hN.d0]
          · unfold p_X12_better_30; simp (disch := omega) only [y_lit, y_n1, nI_add, pk_mul, j_lt, j_b1_s, j_b2_s, j_b3_s, j_b0_s, y_bo, y_bo1, y_bo0, y_i0, y_i1, Classical.not_not, nI_clamp, y_ix, y_lt, y_le, y_eq, y_nP, y_nPs, y_ltP, y_ltQ, y_ltPP, y_eqP, y_eqQ, y_eqPP, if_pos, if_neg, ite_true, ite_false, not_true_eq_false, not_false_eq_true, and_true, true_and, and_false, false_and, or_true, true_or, or_false, false_or, hM.f]
        | succ m ih =>
          intro k n f x σ' τ' h hn hx hN hM
          obtain ⟨n, rfl⟩ := y_pos hn
          obtain ⟨f', x', σ1, τ1, r0, r1, r2, r3, r4, r5, r6⟩ := inner k (by omega) m (k + 1) j_F f x σ' τ' (by omega) (y_F (by omega)) hx hN hM
          obtain ⟨v, σ2, τ2, s1, s2, s3, s4, s5, s6⟩ := ih (k + 1) n f' x' σ1 τ1 (by omega) (by omega) r0 r3 r4
          have hlt : nI k < nI (b 5) := (y_lt (by omega) (by omega)).mpr (by omega)
          have e5 := hM.f (j := 5) (by omega)
          refine ⟨v, σ2, τ2, ?_, ?_, s3, s4, r5.trans s5, r6.trans s6⟩
          · rw [p_X11_better_35, hN.d0, if_pos hlt, show (1 : Int32) = nI 1 from rfl, nI_add]
            simp only [j_lt]
            rw [r1, j_b3_s]; exact s1
          · rw [p_X12_better_30, show (5 : Int32) = nI 5 from rfl, y_ix (by omega) (by omega), nI_clamp (by omega), e5, if_pos hlt, show (1 : Int32) = nI 1 from rfl, nI_add]
            simp only [j_lt]
            rw [r2, j_b3_s]; exact s2
      obtain ⟨v, σ1, τ1, r1, r2, r3, r4, r5, r6⟩ := outer (b 5) 0 j_F (nP 0) (y_pa b) σ τ (by omega) (y_F (by omega)) (y_pa_le hW) hN hM
      refine ⟨v, σ1, τ1, ?_, ?_, b, hW, r3, r4, hK.fr2 r5 r6⟩
      · unfold f_X11_better; simp (disch := omega) only [y_lit, y_n1, nI_add, pk_mul, j_lt, j_b1_s, j_b2_s, j_b3_s, j_b0_s, y_bo, y_bo1, y_bo0, y_i0, y_i1, Classical.not_not, nI_clamp, y_ix, y_lt, y_le, y_eq, y_nP, y_nPs, y_ltP, y_ltQ, y_ltPP, y_eqP, y_eqQ, y_eqPP, if_pos, if_neg, ite_true, ite_false, not_true_eq_false, not_false_eq_true, and_true, true_and, and_false, false_and, or_true, true_or, or_false, false_or, yc_isTold hN hW, y_c5, h, yc_path hN hW, r1]
      · unfold f_X12_better; simp (disch := omega) only [y_lit, y_n1, nI_add, pk_mul, j_lt, j_b1_s, j_b2_s, j_b3_s, j_b0_s, y_bo, y_bo1, y_bo0, y_i0, y_i1, Classical.not_not, nI_clamp, y_ix, y_lt, y_le, y_eq, y_nP, y_nPs, y_ltP, y_ltQ, y_ltPP, y_eqP, y_eqQ, y_eqPP, if_pos, if_neg, ite_true, ite_false, not_true_eq_false, not_false_eq_true, and_true, true_and, and_false, false_and, or_true, true_or, or_false, false_or, ym_isBoard hM hW, y_lit64, y_in, y_c3, h, ym_path hM hW, r2]
    · refine ⟨-2, σ, τ, ?_, ?_, hR⟩
      · unfold f_X11_better; simp (disch := omega) only [y_lit, y_n1, nI_add, pk_mul, j_lt, j_b1_s, j_b2_s, j_b3_s, j_b0_s, y_bo, y_bo1, y_bo0, y_i0, y_i1, Classical.not_not, nI_clamp, y_ix, y_lt, y_le, y_eq, y_nP, y_nPs, y_ltP, y_ltQ, y_ltPP, y_eqP, y_eqQ, y_eqPP, if_pos, if_neg, ite_true, ite_false, not_true_eq_false, not_false_eq_true, and_true, true_and, and_false, false_and, or_true, true_or, or_false, false_or, yc_isTold hN hW, y_c5, h]
      · unfold f_X12_better; simp (disch := omega) only [y_lit, y_n1, nI_add, pk_mul, j_lt, j_b1_s, j_b2_s, j_b3_s, j_b0_s, y_bo, y_bo1, y_bo0, y_i0, y_i1, Classical.not_not, nI_clamp, y_ix, y_lt, y_le, y_eq, y_nP, y_nPs, y_ltP, y_ltQ, y_ltPP, y_eqP, y_eqQ, y_eqPP, if_pos, if_neg, ite_true, ite_false, not_true_eq_false, not_false_eq_true, and_true, true_and, and_false, false_and, or_true, true_or, or_false, false_or, ym_isBoard hM hW, y_lit64, y_in, y_c3, h]
  · refine ⟨-2, σ, τ, ?_, ?_, hR⟩
    · unfold f_X11_better; simp (disch := omega) only [y_lit, y_n1, nI_add, pk_mul, j_lt, j_b1_s, j_b2_s, j_b3_s, j_b0_s, y_bo, y_bo1, y_bo0, y_i0, y_i1, Classical.not_not, nI_clamp, y_ix, y_lt, y_le, y_eq, y_nP, y_nPs, y_ltP, y_ltQ, y_ltPP, y_eqP, y_eqQ, y_eqPP, if_pos, if_neg, ite_true, ite_false, not_true_eq_false, not_false_eq_true, and_true, true_and, and_false, false_and, or_true, true_or, or_false, false_or, yc_isTold hN hW]
    · unfold f_X12_better; simp (disch := omega) only [y_lit, y_n1, nI_add, pk_mul, j_lt, j_b1_s, j_b2_s, j_b3_s, j_b0_s, y_bo, y_bo1, y_bo0, y_i0, y_i1, Classical.not_not, nI_clamp, y_ix, y_lt, y_le, y_eq, y_nP, y_nPs, y_ltP, y_ltQ, y_ltPP, y_eqP, y_eqQ, y_eqPP, if_pos, if_neg, ite_true, ite_false, not_true_eq_false, not_false_eq_true, and_true, true_and, and_false, false_and, or_true, true_or, or_false, false_or, ym_isBoard hM hW]
end Z
/-! ===== nights ===== -/
theorem y_litL (n : Nat) : (OfNat.ofNat n : Int64) = lN (OfNat.ofNat n) := Eq.trans rfl (Eq.refl _)
noncomputable def y_nx (x : Nat) : Nat := (1103515245 * x + 12345) % 2147483648
/-- whether a hole may come now -/
noncomputable def y_ok (b : Nat → Nat) (l one two h : Nat) : Nat := if y_sh b h = 1 then 0 else y_lz b l h one two
noncomputable def y_cn (b : Nat → Nat) (l one two : Nat) : Nat := y_su (y_ok b l one two) (y_ho b) 0 0
noncomputable def y_nt (b : Nat → Nat) (l one two : Nat) : Nat → Nat → Nat → Nat
  | 0, _, _ => 0
  | m + 1, h, z => if y_ok b l one two h = 0 then y_nt b l one two m (h + 1) z else if z = 0 then h + 1 else y_nt b l one two m (h + 1) (z - 1)
noncomputable def y_nh (b : Nat → Nat) (l one two x : Nat) : Nat := y_nt b l one two (y_ho b) 0 (y_nx x / 65536 % y_cn b l one two)
noncomputable def y_ng (b : Nat → Nat) (l : Nat) : Nat → Nat → Nat → Nat → Nat → (Nat → Nat) → Nat × (Nat → Nat)
  | 0, i, _, _, _, g => (i, g)
  | m + 1, i, x, one, two, g => if y_last b i < b 2 then (if y_cn b l one two = 0 then (i, g) else y_ng b l m (i + 1) (y_nx x) (y_nh b l one two x) one (y_u (y_u (y_u g (3 * i) (y_nh b l one two x - 1)) (3 * i + 1) 0) (3 * i + 2) 0)) else (i, g)
noncomputable def y_nig (b : Nat → Nat) (l x : Nat) : Nat × (Nat → Nat) := y_ng b l 60 0 x 0 0 (fun _ => 0)
theorem y_ok_le (b : Nat → Nat) (l one two h : Nat) : y_ok b l one two h ≤ 1 := by
  have := y_lz_le b l h one two
  unfold y_ok; split <;> omega
theorem y_cn_le {b : Nat → Nat} (hW : y_W b) (l one two : Nat) : y_cn b l one two ≤ 12 := by
  have := hW.ho
  have := y_su_bd (f := y_ok b l one two) (c := 1) (y_ho b) 0 (fun j _ _ => y_ok_le _ _ _ _ _)
  unfold y_cn; omega
theorem y_nt_le {b : Nat → Nat} {l one two : Nat} : ∀ m h z, y_nt b l one two m h z ≤ h + m := by
  intro m
  induction m with
  | zero => intro h z; exact Nat.zero_le _
  | succ m ih =>
    intro h z
    unfold y_nt
    split
    · have := ih (h + 1) z; omega
    · split
      · omega
      · have := ih (h + 1) (z - 1); omega
theorem y_nt_pos {b : Nat → Nat} {l one two : Nat} : ∀ m h z, z < y_su (y_ok b l one two) m h 0 → 0 < y_nt b l one two m h z := by
  intro m
  induction m with
  | zero => intro h z hz; exact absurd hz (Nat.not_lt_zero _)
  | succ m ih =>
    intro h z hz
    rw [y_su_s] at hz
    have := y_ok_le b l one two h
    unfold y_nt
    split
    · exact ih (h + 1) z (by omega)
    · split
      · omega
      · exact ih (h + 1) (z - 1) (by omega)
theorem y_nh_bd {b : Nat → Nat} {l one two x : Nat} (hc : y_cn b l one two ≠ 0) : 0 < y_nh b l one two x ∧ y_nh b l one two x ≤ y_ho b := by
  unfold y_nh
  refine ⟨y_nt_pos _ _ _ (Nat.mod_lt _ (by omega)), ?_⟩
  have := y_nt_le (b := b) (l := l) (one := one) (two := two) (y_ho b) 0 (y_nx x / 65536 % y_cn b l one two)
  omega
theorem y_nx_lt (x : Nat) : y_nx x < 2147483648 := Nat.mod_lt _ (by omega)
theorem y_cg.congr {σ : j_G} {b g g' : Nat → Nat} {s : Nat} (h : y_cg σ b s g) (e : ∀ j, j < 3 * s → g' j = g j) : y_cg σ b s g' := by
  refine ⟨h.1, fun i hi => ?_⟩
  have := h.2 i hi
  rw [e (3 * i) (by omega), e (3 * i + 1) (by omega), e (3 * i + 2) (by omega)]
  exact this
theorem y_mg.congr {σ : j_G} {b g g' : Nat → Nat} {s : Nat} (h : y_mg σ b s g) (e : ∀ j, j < 3 * s → g' j = g j) : y_mg σ b s g' := by
  refine ⟨h.1, fun i hi => ?_⟩
  have := h.2 i hi
  rw [e (3 * i) (by omega), e (3 * i + 1) (by omega), e (3 * i + 2) (by omega)]
  exact this
section C
variable {σ τ : j_G} {b : Nat → Nat} {l one two : Nat} {B L : Int32}
theorem yc_count {x6 : Int32} {x4 : Int64} (hN : y_N σ b) (hW : y_W b) (h9 : 0 < b 9) (hl : l < 4) (h1 : one ≤ 12) (h2 : two ≤ 12) (hz : one = 0 → two = 0) (eB : B = nP two) (eL : L = nP one) : p_X4_draw_38 (nI l) x4 B L x6 σ j_F (nI 0) (nI 0) = some (nI (y_cn b l one two)) := by
  have h4 := hW.ho
  have key : ∀ m i n v, i + m = y_ho b → m < n → p_X4_draw_38 (nI l) x4 B L x6 σ n (nI v) (nI i) = some (nI (y_su (y_ok b l one two) m i v)) := by
    intro m
    induction m with
    | zero =>
      intro i n v h hn
      obtain ⟨n, rfl⟩ := y_pos hn
      unfold p_X4_draw_38 y_su; simp (disch := omega) only [y_lit, y_n1, nI_add, pk_mul, j_lt, j_b1_s, j_b2_s, j_b3_s, j_b0_s, y_bo, y_bo1, y_bo0, y_i0, y_i1, Classical.not_not, nI_clamp, y_ix, y_lt, y_le, y_eq, y_nP, y_nPs, y_ltP, y_ltQ, y_ltPP, y_eqP, y_eqQ, y_eqPP, if_pos, if_neg, ite_true, ite_false, not_true_eq_false, not_false_eq_true, and_true, true_and, and_false, false_and, or_true, true_or, or_false, false_or, yc_holes hN]
    | succ m ih =>
      intro i n v h hn
      obtain ⟨n, rfl⟩ := y_pos hn
      have sl := y_sh_le b i
      have ll := y_lz_le b l i one two
      have cl := yc_lets hN hW h9 (l := l) (h := i) hl (by omega) h1 h2 hz eB eL
      unfold p_X4_draw_38 y_su; simp (disch := omega) only [y_lit, y_n1, nI_add, pk_mul, j_lt, j_b1_s, j_b2_s, j_b3_s, j_b0_s, y_bo, y_bo1, y_bo0, y_i0, y_i1, Classical.not_not, nI_clamp, y_ix, y_lt, y_le, y_eq, y_nP, y_nPs, y_ltP, y_ltQ, y_ltPP, y_eqP, y_eqQ, y_eqPP, if_pos, if_neg, ite_true, ite_false, not_true_eq_false, not_false_eq_true, and_true, true_and, and_false, false_and, or_true, true_or, or_false, false_or, yc_holes hN, yc_isShut hN hW]
      by_cases c : y_sh b i = 1
      · have e : y_ok b l one two i = 0 := if_pos c
        rw [e]; simp (disch := omega) only [y_lit, y_n1, nI_add, pk_mul, j_lt, j_b1_s, j_b2_s, j_b3_s, j_b0_s, y_bo, y_bo1, y_bo0, y_i0, y_i1, Classical.not_not, nI_clamp, y_ix, y_lt, y_le, y_eq, y_nP, y_nPs, y_ltP, y_ltQ, y_ltPP, y_eqP, y_eqQ, y_eqPP, if_pos, if_neg, ite_true, ite_false, not_true_eq_false, not_false_eq_true, and_true, true_and, and_false, false_and, or_true, true_or, or_false, false_or]
        exact ih (i + 1) n _ (by omega) (by omega)
      · have e : y_ok b l one two i = y_lz b l i one two := if_neg c
        rw [e]; simp (disch := omega) only [y_lit, y_n1, nI_add, pk_mul, j_lt, j_b1_s, j_b2_s, j_b3_s, j_b0_s, y_bo, y_bo1, y_bo0, y_i0, y_i1, Classical.not_not, nI_clamp, y_ix, y_lt, y_le, y_eq, y_nP, y_nPs, y_ltP, y_ltQ, y_ltPP, y_eqP, y_eqQ, y_eqPP, if_pos, if_neg, ite_true, ite_false, not_true_eq_false, not_false_eq_true, and_true, true_and, and_false, false_and, or_true, true_or, or_false, false_or, cl]
        by_cases d : y_lz b l i one two = 0
        · rw [d]; simp (disch := omega) only [y_lit, y_n1, nI_add, pk_mul, j_lt, j_b1_s, j_b2_s, j_b3_s, j_b0_s, y_bo, y_bo1, y_bo0, y_i0, y_i1, Classical.not_not, nI_clamp, y_ix, y_lt, y_le, y_eq, y_nP, y_nPs, y_ltP, y_ltQ, y_ltPP, y_eqP, y_eqQ, y_eqPP, if_pos, if_neg, ite_true, ite_false, not_true_eq_false, not_false_eq_true, and_true, true_and, and_false, false_and, or_true, true_or, or_false, false_or]
          exact ih (i + 1) n _ (by omega) (by omega)
        · have d1 : y_lz b l i one two = 1 := by omega
          rw [d1]; simp (disch := omega) only [y_lit, y_n1, nI_add, pk_mul, j_lt, j_b1_s, j_b2_s, j_b3_s, j_b0_s, y_bo, y_bo1, y_bo0, y_i0, y_i1, Classical.not_not, nI_clamp, y_ix, y_lt, y_le, y_eq, y_nP, y_nPs, y_ltP, y_ltQ, y_ltPP, y_eqP, y_eqQ, y_eqPP, if_pos, if_neg, ite_true, ite_false, not_true_eq_false, not_false_eq_true, and_true, true_and, and_false, false_and, or_true, true_or, or_false, false_or]
          exact ih (i + 1) n _ (by omega) (by omega)
  exact key (y_ho b) 0 j_F 0 (by omega) (y_F (by omega))
theorem yc_nth (hN : y_N σ b) (hW : y_W b) (h9 : 0 < b 9) (hl : l < 4) (h1 : one ≤ 12) (h2 : two ≤ 12) (hz : one = 0 → two = 0) (eB : B = nP two) (eL : L = nP one) {z : Nat} (hzz : z < 100) : f_X4_nthLet (nI l) B L (nI z) σ = some (nP (y_nt b l one two (y_ho b) 0 z)) := by
  have h4 := hW.ho
  have key : ∀ m i n v, i + m = y_ho b → m < n → v ≤ z → p_X4_nthLet_6 (nI l) B L (nI z) σ n (nI v) (nI i) = some (nP (y_nt b l one two m i (z - v))) := by
    intro m
    induction m with
    | zero =>
      intro i n v h hn hv
      obtain ⟨n, rfl⟩ := y_pos hn
      unfold p_X4_nthLet_6 y_nt; simp (disch := omega) only [y_lit, y_n1, nI_add, pk_mul, j_lt, j_b1_s, j_b2_s, j_b3_s, j_b0_s, y_bo, y_bo1, y_bo0, y_i0, y_i1, Classical.not_not, nI_clamp, y_ix, y_lt, y_le, y_eq, y_nP, y_nPs, y_ltP, y_ltQ, y_ltPP, y_eqP, y_eqQ, y_eqPP, if_pos, if_neg, ite_true, ite_false, not_true_eq_false, not_false_eq_true, and_true, true_and, and_false, false_and, or_true, true_or, or_false, false_or, yc_holes hN]
    | succ m ih =>
      intro i n v h hn hv
      obtain ⟨n, rfl⟩ := y_pos hn
      have sl := y_sh_le b i
      have ll := y_lz_le b l i one two
      have cl := yc_lets hN hW h9 (l := l) (h := i) hl (by omega) h1 h2 hz eB eL
      unfold p_X4_nthLet_6 y_nt; simp (disch := omega) only [y_lit, y_n1, nI_add, pk_mul, j_lt, j_b1_s, j_b2_s, j_b3_s, j_b0_s, y_bo, y_bo1, y_bo0, y_i0, y_i1, Classical.not_not, nI_clamp, y_ix, y_lt, y_le, y_eq, y_nP, y_nPs, y_ltP, y_ltQ, y_ltPP, y_eqP, y_eqQ, y_eqPP, if_pos, if_neg, ite_true, ite_false, not_true_eq_false, not_false_eq_true, and_true, true_and, and_false, false_and, or_true, true_or, or_false, false_or, yc_holes hN, yc_isShut hN hW]
      by_cases c : y_sh b i = 1
      · have e : y_ok b l one two i = 0 := if_pos c
        rw [e]; simp (disch := omega) only [y_lit, y_n1, nI_add, pk_mul, j_lt, j_b1_s, j_b2_s, j_b3_s, j_b0_s, y_bo, y_bo1, y_bo0, y_i0, y_i1, Classical.not_not, nI_clamp, y_ix, y_lt, y_le, y_eq, y_nP, y_nPs, y_ltP, y_ltQ, y_ltPP, y_eqP, y_eqQ, y_eqPP, if_pos, if_neg, ite_true, ite_false, not_true_eq_false, not_false_eq_true, and_true, true_and, and_false, false_and, or_true, true_or, or_false, false_or]
        exact ih (i + 1) n _ (by omega) (by omega) hv
      · have e : y_ok b l one two i = y_lz b l i one two := if_neg c
        rw [e]; simp (disch := omega) only [y_lit, y_n1, nI_add, pk_mul, j_lt, j_b1_s, j_b2_s, j_b3_s, j_b0_s, y_bo, y_bo1, y_bo0, y_i0, y_i1, Classical.not_not, nI_clamp, y_ix, y_lt, y_le, y_eq, y_nP, y_nPs, y_ltP, y_ltQ, y_ltPP, y_eqP, y_eqQ, y_eqPP, if_pos, if_neg, ite_true, ite_false, not_true_eq_false, not_false_eq_true, and_true, true_and, and_false, false_and, or_true, true_or, or_false, false_or, cl]
        by_cases d : y_lz b l i one two = 0
        · simp (disch := omega) only [y_lit, y_n1, nI_add, pk_mul, j_lt, j_b1_s, j_b2_s, j_b3_s, j_b0_s, y_bo, y_bo1, y_bo0, y_i0, y_i1, Classical.not_not, nI_clamp, y_ix, y_lt, y_le, y_eq, y_nP, y_nPs, y_ltP, y_ltQ, y_ltPP, y_eqP, y_eqQ, y_eqPP, if_pos, if_neg, ite_true, ite_false, not_true_eq_false, not_false_eq_true, and_true, true_and, and_false, false_and, or_true, true_or, or_false, false_or]
          exact ih (i + 1) n _ (by omega) (by omega) hv
        · simp (disch := omega) only [y_lit, y_n1, nI_add, pk_mul, j_lt, j_b1_s, j_b2_s, j_b3_s, j_b0_s, y_bo, y_bo1, y_bo0, y_i0, y_i1, Classical.not_not, nI_clamp, y_ix, y_lt, y_le, y_eq, y_nP, y_nPs, y_ltP, y_ltQ, y_ltPP, y_eqP, y_eqQ, y_eqPP, if_pos, if_neg, ite_true, ite_false, not_true_eq_false, not_false_eq_true, and_true, true_and, and_false, false_and, or_true, true_or, or_false, false_or]
          by_cases q : v = z
          · simp (disch := omega) only [y_lit, y_n1, nI_add, pk_mul, j_lt, j_b1_s, j_b2_s, j_b3_s, j_b0_s, y_bo, y_bo1, y_bo0, y_i0, y_i1, Classical.not_not, nI_clamp, y_ix, y_lt, y_le, y_eq, y_nP, y_nPs, y_ltP, y_ltQ, y_ltPP, y_eqP, y_eqQ, y_eqPP, if_pos, if_neg, ite_true, ite_false, not_true_eq_false, not_false_eq_true, and_true, true_and, and_false, false_and, or_true, true_or, or_false, false_or]
          · simp (disch := omega) only [y_lit, y_n1, nI_add, pk_mul, j_lt, j_b1_s, j_b2_s, j_b3_s, j_b0_s, y_bo, y_bo1, y_bo0, y_i0, y_i1, Classical.not_not, nI_clamp, y_ix, y_lt, y_le, y_eq, y_nP, y_nPs, y_ltP, y_ltQ, y_ltPP, y_eqP, y_eqQ, y_eqPP, if_pos, if_neg, ite_true, ite_false, not_true_eq_false, not_false_eq_true, and_true, true_and, and_false, false_and, or_true, true_or, or_false, false_or]
            rw [ih (i + 1) n _ (by omega) (by omega) (by omega), show z - (v + 1) = z - v - 1 from by omega]
  have k := key (y_ho b) 0 j_F 0 (by omega) (y_F (by omega)) (Nat.zero_le _)
  unfold f_X4_nthLet
  rw [y_lit, k]
  rfl
theorem ym_count (hM : y_M τ b) (hW : y_W b) (h9 : 0 < b 9) (hl : l < 4) (h1 : one ≤ 12) (h2 : two ≤ 12) (eB : B = nP two) (eL : L = nP one) : p_X12_holeByLot_54 (nI l) L B τ j_F (nI 0) (nI 0) = some (nI (y_cn b l one two)) := by
  have h4 := hW.ho
  have key : ∀ m i n v, i + m = y_ho b → m < n → p_X12_holeByLot_54 (nI l) L B τ n (nI v) (nI i) = some (nI (y_su (y_ok b l one two) m i v)) := by
    intro m
    induction m with
    | zero =>
      intro i n v h hn
      obtain ⟨n, rfl⟩ := y_pos hn
      unfold p_X12_holeByLot_54 y_su; simp (disch := omega) only [y_lit, y_n1, nI_add, pk_mul, j_lt, j_b1_s, j_b2_s, j_b3_s, j_b0_s, y_bo, y_bo1, y_bo0, y_i0, y_i1, Classical.not_not, nI_clamp, y_ix, y_lt, y_le, y_eq, y_nP, y_nPs, y_ltP, y_ltQ, y_ltPP, y_eqP, y_eqQ, y_eqPP, if_pos, if_neg, ite_true, ite_false, not_true_eq_false, not_false_eq_true, and_true, true_and, and_false, false_and, or_true, true_or, or_false, false_or, ym_holes hM]
    | succ m ih =>
      intro i n v h hn
      obtain ⟨n, rfl⟩ := y_pos hn
      have ll := y_ok_le b l one two i
      have cl : f_X12_lets (nI l) (nI i) L B τ = some (nI (y_ok b l one two i)) := ym_lets hM hW h9 (l := l) (h := i) hl (by omega) h1 h2 eB eL
      unfold p_X12_holeByLot_54 y_su; simp (disch := omega) only [y_lit, y_n1, nI_add, pk_mul, j_lt, j_b1_s, j_b2_s, j_b3_s, j_b0_s, y_bo, y_bo1, y_bo0, y_i0, y_i1, Classical.not_not, nI_clamp, y_ix, y_lt, y_le, y_eq, y_nP, y_nPs, y_ltP, y_ltQ, y_ltPP, y_eqP, y_eqQ, y_eqPP, if_pos, if_neg, ite_true, ite_false, not_true_eq_false, not_false_eq_true, and_true, true_and, and_false, false_and, or_true, true_or, or_false, false_or, ym_holes hM, cl]
      by_cases d : y_ok b l one two i = 0
      · rw [d]; simp (disch := omega) only [y_lit, y_n1, nI_add, pk_mul, j_lt, j_b1_s, j_b2_s, j_b3_s, j_b0_s, y_bo, y_bo1, y_bo0, y_i0, y_i1, Classical.not_not, nI_clamp, y_ix, y_lt, y_le, y_eq, y_nP, y_nPs, y_ltP, y_ltQ, y_ltPP, y_eqP, y_eqQ, y_eqPP, if_pos, if_neg, ite_true, ite_false, not_true_eq_false, not_false_eq_true, and_true, true_and, and_false, false_and, or_true, true_or, or_false, false_or]
        exact ih (i + 1) n _ (by omega) (by omega)
      · have d1 : y_ok b l one two i = 1 := by omega
        rw [d1]; simp (disch := omega) only [y_lit, y_n1, nI_add, pk_mul, j_lt, j_b1_s, j_b2_s, j_b3_s, j_b0_s, y_bo, y_bo1, y_bo0, y_i0, y_i1, Classical.not_not, nI_clamp, y_ix, y_lt, y_le, y_eq, y_nP, y_nPs, y_ltP, y_ltQ, y_ltPP, y_eqP, y_eqQ, y_eqPP, if_pos, if_neg, ite_true, ite_false, not_true_eq_false, not_false_eq_true, and_true, true_and, and_false, false_and, or_true, true_or, or_false, false_or]
        exact ih (i + 1) n _ (by omega) (by omega)
  exact key (y_ho b) 0 j_F 0 (by omega) (y_F (by omega))
theorem ym_nth (hM : y_M τ b) (hW : y_W b) (h9 : 0 < b 9) (hl : l < 4) (h1 : one ≤ 12) (h2 : two ≤ 12) (eB : B = nP two) (eL : L = nP one) {z : Nat} (hzz : z < 100) : p_X12_holeByLot_109 (nI l) L B τ j_F (nI z) (nI 0) = some (nP (y_nt b l one two (y_ho b) 0 z), τ) := by
  have h4 := hW.ho
  have key : ∀ m i n v, i + m = y_ho b → m < n → v < 100 → p_X12_holeByLot_109 (nI l) L B τ n (nI v) (nI i) = some (nP (y_nt b l one two m i v), τ) := by
    intro m
    induction m with
    | zero =>
      intro i n v h hn hv
      obtain ⟨n, rfl⟩ := y_pos hn
      unfold p_X12_holeByLot_109 y_nt; simp (disch := omega) only [y_lit, y_n1, nI_add, pk_mul, j_lt, j_b1_s, j_b2_s, j_b3_s, j_b0_s, y_bo, y_bo1, y_bo0, y_i0, y_i1, Classical.not_not, nI_clamp, y_ix, y_lt, y_le, y_eq, y_nP, y_nPs, y_ltP, y_ltQ, y_ltPP, y_eqP, y_eqQ, y_eqPP, if_pos, if_neg, ite_true, ite_false, not_true_eq_false, not_false_eq_true, and_true, true_and, and_false, false_and, or_true, true_or, or_false, false_or, ym_holes hM]
    | succ m ih =>
      intro i n v h hn hv
      obtain ⟨n, rfl⟩ := y_pos hn
      have ll := y_ok_le b l one two i
      have cl : f_X12_lets (nI l) (nI i) L B τ = some (nI (y_ok b l one two i)) := ym_lets hM hW h9 (l := l) (h := i) hl (by omega) h1 h2 eB eL
      have ep : ∀ v, 0 < v → nI v + nP 0 = nI (v - 1) := by
        intro v hv
        obtain ⟨w, rfl⟩ : ∃ w, v = w + 1 := ⟨v - 1, by omega⟩
        exact pk_m1 w
      unfold p_X12_holeByLot_109 y_nt; simp (disch := omega) only [y_lit, y_n1, nI_add, pk_mul, j_lt, j_b1_s, j_b2_s, j_b3_s, j_b0_s, y_bo, y_bo1, y_bo0, y_i0, y_i1, Classical.not_not, nI_clamp, y_ix, y_lt, y_le, y_eq, y_nP, y_nPs, y_ltP, y_ltQ, y_ltPP, y_eqP, y_eqQ, y_eqPP, if_pos, if_neg, ite_true, ite_false, not_true_eq_false, not_false_eq_true, and_true, true_and, and_false, false_and, or_true, true_or, or_false, false_or, ym_holes hM, cl]
      by_cases d : y_ok b l one two i = 0
      · simp (disch := omega) only [y_lit, y_n1, nI_add, pk_mul, j_lt, j_b1_s, j_b2_s, j_b3_s, j_b0_s, y_bo, y_bo1, y_bo0, y_i0, y_i1, Classical.not_not, nI_clamp, y_ix, y_lt, y_le, y_eq, y_nP, y_nPs, y_ltP, y_ltQ, y_ltPP, y_eqP, y_eqQ, y_eqPP, if_pos, if_neg, ite_true, ite_false, not_true_eq_false, not_false_eq_true, and_true, true_and, and_false, false_and, or_true, true_or, or_false, false_or]
        exact ih (i + 1) n _ (by omega) (by omega) hv
      · simp (disch := omega) only [y_lit, y_n1, nI_add, pk_mul, j_lt, j_b1_s, j_b2_s, j_b3_s, j_b0_s, y_bo, y_bo1, y_bo0, y_i0, y_i1, Classical.not_not, nI_clamp, y_ix, y_lt, y_le, y_eq, y_nP, y_nPs, y_ltP, y_ltQ, y_ltPP, y_eqP, y_eqQ, y_eqPP, if_pos, if_neg, ite_true, ite_false, not_true_eq_false, not_false_eq_true, and_true, true_and, and_false, false_and, or_true, true_or, or_false, false_or]
        by_cases q : v = 0
        · simp (disch := omega) only [y_lit, y_n1, nI_add, pk_mul, j_lt, j_b1_s, j_b2_s, j_b3_s, j_b0_s, y_bo, y_bo1, y_bo0, y_i0, y_i1, Classical.not_not, nI_clamp, y_ix, y_lt, y_le, y_eq, y_nP, y_nPs, y_ltP, y_ltQ, y_ltPP, y_eqP, y_eqQ, y_eqPP, if_pos, if_neg, ite_true, ite_false, not_true_eq_false, not_false_eq_true, and_true, true_and, and_false, false_and, or_true, true_or, or_false, false_or]
        · simp (disch := omega) only [y_lit, y_n1, nI_add, pk_mul, j_lt, j_b1_s, j_b2_s, j_b3_s, j_b0_s, y_bo, y_bo1, y_bo0, y_i0, y_i1, Classical.not_not, nI_clamp, y_ix, y_lt, y_le, y_eq, y_nP, y_nPs, y_ltP, y_ltQ, y_ltPP, y_eqP, y_eqQ, y_eqPP, if_pos, if_neg, ite_true, ite_false, not_true_eq_false, not_false_eq_true, and_true, true_and, and_false, false_and, or_true, true_or, or_false, false_or, ep]
          exact ih (i + 1) n _ (by omega) (by omega) (by omega)
  exact key (y_ho b) 0 j_F z (by omega) (y_F (by omega)) hzz
theorem y_rnd {x n : Nat} (hx : x < 2147483648) (h0 : 0 < n) (hn : n < 100) :
    (((((1103515245 : Int64) * lN x) + (12345 : Int64)) - (((1103515245 : Int64) * lN x) + (12345 : Int64)) / (2147483648 : Int64) * (2147483648 : Int64)) = lN (y_nx x)) ∧
    (((lN (y_nx x) / (65536 : Int64)) - (lN (y_nx x) / (65536 : Int64)) / (nI n).toInt64 * (nI n).toInt64)).toInt32 = nI (y_nx x / 65536 % n) := by
  have hy := y_nx_lt x
  constructor
  · simp only [y_litL, lN_mul, lN_add]
    rw [pk_lRem (by omega) (by omega) (by omega)]
    rfl
  · rw [nI_l (by omega)]
    simp only [y_litL]
    rw [pk_lDiv (by omega) (by omega) (by omega), pk_lRem (by omega) (by omega) (by omega), lN_i]
end C
/-! ===== nights laid out ===== -/
/-- the game with one coming more -/
noncomputable def y_g1 (g : Nat → Nat) (i h : Nat) : Nat → Nat := y_u (y_u (y_u g (3 * i) (h - 1)) (3 * i + 1) 0) (3 * i + 2) 0
theorem y_ng_s {b : Nat → Nat} {l m i x one two : Nat} {g : Nat → Nat} : y_ng b l (m + 1) i x one two g = if y_last b i < b 2 then (if y_cn b l one two = 0 then (i, g) else y_ng b l m (i + 1) (y_nx x) (y_nh b l one two x) one (y_g1 g i (y_nh b l one two x))) else (i, g) := rfl
theorem y_g1_o {g : Nat → Nat} {i h j : Nat} (hj : j < 3 * i) : y_g1 g i h j = g j := by
  unfold y_g1; rw [y_un (by omega), y_un (by omega), y_un (by omega)]
theorem y_g10 {g : Nat → Nat} {i h : Nat} : y_g1 g i h (3 * i) = h - 1 := by
  unfold y_g1; rw [y_un (by omega), y_un (by omega), y_ue]
theorem y_g11 {g : Nat → Nat} {i h : Nat} : y_g1 g i h (3 * i + 1) = 0 := by
  unfold y_g1; rw [y_un (by omega), y_ue]
theorem y_g12 {g : Nat → Nat} {i h : Nat} : y_g1 g i h (3 * i + 2) = 0 := by
  unfold y_g1; rw [y_ue]
theorem y_ng_vg {b : Nat → Nat} {l : Nat} (hW : y_W b) : ∀ m i x one two g, i + m = 60 → y_vg b i g → y_vg b (y_ng b l m i x one two g).1 (y_ng b l m i x one two g).2 := by
  intro m
  induction m with
  | zero => intro i x one two g _ h; exact h
  | succ m ih =>
    intro i x one two g h hv
    rw [y_ng_s]
    by_cases c : y_last b i < b 2
    · rw [if_pos c]
      by_cases d : y_cn b l one two = 0
      · rw [if_pos d]; exact hv
      · rw [if_neg d]
        have nb := y_nh_bd (x := x) d
        refine ih _ _ _ _ _ (by omega) ⟨by omega, fun j hj => ?_⟩
        by_cases e : j = i
        · subst e
          rw [y_g10, y_g11, y_g12]
          exact ⟨by omega, by omega, by omega, by omega, fun z => absurd z (by omega), c⟩
        · rw [y_g1_o (by omega), y_g1_o (by omega), y_g1_o (by omega)]
          exact hv.2 j (by omega)
    · rw [if_neg c]; exact hv
theorem y_nig_vg {b : Nat → Nat} (hW : y_W b) (l x : Nat) : y_vg b (y_nig b l x).1 (y_nig b l x).2 := y_ng_vg hW 60 0 x 0 0 _ (by omega) ⟨by omega, fun i hi => absurd hi (by omega)⟩
theorem yc_draw_l {b : Nat → Nat} {l : Nat} (hW : y_W b) (h9 : 0 < b 9) (hl : l < 4) : ∀ m i n x one two g σ, i + m = 60 → m < n → x < 2147483648 → one ≤ 12 → two ≤ 12 → (one = 0 → two = 0) → y_N σ b → (i = 0 ∨ y_last b (i - 1) < b 2) → y_ci σ b i g → ∃ σ', p_X4_draw_17 (nI l) n (lN x) (nP two) (nP one) (nI i) σ = some σ' ∧ y_cg σ' b (y_ng b l m i x one two g).1 (y_ng b l m i x one two g).2 ∧ y_fr 22 27 σ σ' := by
  have h4 := hW.ho
  intro m
  induction m with
  | zero =>
    intro i n x one two g σ h hn hx h1 h2 hz hN hf hc
    obtain ⟨n, rfl⟩ := y_pos hn
    refine ⟨σ, ?_, hc.1, y_fr.refl⟩
    unfold p_X4_draw_17; simp (disch := omega) only [y_lit, y_n1, nI_add, pk_mul, j_lt, j_b1_s, j_b2_s, j_b3_s, j_b0_s, y_bo, y_bo1, y_bo0, y_i0, y_i1, Classical.not_not, nI_clamp, y_ix, y_lt, y_le, y_eq, y_nP, y_nPs, y_ltP, y_ltQ, y_ltPP, y_eqP, y_eqQ, y_eqPP, if_pos, if_neg, ite_true, ite_false, not_true_eq_false, not_false_eq_true, and_true, true_and, and_false, false_and, or_true, true_or, or_false, false_or]
  | succ m ih =>
    intro i n x one two g σ h hn hx h1 h2 hz hN hf hc
    obtain ⟨n, rfl⟩ := y_pos hn
    have ff := y_from_bd hW hf
    have cl := y_cn_le hW l one two
    have cnt := fun x6 => yc_count (l := l) (one := one) (two := two) (x6 := x6) (x4 := lN x) hN hW h9 hl h1 h2 hz rfl rfl
    have hlt : nI i < nI 60 := (y_lt (by omega) (by omega)).mpr (by omega)
    rw [y_ng_s]
    by_cases c : y_last b i < b 2
    · rw [if_pos c]
      have hroom := yc_room hN hW (show i ≤ 60 by omega) ff hc
      rw [if_pos ⟨by omega, c⟩] at hroom
      by_cases d : y_cn b l one two = 0
      · rw [if_pos d]
        refine ⟨σ, ?_, hc.1, y_fr.refl⟩
        rw [p_X4_draw_17, show (60 : Int32) = nI 60 from rfl, if_pos hlt, hroom, j_b1_s, show (0 : Int32) = nI 0 from rfl, if_pos (show ¬ nI 1 = nI 0 from by decide), cnt, j_b1_s, d, if_pos rfl]
      · rw [if_neg d]
        have nb := y_nh_bd (x := x) d
        obtain ⟨r1, r2⟩ := y_rnd (x := x) (n := y_cn b l one two) hx (by omega) (by omega)
        have nth := yc_nth (l := l) (one := one) (two := two) hN hW h9 hl h1 h2 hz rfl rfl (z := y_nx x / 65536 % y_cn b l one two) (by have := Nat.mod_lt (y_nx x / 65536) (show 0 < y_cn b l one two by omega); omega)
        have hc2 : y_ci σ b i (y_g1 g i (y_nh b l one two x)) := ⟨hc.1.congr (fun j hj => y_g1_o hj), hc.2⟩
        have en : nP (y_nh b l one two x) = nI (y_nh b l one two x - 1) := by
          obtain ⟨w, hw⟩ : ∃ w, y_nh b l one two x = w + 1 := ⟨y_nh b l one two x - 1, by omega⟩
          rw [hw, y_nPs]; rfl
        obtain ⟨σ1, a1, a2, a3⟩ := yc_add (x := nP (y_nh b l one two x)) (y := nP 0) (z := nI 0) hN hW (by omega) ff hc2 (by rw [y_g10, en]) (by rw [y_g11]) (by rw [y_g12])
        obtain ⟨σ2, g1, g2, g3⟩ := ih (i + 1) n (y_nx x) (y_nh b l one two x) one (y_g1 g i (y_nh b l one two x)) σ1 (by omega) (by omega) (y_nx_lt x) (by omega) h1 (fun z => by omega) (hN.fr a3 (by omega)) (Or.inr c) a2
        refine ⟨σ2, ?_, g2, a3.trans g3⟩
        have n1 : ¬ (2147483648 : Int64) = 0 := by decide
        have n2 : ¬ (65536 : Int64) = 0 := by decide
        have n3 : ¬ (nI (y_cn b l one two)).toInt64 = 0 := by
          rw [nI_l (by omega)]
          intro z
          have := (pk_lEQ (a := y_cn b l one two) (b := 0) (by omega) (by omega)).mp z
          omega
        have n4 : ¬ nI (y_cn b l one two) = nI 0 := by rw [y_eq (by omega) (by omega)]; exact d
        rw [p_X4_draw_17, show (60 : Int32) = nI 60 from rfl, if_pos hlt, hroom, j_b1_s, show (0 : Int32) = nI 0 from rfl, if_pos (show ¬ nI 1 = nI 0 from by decide), cnt, j_b1_s, if_neg n4, if_neg n1]
        simp only [j_lt]
        rw [if_neg n2, if_neg n3, r1, r2, nth, j_b1_s, y_m1]
        show j_b1 (f_X4_add (nP (y_nh b l one two x)) (nP 0) (nI 0) σ) _ = _
        rw [a1, j_b1_s, show (1 : Int32) = nI 1 from rfl, nI_add]
        exact g1
    · rw [if_neg c]
      refine ⟨σ, ?_, hc.1, y_fr.refl⟩
      have hroom := yc_room hN hW (show i ≤ 60 by omega) ff hc
      rw [if_neg (fun z => c z.2)] at hroom
      unfold p_X4_draw_17; simp (disch := omega) only [y_lit, y_n1, nI_add, pk_mul, j_lt, j_b1_s, j_b2_s, j_b3_s, j_b0_s, y_bo, y_bo1, y_bo0, y_i0, y_i1, Classical.not_not, nI_clamp, y_ix, y_lt, y_le, y_eq, y_nP, y_nPs, y_ltP, y_ltQ, y_ltPP, y_eqP, y_eqQ, y_eqPP, if_pos, if_neg, ite_true, ite_false, not_true_eq_false, not_false_eq_true, and_true, true_and, and_false, false_and, or_true, true_or, or_false, false_or, hroom]
theorem yc_draw {σ : j_G} {b : Nat → Nat} {l x : Nat} (hN : y_N σ b) (hW : y_W b) (h9 : 0 < b 9) (hl : l < 4) (hx : x < 2147483648) : ∃ σ', f_X4_draw (nI x) (nI l) σ = some σ' ∧ y_cg σ' b (y_nig b l x).1 (y_nig b l x).2 ∧ y_fr 22 27 σ σ' := by
  unfold f_X4_draw f_X4_begin
  simp only [j_lt, j_b1_s, y_lit, y_n1]
  rw [nI_l (by omega)]
  have f : y_fr 22 27 σ (j_si (j_si σ 22 0 (nI 0)) 22 6 (nI 0)) := (y_fr.refl.si (by omega) (by omega)).si (by omega) (by omega)
  have hN1 := hN.fr f (by omega)
  have hc : y_ci (j_si (j_si σ 22 0 (nI 0)) 22 6 (nI 0)) b 0 (fun _ => 0) := ⟨⟨by simp (disch := omega) only [j_r_ne, j_r_eq, j_r_nj], fun i hi => absurd hi (by omega)⟩, j_r_eq⟩
  obtain ⟨σ2, g1, g2, g3⟩ := yc_draw_l hW h9 hl 60 0 j_F x 0 0 _ _ (by omega) (y_F (by omega)) hx (by omega) (by omega) (fun _ => rfl) hN1 (Or.inl rfl) hc
  exact ⟨σ2, g1, g2, f.trans g3⟩
theorem ym_night_l {b : Nat → Nat} {l : Nat} (hW : y_W b) (h9 : 0 < b 9) (hl : l < 4) : ∀ m i n x one two g τ, i + m = 60 → m < n → x < 2147483648 → one = (if i = 0 then 0 else g (3 * (i - 1)) + 1) → two = (if i < 2 then 0 else g (3 * (i - 2)) + 1) → one ≤ 12 → two ≤ 12 → y_M τ b → (i = 0 ∨ y_last b (i - 1) < b 2) → y_mg τ b i g → τ.2 75 42 = lN x → ∃ τ', p_X12_layNight_10 (nI l) n τ = some τ' ∧ y_mg τ' b (y_ng b l m i x one two g).1 (y_ng b l m i x one two g).2 ∧ y_fm 18 18 82 84 τ τ' := by
  have h4 := hW.ho
  have hb2 := (hW.on h9).2.2.1
  intro m
  induction m with
  | zero =>
    intro i n x one two g τ h hn hx e1 e2 h1 h2 hM hf hc hxx
    obtain ⟨n, rfl⟩ := y_pos hn
    have ff := y_from_bd hW hf
    refine ⟨τ, ?_, hc, y_fm.refl⟩
    have hroom := ym_may hM hW (show i ≤ 60 by omega) ff hb2 hc
    rw [if_neg (fun z => by omega)] at hroom
    unfold p_X12_layNight_10; simp (disch := omega) only [y_lit, y_n1, nI_add, pk_mul, j_lt, j_b1_s, j_b2_s, j_b3_s, j_b0_s, y_bo, y_bo1, y_bo0, y_i0, y_i1, Classical.not_not, nI_clamp, y_ix, y_lt, y_le, y_eq, y_nP, y_nPs, y_ltP, y_ltQ, y_ltPP, y_eqP, y_eqQ, y_eqPP, if_pos, if_neg, ite_true, ite_false, not_true_eq_false, not_false_eq_true, and_true, true_and, and_false, false_and, or_true, true_or, or_false, false_or, hroom]
  | succ m ih =>
    intro i n x one two g τ h hn hx e1 e2 h1 h2 hM hf hc hxx
    obtain ⟨n, rfl⟩ := y_pos hn
    have ff := y_from_bd hW hf
    have cl := y_cn_le hW l one two
    have hroom := ym_may hM hW (show i ≤ 60 by omega) ff hb2 hc
    rw [y_ng_s]
    by_cases c : y_last b i < b 2
    · rw [if_pos c]
      rw [if_pos ⟨by omega, c⟩] at hroom
      have v1 : (if (τ.1 75 18) < (1 : Int32) then (some (-1 : Int32)) else (j_b1 (f_X12_inGame ((τ.1 75 18) - (1 : Int32)) (0 : Int32) τ) fun v2 => some v2)) = some (nP one) := by
        rw [hc.1, e1]
        by_cases z : i = 0
        · simp (disch := omega) only [y_lit, y_n1, nI_add, pk_mul, j_lt, j_b1_s, j_b2_s, j_b3_s, j_b0_s, y_bo, y_bo1, y_bo0, y_i0, y_i1, Classical.not_not, nI_clamp, y_ix, y_lt, y_le, y_eq, y_nP, y_nPs, y_ltP, y_ltQ, y_ltPP, y_eqP, y_eqQ, y_eqPP, if_pos, if_neg, ite_true, ite_false, not_true_eq_false, not_false_eq_true, and_true, true_and, and_false, false_and, or_true, true_or, or_false, false_or, z]
        · have q := (hc.2 (i - 1) (by omega)).1
          unfold f_X12_inGame
          simp (disch := omega) only [y_lit, y_n1, nI_add, pk_mul, j_lt, j_b1_s, j_b2_s, j_b3_s, j_b0_s, y_bo, y_bo1, y_bo0, y_i0, y_i1, Classical.not_not, nI_clamp, y_ix, y_lt, y_le, y_eq, y_nP, y_nPs, y_ltP, y_ltQ, y_ltPP, y_eqP, y_eqQ, y_eqPP, if_pos, if_neg, ite_true, ite_false, not_true_eq_false, not_false_eq_true, and_true, true_and, and_false, false_and, or_true, true_or, or_false, false_or, pk_sub, Nat.add_zero, q]
      have v3 : (if (τ.1 75 18) < (2 : Int32) then (some (-1 : Int32)) else (j_b1 (f_X12_inGame ((τ.1 75 18) - (2 : Int32)) (0 : Int32) τ) fun v4 => some v4)) = some (nP two) := by
        rw [hc.1, e2]
        by_cases z : i < 2
        · simp (disch := omega) only [y_lit, y_n1, nI_add, pk_mul, j_lt, j_b1_s, j_b2_s, j_b3_s, j_b0_s, y_bo, y_bo1, y_bo0, y_i0, y_i1, Classical.not_not, nI_clamp, y_ix, y_lt, y_le, y_eq, y_nP, y_nPs, y_ltP, y_ltQ, y_ltPP, y_eqP, y_eqQ, y_eqPP, if_pos, if_neg, ite_true, ite_false, not_true_eq_false, not_false_eq_true, and_true, true_and, and_false, false_and, or_true, true_or, or_false, false_or]
        · have q := (hc.2 (i - 2) (by omega)).1
          unfold f_X12_inGame
          simp (disch := omega) only [y_lit, y_n1, nI_add, pk_mul, j_lt, j_b1_s, j_b2_s, j_b3_s, j_b0_s, y_bo, y_bo1, y_bo0, y_i0, y_i1, Classical.not_not, nI_clamp, y_ix, y_lt, y_le, y_eq, y_nP, y_nPs, y_ltP, y_ltQ, y_ltPP, y_eqP, y_eqQ, y_eqPP, if_pos, if_neg, ite_true, ite_false, not_true_eq_false, not_false_eq_true, and_true, true_and, and_false, false_and, or_true, true_or, or_false, false_or, pk_sub, Nat.add_zero, q]
      have cnt := ym_count (l := l) (one := one) (two := two) hM hW h9 hl h1 h2 rfl rfl
      by_cases d : y_cn b l one two = 0
      · rw [if_pos d]
        refine ⟨τ, ?_, hc, y_fm.refl⟩
        have hh : f_X12_holeByLot (nI l) τ = some (nP 0, τ) := by
          unfold f_X12_holeByLot
          rw [v1, j_b1_s, v3, j_b1_s, show (0 : Int32) = nI 0 from rfl, cnt, j_b1_s, d, if_pos rfl]; rfl
        rw [p_X12_layNight_10, hroom, j_b1_s, show (0 : Int32) = nI 0 from rfl, if_pos (show ¬ nI 1 = nI 0 from by decide), hh, j_b2_s, y_m1, if_pos rfl]
      · rw [if_neg d]
        have nb := y_nh_bd (x := x) d
        obtain ⟨r1, r2⟩ := y_rnd (x := x) (n := y_cn b l one two) hx (by omega) (by omega)
        have f1 : y_fm 18 18 82 84 τ (j_sl τ 75 42 (lN (y_nx x))) := y_fm.refl.slo
        have hM1 := hM.fr f1 (by omega)
        have hg1 : y_mg (j_sl τ 75 42 (lN (y_nx x))) b i g := hc
        have n1 : ¬ (2147483648 : Int64) = 0 := by decide
        have n2 : ¬ (65536 : Int64) = 0 := by decide
        have n3 : ¬ (nI (y_cn b l one two)).toInt64 = 0 := by
          rw [nI_l (by omega)]
          intro z
          have := (pk_lEQ (a := y_cn b l one two) (b := 0) (by omega) (by omega)).mp z
          omega
        have n4 : ¬ nI (y_cn b l one two) = nI 0 := by rw [y_eq (by omega) (by omega)]; exact d
        have dr : f_X12_draw (nI (y_cn b l one two)) τ = some (nI (y_nx x / 65536 % y_cn b l one two), j_sl τ 75 42 (lN (y_nx x))) := by
          unfold f_X12_draw
          rw [if_neg n1]
          simp only [j_lt]
          rw [if_neg n2, if_neg n3, hxx, r1, j_l_eq, r2]
        have nth := ym_nth (l := l) (one := one) (two := two) hM1 hW h9 hl h1 h2 rfl rfl (z := y_nx x / 65536 % y_cn b l one two) (by have := Nat.mod_lt (y_nx x / 65536) (show 0 < y_cn b l one two by omega); omega)
        have hh : f_X12_holeByLot (nI l) τ = some (nP (y_nh b l one two x), j_sl τ 75 42 (lN (y_nx x))) := by
          unfold f_X12_holeByLot
          rw [v1, j_b1_s, v3, j_b1_s, show (0 : Int32) = nI 0 from rfl, cnt, j_b1_s, if_neg n4, dr, j_b2_s]
          exact nth
        have hc2 : y_mg (j_sl τ 75 42 (lN (y_nx x))) b i (y_g1 g i (y_nh b l one two x)) := hg1.congr (fun j hj => y_g1_o hj)
        have en : nP (y_nh b l one two x) = nI (y_nh b l one two x - 1) := by
          obtain ⟨w, hw⟩ : ∃ w, y_nh b l one two x = w + 1 := ⟨y_nh b l one two x - 1, by omega⟩
          rw [hw, y_nPs]; rfl
        obtain ⟨τ1, a1, a2, a3, a5⟩ := ym_come (x := nP (y_nh b l one two x)) (y := nP 0) (z := nI 0) hM1 hW (by omega) ff hc2 (by rw [y_g10, en]) (by rw [y_g11]) (by rw [y_g12])
        have a4 : τ1.2 75 42 = lN (y_nx x) := by rw [a5, j_l_eq]
        obtain ⟨τ2, g1, g2, g3⟩ := ih (i + 1) n (y_nx x) (y_nh b l one two x) one (y_g1 g i (y_nh b l one two x)) τ1 (by omega) (by omega) (y_nx_lt x) (by rw [if_neg (Nat.succ_ne_zero i), Nat.add_sub_cancel, y_g10]; omega) (by
          rw [e1]
          by_cases z : i = 0
          · rw [if_pos z, if_pos (by omega)]
          · rw [if_neg z, if_neg (by omega), show i + 1 - 2 = i - 1 from by omega, y_g1_o (by omega)]) (by omega) h1 (hM1.fr a3 (by omega)) (Or.inr c) a2 a4
        refine ⟨τ2, ?_, g2, f1.trans (a3.trans g3)⟩
        have n5 : ¬ nP (y_nh b l one two x) = nP 0 := by rw [y_eqPP (by omega) (by omega)]; omega
        rw [p_X12_layNight_10, hroom, j_b1_s, show (0 : Int32) = nI 0 from rfl, if_pos (show ¬ nI 1 = nI 0 from by decide), hh, j_b2_s, y_m1, if_neg n5, a1, j_b1_s]
        exact g1
    · rw [if_neg c]
      refine ⟨τ, ?_, hc, y_fm.refl⟩
      rw [if_neg (fun z => c z.2)] at hroom
      unfold p_X12_layNight_10; simp (disch := omega) only [y_lit, y_n1, nI_add, pk_mul, j_lt, j_b1_s, j_b2_s, j_b3_s, j_b0_s, y_bo, y_bo1, y_bo0, y_i0, y_i1, Classical.not_not, nI_clamp, y_ix, y_lt, y_le, y_eq, y_nP, y_nPs, y_ltP, y_ltQ, y_ltPP, y_eqP, y_eqQ, y_eqPP, if_pos, if_neg, ite_true, ite_false, not_true_eq_false, not_false_eq_true, and_true, true_and, and_false, false_and, or_true, true_or, or_false, false_or, hroom]
theorem ym_night {τ : j_G} {b : Nat → Nat} {l x : Nat} (hM : y_M τ b) (hW : y_W b) (h9 : 0 < b 9) (hl : l < 4) (hx : x < 2147483648) : ∃ τ', f_X12_layNight (lN x) (nI l) τ = some τ' ∧ y_mg τ' b (y_nig b l x).1 (y_nig b l x).2 ∧ y_fm 18 18 82 84 τ τ' := by
  unfold f_X12_layNight
  simp only [j_lt, y_lit]
  have f : y_fm 18 18 82 84 τ (j_si (j_sl τ 75 42 (lN x)) 75 18 (nI 0)) := y_fm.refl.slo.so (by omega) (by omega)
  have hM1 := hM.fr f (by omega)
  have hc : y_mg (j_si (j_sl τ 75 42 (lN x)) 75 18 (nI 0)) b 0 (fun _ => 0) := ⟨by simp (disch := omega) only [j_r_ne, j_r_eq, j_r_nj], fun i hi => absurd hi (by omega)⟩
  obtain ⟨σ2, g1, g2, g3⟩ := ym_night_l hW h9 hl 60 0 j_F x 0 0 _ _ (by omega) (y_F (by omega)) hx (by rw [if_pos rfl]) (by rw [if_pos (by omega)]) (by omega) (by omega) hM1 (Or.inl rfl) hc (by rw [j_r_2, j_l_eq])
  exact ⟨σ2, g1, g2, f.trans g3⟩
/-! ===== drawn, night, years, lucky ===== -/
noncomputable def y_NH (b : Nat → Nat) (l x : Nat) (q : Nat → Nat) : Nat := y_run b (y_nig b l x).2 q y_k1 0 (y_nig b l x).1 0
section C
variable {σ τ : j_G} {b q : Nat → Nat} {l x p : Nat}
theorem yc_isSeed {x : Int32} : f_X11_isSeed x = if y_rg x 2000000001 then nI 1 else nI 0 := by
  unfold f_X11_isSeed; simp only [y_lit]; simp (disch := omega) only [y_c3]
theorem ym_isSeed {x : Int32} : f_X12_isSeed x = if y_rg x 2000000001 then nI 1 else nI 0 := by
  unfold f_X12_isSeed; simp (disch := omega) only [y_lit, y_n1, nI_add, pk_mul, j_lt, j_b1_s, j_b2_s, j_b3_s, j_b0_s, y_bo, y_bo1, y_bo0, y_i0, y_i1, Classical.not_not, nI_clamp, y_ix, y_lt, y_le, y_eq, y_nP, y_nPs, y_ltP, y_ltQ, y_ltPP, y_eqP, y_eqQ, y_eqPP, if_pos, if_neg, ite_true, ite_false, not_true_eq_false, not_false_eq_true, and_true, true_and, and_false, false_and, or_true, true_or, or_false, false_or, y_lit64, y_in, y_c3]
theorem y_NH_le (hW : y_W b) (hq : y_vq b q) : y_NH b l x q ≤ 120 := (y_run_br hW (y_nig_vg hW l x) hq).1
theorem yc_nightH (hN : y_N σ b) (hp : y_cp σ 28 q) (hW : y_W b) (h9 : 0 < b 9) (hq : y_vq b q) (hl : l < 4) (hx : x < 2147483648) : ∃ σ1 σ2, f_X4_draw (nI x) (nI l) σ = some σ1 ∧ f_X9_good 30 28 22 31 32 25 23 24 26 33 34 (nP 0) σ1 = some (nI (y_NH b l x q), σ2) ∧ y_N σ2 b ∧ y_cp σ2 28 q ∧ y_fr 22 41 σ σ2 := by
  obtain ⟨σ1, e1, e2, e3⟩ := yc_draw hN hW h9 hl hx
  have hN1 := hN.fr e3 (by omega)
  have hp1 := hp.fr e3 (by omega)
  obtain ⟨σ2, f1, f2, f3⟩ := yc_good hN1 hW h9 e2 (y_nig_vg hW l x) hp1 (by omega) hq y_mkC
  exact ⟨σ1, σ2, e1, f1, hN1.fr f3 (by omega), hp1.fr f3 (by omega), (e3.wide (by omega) (by omega)).trans (f3.wide (by omega) (by omega))⟩
theorem ym_nightH (hM : y_M τ b) (hW : y_W b) (hp : p < b 6) (hl : l < 4) (hx : x < 2147483648) : ∃ τ', f_X12_nightOf (lN x) (nI l) (nI p) τ = some (nI (y_NH b l x (y_pq b p)), τ') ∧ y_M τ' b ∧ y_fm 18 42 80 93 τ τ' := by
  have h9 := hW.on0 (Or.inr (Or.inr (Or.inr (Or.inl (by omega : 0 < b 6)))))
  obtain ⟨τ1, e1, e2, e3⟩ := ym_night hM hW h9 hl hx
  have hM1 := hM.fr e3 (by omega)
  obtain ⟨τ2, g1, g2, g3, g4, g5⟩ := ym_told hM1 hW hp
  have hM2 := hM1.fr g5 (by omega)
  have hg2 : y_mg τ2 b (y_nig b l x).1 (y_nig b l x).2 := by
    unfold y_mg at *
    rw [(g5.2 82 (by omega) (by omega)).1, (g5.2 83 (by omega) (by omega)).1, (g5.2 84 (by omega) (by omega)).1, g5.1 18 (by omega)]
    exact e2
  obtain ⟨τ3, k1, k2, k3⟩ := ym_run (k := y_k1) (red := 0) hM2 hW h9 hg2 (y_nig_vg hW l x) g2 (y_pqv hW hp) (by rw [g3]; exact y_mkM) (by omega) g4
  unfold f_X12_nightOf
  rw [e1, j_b1_s, g1, j_b1_s, k1]
  refine ⟨τ3, by rw [j_b1_s, k2.1.1]; rfl, hM2.fr k3 (by omega), (e3.wide (by omega) (by omega) (by omega) (by omega)).trans ((g5.wide (by omega) (by omega) (by omega) (by omega)).trans (k3.wide (by omega) (by omega) (by omega) (by omega)))⟩
end C
section Z
variable {σ τ : j_G}
theorem z_drawn (hR : j_Rel σ τ) (a1 a2 a3 : Int32) : ∃ v σ1 τ1, f_X11_drawn a1 a2 a3 σ = some (v, σ1) ∧ f_X12_drawn a1 a2 a3 τ = some (v, τ1) ∧ j_Rel σ1 τ1 := by
  obtain ⟨b, hW, hN, hM, hK⟩ := id hR
  by_cases h9 : 0 < b 9
  · by_cases h : y_rg a1 2000000001
    · by_cases h2 : y_rg a2 4
      · obtain ⟨x, hx, rfl⟩ := y_of _ _ h.1 h.2
        obtain ⟨l, hl, rfl⟩ := y_of _ _ h2.1 h2.2
        obtain ⟨σ1, e1, e2, e3⟩ := yc_draw (x := x) hN hW h9 hl (by omega)
        obtain ⟨τ1, f1, f2, f3⟩ := ym_night (x := x) hM hW h9 hl (by omega)
        have hv := y_nig_vg hW l x
        have hr := y_done hR (e3.wide (by omega) (by omega)) (f3.wide (by omega) (by omega) (by omega) (by omega))
        generalize y_nig b l x = P at *
        have hs := hv.1
        by_cases h3 : y_rg a3 P.1
        · obtain ⟨i, hi, rfl⟩ := y_of _ _ h3.1 h3.2
          have c := e2.2 i hi
          have m := f2.2 i hi
          refine ⟨nI (P.2 (3 * i)), σ1, τ1, ?_, ?_, hr⟩
          · unfold f_X11_drawn; simp (disch := omega) only [y_lit, y_n1, nI_add, pk_mul, j_lt, j_b1_s, j_b2_s, j_b3_s, j_b0_s, y_bo, y_bo1, y_bo0, y_i0, y_i1, Classical.not_not, nI_clamp, y_ix, y_lt, y_le, y_eq, y_nP, y_nPs, y_ltP, y_ltQ, y_ltPP, y_eqP, y_eqQ, y_eqPP, if_pos, if_neg, ite_true, ite_false, not_true_eq_false, not_false_eq_true, and_true, true_and, and_false, false_and, or_true, true_or, or_false, false_or, yc_isTold hN hW, yc_isSeed, yc_isLaw, y_rn, e1, yc_ghas e2 hs, c]
          · unfold f_X12_drawn f_X12_inGame; simp (disch := omega) only [y_lit, y_n1, nI_add, pk_mul, j_lt, j_b1_s, j_b2_s, j_b3_s, j_b0_s, y_bo, y_bo1, y_bo0, y_i0, y_i1, Classical.not_not, nI_clamp, y_ix, y_lt, y_le, y_eq, y_nP, y_nPs, y_ltP, y_ltQ, y_ltPP, y_eqP, y_eqQ, y_eqPP, if_pos, if_neg, ite_true, ite_false, not_true_eq_false, not_false_eq_true, and_true, true_and, and_false, false_and, or_true, true_or, or_false, false_or, ym_isBoard hM hW, ym_isSeed, ym_isLaw, y_rn, nI_l, f1, ym_ing f2.1 hs, m, Nat.add_zero]
        · refine ⟨-1, σ1, τ1, ?_, ?_, hr⟩
          · unfold f_X11_drawn; simp (disch := omega) only [y_lit, y_n1, nI_add, pk_mul, j_lt, j_b1_s, j_b2_s, j_b3_s, j_b0_s, y_bo, y_bo1, y_bo0, y_i0, y_i1, Classical.not_not, nI_clamp, y_ix, y_lt, y_le, y_eq, y_nP, y_nPs, y_ltP, y_ltQ, y_ltPP, y_eqP, y_eqQ, y_eqPP, if_pos, if_neg, ite_true, ite_false, not_true_eq_false, not_false_eq_true, and_true, true_and, and_false, false_and, or_true, true_or, or_false, false_or, yc_isTold hN hW, yc_isSeed, yc_isLaw, y_rn, e1, yc_ghas e2 hs, h3]
          · unfold f_X12_drawn; simp (disch := omega) only [y_lit, y_n1, nI_add, pk_mul, j_lt, j_b1_s, j_b2_s, j_b3_s, j_b0_s, y_bo, y_bo1, y_bo0, y_i0, y_i1, Classical.not_not, nI_clamp, y_ix, y_lt, y_le, y_eq, y_nP, y_nPs, y_ltP, y_ltQ, y_ltPP, y_eqP, y_eqQ, y_eqPP, if_pos, if_neg, ite_true, ite_false, not_true_eq_false, not_false_eq_true, and_true, true_and, and_false, false_and, or_true, true_or, or_false, false_or, ym_isBoard hM hW, ym_isSeed, ym_isLaw, y_rn, nI_l, f1, ym_ing f2.1 hs, h3]
      · refine ⟨-2, σ, τ, ?_, ?_, hR⟩
        · unfold f_X11_drawn; simp (disch := omega) only [y_lit, y_n1, nI_add, pk_mul, j_lt, j_b1_s, j_b2_s, j_b3_s, j_b0_s, y_bo, y_bo1, y_bo0, y_i0, y_i1, Classical.not_not, nI_clamp, y_ix, y_lt, y_le, y_eq, y_nP, y_nPs, y_ltP, y_ltQ, y_ltPP, y_eqP, y_eqQ, y_eqPP, if_pos, if_neg, ite_true, ite_false, not_true_eq_false, not_false_eq_true, and_true, true_and, and_false, false_and, or_true, true_or, or_false, false_or, yc_isTold hN hW, yc_isSeed, yc_isLaw, h, h2]
        · unfold f_X12_drawn; simp (disch := omega) only [y_lit, y_n1, nI_add, pk_mul, j_lt, j_b1_s, j_b2_s, j_b3_s, j_b0_s, y_bo, y_bo1, y_bo0, y_i0, y_i1, Classical.not_not, nI_clamp, y_ix, y_lt, y_le, y_eq, y_nP, y_nPs, y_ltP, y_ltQ, y_ltPP, y_eqP, y_eqQ, y_eqPP, if_pos, if_neg, ite_true, ite_false, not_true_eq_false, not_false_eq_true, and_true, true_and, and_false, false_and, or_true, true_or, or_false, false_or, ym_isBoard hM hW, ym_isSeed, ym_isLaw, h, h2]
    · refine ⟨-2, σ, τ, ?_, ?_, hR⟩
      · unfold f_X11_drawn; simp (disch := omega) only [y_lit, y_n1, nI_add, pk_mul, j_lt, j_b1_s, j_b2_s, j_b3_s, j_b0_s, y_bo, y_bo1, y_bo0, y_i0, y_i1, Classical.not_not, nI_clamp, y_ix, y_lt, y_le, y_eq, y_nP, y_nPs, y_ltP, y_ltQ, y_ltPP, y_eqP, y_eqQ, y_eqPP, if_pos, if_neg, ite_true, ite_false, not_true_eq_false, not_false_eq_true, and_true, true_and, and_false, false_and, or_true, true_or, or_false, false_or, yc_isTold hN hW, yc_isSeed, h]
      · unfold f_X12_drawn; simp (disch := omega) only [y_lit, y_n1, nI_add, pk_mul, j_lt, j_b1_s, j_b2_s, j_b3_s, j_b0_s, y_bo, y_bo1, y_bo0, y_i0, y_i1, Classical.not_not, nI_clamp, y_ix, y_lt, y_le, y_eq, y_nP, y_nPs, y_ltP, y_ltQ, y_ltPP, y_eqP, y_eqQ, y_eqPP, if_pos, if_neg, ite_true, ite_false, not_true_eq_false, not_false_eq_true, and_true, true_and, and_false, false_and, or_true, true_or, or_false, false_or, ym_isBoard hM hW, ym_isSeed, h]
  · refine ⟨-2, σ, τ, ?_, ?_, hR⟩
    · unfold f_X11_drawn; simp (disch := omega) only [y_lit, y_n1, nI_add, pk_mul, j_lt, j_b1_s, j_b2_s, j_b3_s, j_b0_s, y_bo, y_bo1, y_bo0, y_i0, y_i1, Classical.not_not, nI_clamp, y_ix, y_lt, y_le, y_eq, y_nP, y_nPs, y_ltP, y_ltQ, y_ltPP, y_eqP, y_eqQ, y_eqPP, if_pos, if_neg, ite_true, ite_false, not_true_eq_false, not_false_eq_true, and_true, true_and, and_false, false_and, or_true, true_or, or_false, false_or, yc_isTold hN hW]
    · unfold f_X12_drawn; simp (disch := omega) only [y_lit, y_n1, nI_add, pk_mul, j_lt, j_b1_s, j_b2_s, j_b3_s, j_b0_s, y_bo, y_bo1, y_bo0, y_i0, y_i1, Classical.not_not, nI_clamp, y_ix, y_lt, y_le, y_eq, y_nP, y_nPs, y_ltP, y_ltQ, y_ltPP, y_eqP, y_eqQ, y_eqPP, if_pos, if_neg, ite_true, ite_false, not_true_eq_false, not_false_eq_true, and_true, true_and, and_false, false_and, or_true, true_or, or_false, false_or, ym_isBoard hM hW]
theorem y_years {b : Nat → Nat} {x l p k : Nat} (hW : y_W b) (hp : p < b 6) (hl : l < 4) (hx : x ≤ 2000000000) (hk : k ≤ 20) : ∀ m i n v σ τ, i + m = k → m < n → v ≤ 120 * i → y_N σ b → y_cp σ 28 (y_pq b p) → y_M τ b → ∃ w σ1 τ1, p_X11_years_59 (nI x) (nI k) (nI l) n (nI v) (nI i) σ = some (w, σ1) ∧ p_X12_years_44 (nI x) (nI k) (nI l) (nI p) n (nI v) (nI i) τ = some (w, τ1) ∧ y_fr 22 41 σ σ1 ∧ y_fm 18 42 80 93 τ τ1 := by
  have h9 := hW.on0 (Or.inr (Or.inr (Or.inr (Or.inl (by omega : 0 < b 6)))))
  have hq := y_pqv hW hp
  intro m
  induction m with
  | zero =>
    intro i n v σ τ h hn hv hN hc hM
    obtain ⟨n, rfl⟩ := y_pos hn
    refine ⟨nI v, σ, τ, ?_, ?_, y_fr.refl, y_fm.refl⟩
    · unfold p_X11_years_59; simp (disch := omega) only [y_lit, y_n1, nI_add, pk_mul, j_lt, j_b1_s, j_b2_s, j_b3_s, j_b0_s, y_bo, y_bo1, y_bo0, y_i0, y_i1, Classical.not_not, nI_clamp, y_ix, y_lt, y_le, y_eq, y_nP, y_nPs, y_ltP, y_ltQ, y_ltPP, y_eqP, y_eqQ, y_eqPP, if_pos, if_neg, ite_true, ite_false, not_true_eq_false, not_false_eq_true, and_true, true_and, and_false, false_and, or_true, true_or, or_false, false_or]
    · unfold p_X12_years_44; simp (disch := omega) only [y_lit, y_n1, nI_add, pk_mul, j_lt, j_b1_s, j_b2_s, j_b3_s, j_b0_s, y_bo, y_bo1, y_bo0, y_i0, y_i1, Classical.not_not, nI_clamp, y_ix, y_lt, y_le, y_eq, y_nP, y_nPs, y_ltP, y_ltQ, y_ltPP, y_eqP, y_eqQ, y_eqPP, if_pos, if_neg, ite_true, ite_false, not_true_eq_false, not_false_eq_true, and_true, true_and, and_false, false_and, or_true, true_or, or_false, false_or]
  | succ m ih =>
    intro i n v σ τ h hn hv hN hc hM
    obtain ⟨n, rfl⟩ := y_pos hn
    obtain ⟨σ1, σ2, e1, e2, e3, e4, e5⟩ := yc_nightH (x := x + i) hN hc hW h9 hq hl (by omega)
    obtain ⟨τ2, f1, f2, f3⟩ := ym_nightH (x := x + i) hM hW hp hl (by omega)
    have le := y_NH_le (l := l) (x := x + i) hW hq
    have eL : (nI x).toInt64 + (nI i).toInt64 = lN (x + i) := by rw [nI_l (by omega), nI_l (by omega), lN_add]
    obtain ⟨w, σ3, τ3, g1, g2, g3, g4⟩ := ih (i + 1) n (v + y_NH b l (x + i) (y_pq b p)) σ2 τ2 (by omega) (by omega) (by omega) e3 e4 f2
    refine ⟨w, σ3, τ3, ?_, ?_, e5.trans g3, f3.trans g4⟩
    · unfold p_X11_years_59; simp (disch := omega) only [y_lit, y_n1, nI_add, pk_mul, j_lt, j_b1_s, j_b2_s, j_b3_s, j_b0_s, y_bo, y_bo1, y_bo0, y_i0, y_i1, Classical.not_not, nI_clamp, y_ix, y_lt, y_le, y_eq, y_nP, y_nPs, y_ltP, y_ltQ, y_ltPP, y_eqP, y_eqQ, y_eqPP, if_pos, if_neg, ite_true, ite_false, not_true_eq_false, not_false_eq_true, and_true, true_and, and_false, false_and, or_true, true_or, or_false, false_or, e1, e2, g1]
    · unfold p_X12_years_44; simp (disch := omega) only [y_lit, y_n1, nI_add, pk_mul, j_lt, j_b1_s, j_b2_s, j_b3_s, j_b0_s, y_bo, y_bo1, y_bo0, y_i0, y_i1, Classical.not_not, nI_clamp, y_ix, y_lt, y_le, y_eq, y_nP, y_nPs, y_ltP, y_ltQ, y_ltPP, y_eqP, y_eqQ, y_eqPP, if_pos, if_neg, ite_true, ite_false, not_true_eq_false, not_false_eq_true, and_true, true_and, and_false, false_and, or_true, true_or, or_false, false_or, eL, f1, g2]
theorem z_years (hR : j_Rel σ τ) (a1 a2 a3 a4 : Int32) : ∃ v σ1 τ1, f_X11_years a1 a2 a3 a4 σ = some (v, σ1) ∧ f_X12_years a1 a2 a3 a4 τ = some (v, τ1) ∧ j_Rel σ1 τ1 := by
  obtain ⟨b, hW, hN, hM, hK⟩ := id hR
  have c20 : ∀ x : Int32, (x < nI 1 ∨ nI 20 < x) ↔ ¬ (1 ≤ x.toInt ∧ x.toInt ≤ 20) := fun x => by
    rw [j_ltI, j_ltI, nI_toInt (by omega), nI_toInt (by omega)]; omega
  have d20 : ∀ x : Int32, (¬ x < nI 1 ∧ ¬ nI 20 < x) ↔ (1 ≤ x.toInt ∧ x.toInt ≤ 20) := fun x => by
    rw [j_ltI, j_ltI, nI_toInt (by omega), nI_toInt (by omega)]; omega
  by_cases h : y_rg a1 2000000001
  · by_cases h2 : 1 ≤ a2.toInt ∧ a2.toInt ≤ 20
    · by_cases h3 : y_rg a3 4
      · by_cases h4 : y_rg a4 (b 6)
        · obtain ⟨x, hx, rfl⟩ := y_of _ _ h.1 h.2
          obtain ⟨k, hk, rfl⟩ := y_of a2 21 (by omega) (by omega)
          obtain ⟨l, hl, rfl⟩ := y_of _ _ h3.1 h3.2
          obtain ⟨p, hp, rfl⟩ := y_of _ _ h4.1 h4.2
          rw [nI_toInt (by omega)] at h2
          obtain ⟨σ1, e1, e2, e3⟩ := yc_take (a := 28) hN hW hp (by omega)
          obtain ⟨w, σ2, τ2, g1, g2, g3, g4⟩ := y_years (x := x) (k := k) hW hp hl (by omega) (by omega) k 0 j_F 0 σ1 τ (by omega) (y_F (by omega)) (by omega) (hN.fr e3 (by omega)) e2 hM
          refine ⟨w, σ2, τ2, ?_, ?_, y_done hR ((e3.wide (by omega) (by omega)).trans g3) g4⟩
          · unfold f_X11_years; simp (disch := omega) only [y_lit, y_n1, nI_add, pk_mul, j_lt, j_b1_s, j_b2_s, j_b3_s, j_b0_s, y_bo, y_bo1, y_bo0, y_i0, y_i1, Classical.not_not, nI_clamp, y_ix, y_lt, y_le, y_eq, y_nP, y_nPs, y_ltP, y_ltQ, y_ltPP, y_eqP, y_eqQ, y_eqPP, if_pos, if_neg, ite_true, ite_false, not_true_eq_false, not_false_eq_true, and_true, true_and, and_false, false_and, or_true, true_or, or_false, false_or, yc_isSeed, yc_isLaw, yc_isPlayer hN hW, y_rn, e1, g1]
          · unfold f_X12_years; simp (disch := omega) only [y_lit, y_n1, nI_add, pk_mul, j_lt, j_b1_s, j_b2_s, j_b3_s, j_b0_s, y_bo, y_bo1, y_bo0, y_i0, y_i1, Classical.not_not, nI_clamp, y_ix, y_lt, y_le, y_eq, y_nP, y_nPs, y_ltP, y_ltQ, y_ltPP, y_eqP, y_eqQ, y_eqPP, if_pos, if_neg, ite_true, ite_false, not_true_eq_false, not_false_eq_true, and_true, true_and, and_false, false_and, or_true, true_or, or_false, false_or, ym_isSeed, ym_isLaw, ym_isPlayer hM hW, y_rn, y_lit64, y_in, g2]
        · refine ⟨-2, σ, τ, ?_, ?_, hR⟩
          · unfold f_X11_years; simp (disch := omega) only [y_lit, y_n1, nI_add, pk_mul, j_lt, j_b1_s, j_b2_s, j_b3_s, j_b0_s, y_bo, y_bo1, y_bo0, y_i0, y_i1, Classical.not_not, nI_clamp, y_ix, y_lt, y_le, y_eq, y_nP, y_nPs, y_ltP, y_ltQ, y_ltPP, y_eqP, y_eqQ, y_eqPP, if_pos, if_neg, ite_true, ite_false, not_true_eq_false, not_false_eq_true, and_true, true_and, and_false, false_and, or_true, true_or, or_false, false_or, yc_isSeed, yc_isLaw, yc_isPlayer hN hW, h4]
          · unfold f_X12_years; simp (disch := omega) only [y_lit, y_n1, nI_add, pk_mul, j_lt, j_b1_s, j_b2_s, j_b3_s, j_b0_s, y_bo, y_bo1, y_bo0, y_i0, y_i1, Classical.not_not, nI_clamp, y_ix, y_lt, y_le, y_eq, y_nP, y_nPs, y_ltP, y_ltQ, y_ltPP, y_eqP, y_eqQ, y_eqPP, if_pos, if_neg, ite_true, ite_false, not_true_eq_false, not_false_eq_true, and_true, true_and, and_false, false_and, or_true, true_or, or_false, false_or, ym_isSeed, ym_isLaw, ym_isPlayer hM hW, y_lit64, y_in, d20, h, h2, h3, h4]
      · refine ⟨-2, σ, τ, ?_, ?_, hR⟩
        · unfold f_X11_years; simp (disch := omega) only [y_lit, y_n1, nI_add, pk_mul, j_lt, j_b1_s, j_b2_s, j_b3_s, j_b0_s, y_bo, y_bo1, y_bo0, y_i0, y_i1, Classical.not_not, nI_clamp, y_ix, y_lt, y_le, y_eq, y_nP, y_nPs, y_ltP, y_ltQ, y_ltPP, y_eqP, y_eqQ, y_eqPP, if_pos, if_neg, ite_true, ite_false, not_true_eq_false, not_false_eq_true, and_true, true_and, and_false, false_and, or_true, true_or, or_false, false_or, yc_isSeed, yc_isLaw, h3]
        · unfold f_X12_years; simp (disch := omega) only [y_lit, y_n1, nI_add, pk_mul, j_lt, j_b1_s, j_b2_s, j_b3_s, j_b0_s, y_bo, y_bo1, y_bo0, y_i0, y_i1, Classical.not_not, nI_clamp, y_ix, y_lt, y_le, y_eq, y_nP, y_nPs, y_ltP, y_ltQ, y_ltPP, y_eqP, y_eqQ, y_eqPP, if_pos, if_neg, ite_true, ite_false, not_true_eq_false, not_false_eq_true, and_true, true_and, and_false, false_and, or_true, true_or, or_false, false_or, ym_isSeed, ym_isLaw, h3]
    · refine ⟨-2, σ, τ, ?_, ?_, hR⟩
      · have q := (c20 a2).mpr h2
        unfold f_X11_years
        rw [if_pos]
        rcases q with q | q
        · exact Or.inr (Or.inl q)
        · exact Or.inr (Or.inr (Or.inl q))
      · unfold f_X12_years; simp (disch := omega) only [y_lit, y_n1, nI_add, pk_mul, j_lt, j_b1_s, j_b2_s, j_b3_s, j_b0_s, y_bo, y_bo1, y_bo0, y_i0, y_i1, Classical.not_not, nI_clamp, y_ix, y_lt, y_le, y_eq, y_nP, y_nPs, y_ltP, y_ltQ, y_ltPP, y_eqP, y_eqQ, y_eqPP, if_pos, if_neg, ite_true, ite_false, not_true_eq_false, not_false_eq_true, and_true, true_and, and_false, false_and, or_true, true_or, or_false, false_or, ym_isSeed, ym_isLaw, y_lit64, y_in, d20, h2]
  · refine ⟨-2, σ, τ, ?_, ?_, hR⟩
    · unfold f_X11_years; simp (disch := omega) only [y_lit, y_n1, nI_add, pk_mul, j_lt, j_b1_s, j_b2_s, j_b3_s, j_b0_s, y_bo, y_bo1, y_bo0, y_i0, y_i1, Classical.not_not, nI_clamp, y_ix, y_lt, y_le, y_eq, y_nP, y_nPs, y_ltP, y_ltQ, y_ltPP, y_eqP, y_eqQ, y_eqPP, if_pos, if_neg, ite_true, ite_false, not_true_eq_false, not_false_eq_true, and_true, true_and, and_false, false_and, or_true, true_or, or_false, false_or, yc_isSeed, h]
    · unfold f_X12_years; simp (disch := omega) only [y_lit, y_n1, nI_add, pk_mul, j_lt, j_b1_s, j_b2_s, j_b3_s, j_b0_s, y_bo, y_bo1, y_bo0, y_i0, y_i1, Classical.not_not, nI_clamp, y_ix, y_lt, y_le, y_eq, y_nP, y_nPs, y_ltP, y_ltQ, y_ltPP, y_eqP, y_eqQ, y_eqPP, if_pos, if_neg, ite_true, ite_false, not_true_eq_false, not_false_eq_true, and_true, true_and, and_false, false_and, or_true, true_or, or_false, false_or, ym_isSeed, h]
theorem z_night (hR : j_Rel σ τ) (a1 a2 a3 : Int32) : ∃ v σ1 τ1, f_X11_night a1 a2 a3 σ = some (v, σ1) ∧ f_X12_night a1 a2 a3 τ = some (v, τ1) ∧ j_Rel σ1 τ1 := by
  obtain ⟨b, hW, hN, hM, hK⟩ := id hR
  by_cases h : y_rg a1 2000000001
  · by_cases h3 : y_rg a2 4
    · by_cases h4 : y_rg a3 (b 6)
      · obtain ⟨x, hx, rfl⟩ := y_of _ _ h.1 h.2
        obtain ⟨l, hl, rfl⟩ := y_of _ _ h3.1 h3.2
        obtain ⟨p, hp, rfl⟩ := y_of _ _ h4.1 h4.2
        have h9 := hW.on0 (Or.inr (Or.inr (Or.inr (Or.inl (by omega : 0 < b 6)))))
        have hq := y_pqv hW hp
        obtain ⟨σ1, e1, e2, e3⟩ := yc_take (a := 28) hN hW hp (by omega)
        obtain ⟨σ2, σ3, c1, c2, c3, c4, c5⟩ := yc_nightH (x := x) (hN.fr e3 (by omega)) e2 hW h9 hq hl (by omega)
        obtain ⟨τ2, f1, f2, f3⟩ := ym_nightH (x := x) hM hW hp hl (by omega)
        refine ⟨nI (y_NH b l x (y_pq b p)), σ3, τ2, ?_, ?_, y_done hR ((e3.wide (by omega) (by omega)).trans c5) f3⟩
        · have w : p_X11_years_59 (nI x) (nI 1) (nI l) j_F (nI 0) (nI 0) σ1 = some (nI (y_NH b l x (y_pq b p)), σ3) := by
            rw [show j_F = 4998 + 1 + 1 from rfl]
            unfold p_X11_years_59
            rw [y_m1]
            simp (disch := omega) only [y_lit, y_n1, nI_add, pk_mul, j_lt, j_b1_s, j_b2_s, j_b3_s, j_b0_s, y_bo, y_bo1, y_bo0, y_i0, y_i1, Classical.not_not, nI_clamp, y_ix, y_lt, y_le, y_eq, y_nP, y_nPs, y_ltP, y_ltQ, y_ltPP, y_eqP, y_eqQ, y_eqPP, if_pos, if_neg, ite_true, ite_false, not_true_eq_false, not_false_eq_true, and_true, true_and, and_false, false_and, or_true, true_or, or_false, false_or, Nat.add_zero, c1, c2, Nat.zero_add]
            unfold p_X11_years_59
            simp (disch := omega) only [y_lit, y_n1, nI_add, pk_mul, j_lt, j_b1_s, j_b2_s, j_b3_s, j_b0_s, y_bo, y_bo1, y_bo0, y_i0, y_i1, Classical.not_not, nI_clamp, y_ix, y_lt, y_le, y_eq, y_nP, y_nPs, y_ltP, y_ltQ, y_ltPP, y_eqP, y_eqQ, y_eqPP, if_pos, if_neg, ite_true, ite_false, not_true_eq_false, not_false_eq_true, and_true, true_and, and_false, false_and, or_true, true_or, or_false, false_or]
          unfold f_X11_night f_X11_years; simp (disch := omega) only [y_lit, y_n1, nI_add, pk_mul, j_lt, j_b1_s, j_b2_s, j_b3_s, j_b0_s, y_bo, y_bo1, y_bo0, y_i0, y_i1, Classical.not_not, nI_clamp, y_ix, y_lt, y_le, y_eq, y_nP, y_nPs, y_ltP, y_ltQ, y_ltPP, y_eqP, y_eqQ, y_eqPP, if_pos, if_neg, ite_true, ite_false, not_true_eq_false, not_false_eq_true, and_true, true_and, and_false, false_and, or_true, true_or, or_false, false_or, yc_isSeed, yc_isLaw, yc_isPlayer hN hW, y_rn, e1, w]
        · unfold f_X12_night; simp (disch := omega) only [y_lit, y_n1, nI_add, pk_mul, j_lt, j_b1_s, j_b2_s, j_b3_s, j_b0_s, y_bo, y_bo1, y_bo0, y_i0, y_i1, Classical.not_not, nI_clamp, y_ix, y_lt, y_le, y_eq, y_nP, y_nPs, y_ltP, y_ltQ, y_ltPP, y_eqP, y_eqQ, y_eqPP, if_pos, if_neg, ite_true, ite_false, not_true_eq_false, not_false_eq_true, and_true, true_and, and_false, false_and, or_true, true_or, or_false, false_or, ym_isSeed, ym_isLaw, ym_isPlayer hM hW, y_rn, nI_l, f1]
      · refine ⟨-2, σ, τ, ?_, ?_, hR⟩
        · unfold f_X11_night f_X11_years; simp (disch := omega) only [y_lit, y_n1, nI_add, pk_mul, j_lt, j_b1_s, j_b2_s, j_b3_s, j_b0_s, y_bo, y_bo1, y_bo0, y_i0, y_i1, Classical.not_not, nI_clamp, y_ix, y_lt, y_le, y_eq, y_nP, y_nPs, y_ltP, y_ltQ, y_ltPP, y_eqP, y_eqQ, y_eqPP, if_pos, if_neg, ite_true, ite_false, not_true_eq_false, not_false_eq_true, and_true, true_and, and_false, false_and, or_true, true_or, or_false, false_or, yc_isSeed, yc_isLaw, yc_isPlayer hN hW, h4]
        · unfold f_X12_night; simp (disch := omega) only [y_lit, y_n1, nI_add, pk_mul, j_lt, j_b1_s, j_b2_s, j_b3_s, j_b0_s, y_bo, y_bo1, y_bo0, y_i0, y_i1, Classical.not_not, nI_clamp, y_ix, y_lt, y_le, y_eq, y_nP, y_nPs, y_ltP, y_ltQ, y_ltPP, y_eqP, y_eqQ, y_eqPP, if_pos, if_neg, ite_true, ite_false, not_true_eq_false, not_false_eq_true, and_true, true_and, and_false, false_and, or_true, true_or, or_false, false_or, ym_isSeed, ym_isLaw, ym_isPlayer hM hW, h, h3, h4]
    · refine ⟨-2, σ, τ, ?_, ?_, hR⟩
      · unfold f_X11_night f_X11_years; simp (disch := omega) only [y_lit, y_n1, nI_add, pk_mul, j_lt, j_b1_s, j_b2_s, j_b3_s, j_b0_s, y_bo, y_bo1, y_bo0, y_i0, y_i1, Classical.not_not, nI_clamp, y_ix, y_lt, y_le, y_eq, y_nP, y_nPs, y_ltP, y_ltQ, y_ltPP, y_eqP, y_eqQ, y_eqPP, if_pos, if_neg, ite_true, ite_false, not_true_eq_false, not_false_eq_true, and_true, true_and, and_false, false_and, or_true, true_or, or_false, false_or, yc_isSeed, yc_isLaw, h3]
      · unfold f_X12_night; simp (disch := omega) only [y_lit, y_n1, nI_add, pk_mul, j_lt, j_b1_s, j_b2_s, j_b3_s, j_b0_s, y_bo, y_bo1, y_bo0, y_i0, y_i1, Classical.not_not, nI_clamp, y_ix, y_lt, y_le, y_eq, y_nP, y_nPs, y_ltP, y_ltQ, y_ltPP, y_eqP, y_eqQ, y_eqPP, if_pos, if_neg, ite_true, ite_false, not_true_eq_false, not_false_eq_true, and_true, true_and, and_false, false_and, or_true, true_or, or_false, false_or, ym_isSeed, ym_isLaw, h3]
  · refine ⟨-2, σ, τ, ?_, ?_, hR⟩
    · unfold f_X11_night f_X11_years; simp (disch := omega) only [y_lit, y_n1, nI_add, pk_mul, j_lt, j_b1_s, j_b2_s, j_b3_s, j_b0_s, y_bo, y_bo1, y_bo0, y_i0, y_i1, Classical.not_not, nI_clamp, y_ix, y_lt, y_le, y_eq, y_nP, y_nPs, y_ltP, y_ltQ, y_ltPP, y_eqP, y_eqQ, y_eqPP, if_pos, if_neg, ite_true, ite_false, not_true_eq_false, not_false_eq_true, and_true, true_and, and_false, false_and, or_true, true_or, or_false, false_or, yc_isSeed, h]
    · unfold f_X12_night; simp (disch := omega) only [y_lit, y_n1, nI_add, pk_mul, j_lt, j_b1_s, j_b2_s, j_b3_s, j_b0_s, y_bo, y_bo1, y_bo0, y_i0, y_i1, Classical.not_not, nI_clamp, y_ix, y_lt, y_le, y_eq, y_nP, y_nPs, y_ltP, y_ltQ, y_ltPP, y_eqP, y_eqQ, y_eqPP, if_pos, if_neg, ite_true, ite_false, not_true_eq_false, not_false_eq_true, and_true, true_and, and_false, false_and, or_true, true_or, or_false, false_or, ym_isSeed, h]
end Z
/-! another stand -/
section U
variable {b : Nat → Nat} {k : Nat}
theorem y8_st (t : Nat) : ∀ m i s v, y_st (y_u b 8 k) t m i s v = y_st b t m i s v := by
  intro m
  induction m with
  | zero => intro i s v; rfl
  | succ m ih => intro i s v; unfold y_st; rw [y_un (by omega), y_un (by omega), ih, ih]
theorem y8_stay : y_stay (y_u b 8 k) = y_stay b := by
  funext t; unfold y_stay; rw [y8_st, y_un (by omega)]
theorem y8_from : y_from (y_u b 8 k) = y_from b := by
  funext i
  induction i with
  | zero => rfl
  | succ i ih => unfold y_from; rw [ih, y8_stay, y_un (by omega)]
theorem y8_last : y_last (y_u b 8 k) = y_last b := by
  funext i; unfold y_last; rw [y8_from, y8_stay]
theorem y8_gn : ∀ m i, y_gn (y_u b 8 k) m i = y_gn b m i := by
  intro m
  induction m with
  | zero => intro i; rfl
  | succ m ih => intro i; unfold y_gn; rw [y8_last, ih, y_un (by omega)]
theorem y8_gs : y_gs (y_u b 8 k) = y_gs b := by unfold y_gs; rw [y8_gn, y_un (by omega)]
theorem y8_dg : y_dg (y_u b 8 k) k = y_dg b k := by
  funext j; unfold y_dg; rw [y_un (by omega), y_un (by omega)]
theorem y8_ap : y_ap (y_u b 8 k) = y_ap b := by
  funext a c; unfold y_ap; rw [y_un (by omega)]
theorem y8_pq {p : Nat} : y_pq (y_u b 8 k) p = y_pq b p := by
  funext j; unfold y_pq; rw [y_un (by omega)]
theorem y8_go {g q : Nat → Nat} : y_go (y_u b 8 k) g q = y_go b g q := by
  funext i to R; unfold y_go y_set y_at y_th y_aw; rw [y8_ap, y8_from, y8_last]
theorem y8_go2 {g q : Nat → Nat} : y_go2 (y_u b 8 k) g q = y_go2 b g q := by
  funext i to th R; unfold y_go2 y_at y_th y_aw; rw [y8_go, y8_ap, y8_from, y8_last]
theorem y8_gf {g q kk : Nat → Nat} : y_gf (y_u b 8 k) g q kk = y_gf b g q kk := by
  funext i R; unfold y_gf; rw [y8_go, y8_go2, y8_ap]
theorem y8_rl {g q kk : Nat → Nat} {red : Nat} : ∀ m i R, y_rl (y_u b 8 k) g q kk red m i R = y_rl b g q kk red m i R := by
  intro m
  induction m with
  | zero => intro i R; rfl
  | succ m ih => intro i R; unfold y_rl; rw [y8_gf, ih]
theorem y8_own {p : Nat} : y_own (y_u b 8 k) p = y_run b (y_dg b k) (y_pq b p) y_k1 0 (y_gs b) := by
  unfold y_own y_run
  rw [y_ue, y8_gs, y8_dg, y8_pq, y8_rl]
end U
section Z
variable {σ τ : j_G}
theorem z_lucky (hR : j_Rel σ τ) (a1 : Int32) : ∃ v σ1 τ1, f_X11_lucky a1 σ = some (v, σ1) ∧ f_X12_lucky a1 τ = some (v, τ1) ∧ j_Rel σ1 τ1 := by
  obtain ⟨b, hW, hN, hM, hK⟩ := id hR
  have h5 := hW.b5
  by_cases h : y_rg a1 (b 6)
  · obtain ⟨p, hp, rfl⟩ := y_of _ _ h.1 h.2
    have h9 := hW.on0 (Or.inr (Or.inr (Or.inr (Or.inl (by omega : 0 < b 6)))))
    have hq := y_pqv hW hp
    obtain ⟨σ1, e1, e2, e3⟩ := yc_take (a := 28) hN hW hp (by omega)
    have hN1 := hN.fr e3 (by omega)
    have both : ∀ m k n f x kk σ' τ', k + m = b 5 → m < n → x ≤ 121 → y_N σ' b → y_cp σ' 28 (y_pq b p) → y_M τ' (y_u b 8 kk) → ∃ v σ'' τ'' kk', p_X11_lucky_33 n f (nP x) (nI k) σ' = some (v, σ'') ∧ y_fr 22 41 σ' σ'' ∧ p_X12_lucky_27 (nI p) (nI (b 8)) n f (nP x) (nI k) τ' = some (v, τ'') ∧ y_M τ'' (y_u b 8 kk') ∧ y_km τ' τ'' := by
      intro m
      induction m with
      | zero =>
        intro k n f x kk σ' τ' h hn hx hN hc hM
        obtain ⟨n, rfl⟩ := y_pos hn
        have e5 : τ'.1 76 5 = nI (b 5) := by rw [hM.f (j := 5) (by omega), y_un (by omega)]
        refine ⟨f, σ', τ', kk, ?_, y_fr.refl, ?_, hM, y_km.refl⟩
        · unfold p_X11_lucky_33; simp (disch := omega) only [y_lit, y_n1, nI_add, pk_mul, j_lt, j_b1_s, j_b2_s, j_b3_s, j_b0_s, y_bo, y_bo1, y_bo0, y_i0, y_i1, Classical.not_not, nI_clamp, y_ix, y_lt, y_le, y_eq, y_nP, y_nPs, y_ltP, y_ltQ, y_ltPP, y_eqP, y_eqQ, y_eqPP, if_pos, if_neg, ite_true, ite_false, not_true_eq_false, not_false_eq_true, and_true, true_and, and_false, false_and, or_true, true_or, or_false, false_or, hN.d0]
        · unfold p_X12_lucky_27; simp (disch := omega) only [y_lit, y_n1, nI_add, pk_mul, j_lt, j_b1_s, j_b2_s, j_b3_s, j_b0_s, y_bo, y_bo1, y_bo0, y_i0, y_i1, Classical.not_not, nI_clamp, y_ix, y_lt, y_le, y_eq, y_nP, y_nPs, y_ltP, y_ltQ, y_ltPP, y_eqP, y_eqQ, y_eqPP, if_pos, if_neg, ite_true, ite_false, not_true_eq_false, not_false_eq_true, and_true, true_and, and_false, false_and, or_true, true_or, or_false, false_or, e5]
      | succ m ih =>
        intro k n f x kk σ' τ' h hn hx hN hc hM
        obtain ⟨n, rfl⟩ := y_pos hn
        have e5 : τ'.1 76 5 = nI (b 5) := by rw [hM.f (j := 5) (by omega), y_un (by omega)]
        obtain ⟨σ2, c1, c2, c3⟩ := yc_deal (st := k) hN hW (Or.inr (by omega))
        have hN2 := hN.fr c3 (by omega)
        have hc2 := hc.fr c3 (by omega)
        obtain ⟨σ3, d1, d2, d3⟩ := yc_good hN2 hW h9 c2 (y_dg_vg hW k) hc2 (by omega) hq y_mkC
        have hWk := hW.set8 (k := k) (by omega)
        have hM1 := hM.set (j := 8) (v := k) (by omega)
        rw [y_uu] at hM1
        have hpk : p < y_u b 8 k 6 := by rw [y_un (by omega)]; exact hp
        obtain ⟨τ1, g1, g2, g3, g4, g5⟩ := ym_ras hM1 hWk hpk
        have r0 := g3.1.1
        rw [y8_own] at r0
        have le := (y_run_br (k := y_k1) (red := 0) hW (y_dg_vg hW k) hq).1
        have km : y_km τ' τ1 := y_km.w.trans (y_km.of g5 (by omega) (by omega) (by omega))
        have cm : y_fr 22 41 σ' σ3 := (c3.wide (by omega) (by omega)).trans (d3.wide (by omega) (by omega))
        have hlt : nI k < nI (b 5) := (y_lt (by omega) (by omega)).mpr (by omega)
        generalize y_run b (y_dg b k) (y_pq b p) y_k1 0 (y_gs b) 0 = H at *
        have kc : p_X11_lucky_33 (n + 1) f (nP x) (nI k) σ' = p_X11_lucky_33 n (if nP x < nI H then (nI k, nI H) else (f, nP x)).1 (if nP x < nI H then (nI k, nI H) else (f, nP x)).2 (nI (k + 1)) σ3 := by
          rw [p_X11_lucky_33, hN.d0, if_pos hlt, c1, j_b1_s, y_m1, d1, j_b2_s, show (1 : Int32) = nI 1 from rfl, nI_add]
          rfl
        have kM : p_X12_lucky_27 (nI p) (nI (b 8)) (n + 1) f (nP x) (nI k) τ' = p_X12_lucky_27 (nI p) (nI (b 8)) n (if ¬ nP x < nI H then (f, nP x) else (nI k, nI H)).1 (if ¬ nP x < nI H then (f, nP x) else (nI k, nI H)).2 (nI (k + 1)) τ1 := by
          rw [p_X12_lucky_27, show (5 : Int32) = nI 5 from rfl, y_ix (by omega) (by omega), nI_clamp (by omega), e5, if_pos hlt, show (8 : Int32) = nI 8 from rfl, y_ix (by omega) (by omega), nI_clamp (by omega)]
          simp only [j_lt]
          rw [g1, j_b1_s, r0, show (1 : Int32) = nI 1 from rfl, nI_add]
        rw [kc, kM]
        by_cases c : nP x < nI H
        · rw [if_pos c, if_neg (fun z => z c)]
          obtain ⟨v, σ4, τ4, kk', l1, l2, l3, l4, l5⟩ := ih (k + 1) n (nI k) (H + 1) k σ3 τ1 (by omega) (by omega) (by omega) (hN2.fr d3 (by omega)) (hc2.fr d3 (by omega)) g2.1
          rw [y_nPs] at l1 l3
          exact ⟨v, σ4, τ4, kk', l1, cm.trans l2, l3, l4, km.trans l5⟩
        · rw [if_neg c, if_pos c]
          obtain ⟨v, σ4, τ4, kk', l1, l2, l3, l4, l5⟩ := ih (k + 1) n f x k σ3 τ1 (by omega) (by omega) hx (hN2.fr d3 (by omega)) (hc2.fr d3 (by omega)) g2.1
          exact ⟨v, σ4, τ4, kk', l1, cm.trans l2, l3, l4, km.trans l5⟩
    obtain ⟨v, σ2, τ2, kk', l1, l2, l3, l4, l5⟩ := both (b 5) 0 j_F (nP 0) 0 (b 8) σ1 τ (by omega) (y_F (by omega)) (by omega) hN1 e2 (by rw [y_uid]; exact hM)
    have hM3 := l4.set (j := 8) (v := b 8) (by omega)
    rw [y_uu, y_uid] at hM3
    refine ⟨v, σ2, j_si τ2 76 8 (nI (b 8)), ?_, ?_, b, hW, hN1.fr l2 (by omega), hM3, hK.fr2 ((y_kc.of e3 (by omega) (by omega)).trans (y_kc.of l2 (by omega) (by omega))) (l5.trans y_km.w)⟩
    · unfold f_X11_lucky; simp (disch := omega) only [y_lit, y_n1, nI_add, pk_mul, j_lt, j_b1_s, j_b2_s, j_b3_s, j_b0_s, y_bo, y_bo1, y_bo0, y_i0, y_i1, Classical.not_not, nI_clamp, y_ix, y_lt, y_le, y_eq, y_nP, y_nPs, y_ltP, y_ltQ, y_ltPP, y_eqP, y_eqQ, y_eqPP, if_pos, if_neg, ite_true, ite_false, not_true_eq_false, not_false_eq_true, and_true, true_and, and_false, false_and, or_true, true_or, or_false, false_or, yc_isPlayer hN hW, y_rn, e1, l1]
    · unfold f_X12_lucky; simp (disch := omega) only [y_lit, y_n1, nI_add, pk_mul, j_lt, j_b1_s, j_b2_s, j_b3_s, j_b0_s, y_bo, y_bo1, y_bo0, y_i0, y_i1, Classical.not_not, nI_clamp, y_ix, y_lt, y_le, y_eq, y_nP, y_nPs, y_ltP, y_ltQ, y_ltPP, y_eqP, y_eqQ, y_eqPP, if_pos, if_neg, ite_true, ite_false, not_true_eq_false, not_false_eq_true, and_true, true_and, and_false, false_and, or_true, true_or, or_false, false_or, ym_isPlayer hM hW, y_rn, hM.f, l3]
  · refine ⟨-2, σ, τ, ?_, ?_, hR⟩
    · unfold f_X11_lucky; simp (disch := omega) only [y_lit, y_n1, nI_add, pk_mul, j_lt, j_b1_s, j_b2_s, j_b3_s, j_b0_s, y_bo, y_bo1, y_bo0, y_i0, y_i1, Classical.not_not, nI_clamp, y_ix, y_lt, y_le, y_eq, y_nP, y_nPs, y_ltP, y_ltQ, y_ltPP, y_eqP, y_eqQ, y_eqPP, if_pos, if_neg, ite_true, ite_false, not_true_eq_false, not_false_eq_true, and_true, true_and, and_false, false_and, or_true, true_or, or_false, false_or, yc_isPlayer hN hW, h]
    · unfold f_X12_lucky; simp (disch := omega) only [y_lit, y_n1, nI_add, pk_mul, j_lt, j_b1_s, j_b2_s, j_b3_s, j_b0_s, y_bo, y_bo1, y_bo0, y_i0, y_i1, Classical.not_not, nI_clamp, y_ix, y_lt, y_le, y_eq, y_nP, y_nPs, y_ltP, y_ltQ, y_ltPP, y_eqP, y_eqQ, y_eqPP, if_pos, if_neg, ite_true, ite_false, not_true_eq_false, not_false_eq_true, and_true, true_and, and_false, false_and, or_true, true_or, or_false, false_or, ym_isPlayer hM hW, h]
end Z
/-! ===== what was heard ===== -/
def y_sc (s c d : Nat) : Prop := (s = 0 ∧ c = 67 ∧ d = 68) ∨ (s = 1 ∧ c = 69 ∧ d = 70) ∨ (s = 2 ∧ c = 71 ∧ d = 72) ∨ (s = 3 ∧ c = 73 ∧ d = 74)
/-- a slot's row of n numbers of a width -/
def y_ro (σ τ : j_G) (s c d n w : Nat) : Prop := y_sc s c d ∧ n ≤ 60 ∧ w ≤ 3 ∧ σ.1 c 0 = nI n ∧ τ.1 94 s = nI n ∧ σ.1 c 1 = nI w ∧ τ.1 95 s = nI w ∧ ∀ i, i < n → σ.2 d i = τ.2 96 (60 * s + i)
/-- a slot's row of numbers that are told by e -/
def y_hd (σ τ : j_G) (s c d n : Nat) (e : Nat → Nat) : Prop := y_sc s c d ∧ n ≤ 60 ∧ σ.1 c 0 = nI n ∧ τ.1 94 s = nI n ∧ ∀ i, i < n → e i < 1000 ∧ σ.2 d i = lN (e i) ∧ τ.2 96 (60 * s + i) = lN (e i)
theorem y_K.slot {σ τ : j_G} (h : y_K σ τ) (s : Nat) (hs : s < 4) : ∃ c d, y_sc s c d ∧ ((σ.1 c 0 = nP 0 ∧ τ.1 94 s = nP 0) ∨ ∃ n w, y_ro σ τ s c d n w) := by
  have q := h.2.1
  have go : ∀ c d, y_sc s c d → y_sl σ τ s c d → ∃ c d, y_sc s c d ∧ ((σ.1 c 0 = nP 0 ∧ τ.1 94 s = nP 0) ∨ ∃ n w, y_ro σ τ s c d n w) := by
    intro c d hc hl
    refine ⟨c, d, hc, ?_⟩
    rcases hl with hl | ⟨n, w, h1, h2, h3, h4, h5, h6, h7⟩
    · exact Or.inl hl
    · exact Or.inr ⟨n, w, hc, h1, h2, h3, h4, h5, h6, h7⟩
  obtain rfl | rfl | rfl | rfl : s = 0 ∨ s = 1 ∨ s = 2 ∨ s = 3 := by omega
  · exact go 67 68 (Or.inl ⟨rfl, rfl, rfl⟩) q.1
  · exact go 69 70 (Or.inr (Or.inl ⟨rfl, rfl, rfl⟩)) q.2.1
  · exact go 71 72 (Or.inr (Or.inr (Or.inl ⟨rfl, rfl, rfl⟩))) q.2.2.1
  · exact go 73 74 (Or.inr (Or.inr (Or.inr ⟨rfl, rfl, rfl⟩))) q.2.2.2
/-- a number that may be looked at -/
abbrev y_nb (x : Int64) (n : Nat) : Prop := 0 ≤ x.toInt ∧ x.toInt < n
theorem y_nbe {x : Int64} {n : Nat} (h : y_nb x n) : ∃ k, k < n ∧ x = lN k := by
  have h0 : ¬ x < 0 := by
    rw [Int64.lt_iff_toInt_lt, show (0 : Int64).toInt = 0 from by decide]
    have := h.1; omega
  obtain ⟨k, hk, rfl⟩ := pk_lOf h0
  have := h.2
  rw [pk_lT hk] at this
  exact ⟨k, by omega, rfl⟩
theorem y_nbN {k n : Nat} (hk : k < 2 ^ 62) : y_nb (lN k) n ↔ k < n := by
  unfold y_nb; rw [pk_lT (by omega)]; omega
theorem y_nb1 {x : Int64} {n : Nat} (hn : n < 2 ^ 31) : (¬ x < (0 : Int64) ∧ ¬ ¬ x < (nI n).toInt64) ↔ y_nb x n := by
  rw [Int64.lt_iff_toInt_lt, Int64.lt_iff_toInt_lt, show (0 : Int64).toInt = 0 from by decide, j_l64, nI_toInt hn]
  unfold y_nb; omega
theorem y_nb2 {x : Int64} {n : Nat} (hn : n < 2 ^ 31) : f_X12_in x (0 : Int64) (nP n).toInt64 = if 0 ≤ x.toInt ∧ x.toInt < n then nI 1 else nI 0 := by
  unfold f_X12_in
  simp only [Int64.lt_iff_toInt_lt, show (0 : Int64).toInt = 0 from by decide, j_l64, y_nPt hn]
  by_cases h : 0 ≤ x.toInt ∧ x.toInt < n
  · rw [if_pos h, if_pos (by omega)]; rfl
  · rw [if_neg h, if_neg (by omega)]; rfl
section C
variable {σ τ : j_G} {b : Nat → Nat} {s c d n w : Nat}
theorem yc_isSlot {x : Int32} : f_X11_isSlot x = if y_rg x 4 then nI 1 else nI 0 := by
  unfold f_X11_isSlot; simp only [y_lit]; simp (disch := omega) only [y_c1]
theorem ym_isSlot {x : Int32} : f_X12_isSlot x = if y_rg x 4 then nI 1 else nI 0 := by
  unfold f_X12_isSlot; simp (disch := omega) only [y_lit, y_n1, nI_add, pk_mul, j_lt, j_b1_s, j_b2_s, j_b3_s, j_b0_s, y_bo, y_bo1, y_bo0, y_i0, y_i1, Classical.not_not, nI_clamp, y_ix, y_lt, y_le, y_eq, y_nP, y_nPs, y_ltP, y_ltQ, y_ltPP, y_eqP, y_eqQ, y_eqPP, if_pos, if_neg, ite_true, ite_false, not_true_eq_false, not_false_eq_true, and_true, true_and, and_false, false_and, or_true, true_or, or_false, false_or, y_lit64, y_in, y_c3]
theorem ym_isHoleL (hM : y_M τ b) (hW : y_W b) (x : Int64) : f_X12_isHole x τ = some (if 0 ≤ x.toInt ∧ x.toInt < y_ho b then nI 1 else nI 0) := by
  have := hW.ho
  unfold f_X12_isHole; rw [ym_holes hM, j_b1_s, show (1 : Int32) = nI 1 from rfl, y_nP, y_nb2 (by omega), y_bo]
theorem ym_isTickL (hM : y_M τ b) (hW : y_W b) (x : Int64) : f_X12_isTick x τ = some (if 0 ≤ x.toInt ∧ x.toInt < b 2 then nI 1 else nI 0) := by
  have := hW.b2
  have e2 := hM.f (j := 2) (by omega)
  unfold f_X12_isTick; rw [show (2 : Int32) = nI 2 from rfl, y_ix (by omega) (by omega), nI_clamp (by omega), e2, show (1 : Int32) = nI 1 from rfl, y_nP, y_nb2 (by omega), y_bo]
theorem ym_num (hr : y_ro σ τ s c d n w) {i : Nat} (hi : i < n) : f_X12_numberAt (nI s) (nI i) τ = some (σ.2 d i) := by
  obtain ⟨hs, hn, hw, h1, h2, h3, h4, h5⟩ := hr
  have s4 : s < 4 := by unfold y_sc at hs; omega
  unfold f_X12_numberAt; simp (disch := omega) only [y_lit, y_n1, nI_add, pk_mul, j_lt, j_b1_s, j_b2_s, j_b3_s, j_b0_s, y_bo, y_bo1, y_bo0, y_i0, y_i1, Classical.not_not, nI_clamp, y_ix, y_lt, y_le, y_eq, y_nP, y_nPs, y_ltP, y_ltQ, y_ltPP, y_eqP, y_eqQ, y_eqPP, if_pos, if_neg, ite_true, ite_false, not_true_eq_false, not_false_eq_true, and_true, true_and, and_false, false_and, or_true, true_or, or_false, false_or]
  rw [h5 i hi]
/-- both look whether all are holes -/
theorem y_below (hr : y_ro σ τ s c d n w) (hN : y_N σ b) (hM : y_M τ b) (hW : y_W b) : (f_X8_isBelow c d (nI (y_ho b)) (nI (y_ho b)) σ = some (nI 0) ∧ p_X12_asksHeard_32 (nI s) τ j_F (nI 0) = some (-2)) ∨ (f_X8_isBelow c d (nI (y_ho b)) (nI (y_ho b)) σ = some (nI 1) ∧ p_X12_asksHeard_32 (nI s) τ j_F (nI 0) = some (nI 0) ∧ ∃ e, y_hd σ τ s c d n e ∧ ∀ i, i < n → e i < y_ho b) := by
  have h4 := hW.ho
  obtain ⟨hs, hn, hw, h1, h2, h3, h4', h5⟩ := id hr
  have s4 : s < 4 := by unfold y_sc at hs; omega
  have key : ∀ m i f, i + m = n → m < f → (p_X8_isBelow_2 c d (nI (y_ho b)) (nI (y_ho b)) σ f (nI i) = some (nI 0) ∧ p_X12_asksHeard_32 (nI s) τ f (nI i) = some (-2)) ∨ (p_X8_isBelow_2 c d (nI (y_ho b)) (nI (y_ho b)) σ f (nI i) = some (nI 1) ∧ p_X12_asksHeard_32 (nI s) τ f (nI i) = some (nI 0) ∧ ∀ j, i ≤ j → j < n → y_nb (σ.2 d j) (y_ho b)) := by
    intro m
    induction m with
    | zero =>
      intro i f h hf
      obtain ⟨f, rfl⟩ := y_pos hf
      refine Or.inr ⟨?_, ?_, fun j _ _ => by omega⟩
      · unfold p_X8_isBelow_2; simp (disch := omega) only [y_lit, y_n1, nI_add, pk_mul, j_lt, j_b1_s, j_b2_s, j_b3_s, j_b0_s, y_bo, y_bo1, y_bo0, y_i0, y_i1, Classical.not_not, nI_clamp, y_ix, y_lt, y_le, y_eq, y_nP, y_nPs, y_ltP, y_ltQ, y_ltPP, y_eqP, y_eqQ, y_eqPP, if_pos, if_neg, ite_true, ite_false, not_true_eq_false, not_false_eq_true, and_true, true_and, and_false, false_and, or_true, true_or, or_false, false_or, h1]
      · unfold p_X12_asksHeard_32; simp (disch := omega) only [y_lit, y_n1, nI_add, pk_mul, j_lt, j_b1_s, j_b2_s, j_b3_s, j_b0_s, y_bo, y_bo1, y_bo0, y_i0, y_i1, Classical.not_not, nI_clamp, y_ix, y_lt, y_le, y_eq, y_nP, y_nPs, y_ltP, y_ltQ, y_ltPP, y_eqP, y_eqQ, y_eqPP, if_pos, if_neg, ite_true, ite_false, not_true_eq_false, not_false_eq_true, and_true, true_and, and_false, false_and, or_true, true_or, or_false, false_or, h2]
    | succ m ih =>
      intro i f h hf
      obtain ⟨f, rfl⟩ := y_pos hf
      have num := ym_num hr (i := i) (by omega)
      have hlt : nI i < nI n := (y_lt (by omega) (by omega)).mpr (by omega)
      have e1 : p_X8_isBelow_2 c d (nI (y_ho b)) (nI (y_ho b)) σ (f + 1) (nI i) = if ¬ σ.2 d i < (0 : Int64) then (if ¬ σ.2 d i < (nI (y_ho b)).toInt64 then some (nI 0) else p_X8_isBelow_2 c d (nI (y_ho b)) (nI (y_ho b)) σ f (nI (i + 1))) else some (nI 0) := by
        rw [p_X8_isBelow_2, h1, if_pos hlt, if_neg (by decide)]
        simp only [j_lt, ite_self]
        rw [y_ix (by omega) (by omega), y_ix (by omega) (by omega), nI_clamp (by omega), show (1 : Int32) = nI 1 from rfl, nI_add]
        rfl
      have e2 : p_X12_asksHeard_32 (nI s) τ (f + 1) (nI i) = if (if 0 ≤ (σ.2 d i).toInt ∧ (σ.2 d i).toInt < y_ho b then nI 1 else nI 0) = nI 0 then some (-2) else p_X12_asksHeard_32 (nI s) τ f (nI (i + 1)) := by
        rw [p_X12_asksHeard_32, y_ix (by omega) (by omega), nI_clamp (by omega), h2, if_pos hlt, num, j_b1_s, ym_isHoleL hM hW, j_b1_s, show (1 : Int32) = nI 1 from rfl, nI_add]
        rfl
      rw [e1, e2]
      have q := y_nb1 (x := σ.2 d i) (n := y_ho b) (by omega)
      by_cases z : y_nb (σ.2 d i) (y_ho b)
      · have z' := q.mpr z
        rw [if_pos z'.1, if_neg z'.2, if_pos (show 0 ≤ (σ.2 d i).toInt ∧ (σ.2 d i).toInt < y_ho b from z), if_neg (show ¬ nI 1 = nI 0 from by decide)]
        rcases ih (i + 1) f (by omega) (by omega) with k | ⟨k1, k2, k3⟩
        · exact Or.inl k
        · refine Or.inr ⟨k1, k2, fun j h1 h2 => ?_⟩
          by_cases e : j = i
          · subst e; exact z
          · exact k3 j (by omega) h2
      · rw [if_neg (show ¬ (0 ≤ (σ.2 d i).toInt ∧ (σ.2 d i).toInt < y_ho b) from z), if_pos rfl]
        refine Or.inl ⟨?_, rfl⟩
        by_cases z1 : ¬ σ.2 d i < (0 : Int64)
        · rw [if_pos z1, if_pos (fun z2 => z (q.mp ⟨z1, fun z3 => z3 z2⟩))]
        · rw [if_neg z1]
  rcases key n 0 j_F (by omega) (y_F (by omega)) with k | ⟨k1, k2, k3⟩
  · exact Or.inl k
  · refine Or.inr ⟨k1, k2, fun i => (σ.2 d i).toInt.toNat, ⟨hs, hn, h1, h2, fun i hi => ?_⟩, fun i hi => ?_⟩
    · obtain ⟨k, hk, e⟩ := y_nbe (k3 i (by omega) hi)
      have e' : (σ.2 d i).toInt.toNat = k := by rw [e, pk_lT (by omega)]; rfl
      refine ⟨by show (σ.2 d i).toInt.toNat < 1000; omega, ?_, ?_⟩
      · show _ = lN (σ.2 d i).toInt.toNat; rw [e', e]
      · show _ = lN (σ.2 d i).toInt.toNat; rw [← h5 i hi, e', e]
    · obtain ⟨k, hk, e⟩ := y_nbe (k3 i (by omega) hi)
      have e' : (σ.2 d i).toInt.toNat = k := by rw [e, pk_lT (by omega)]; rfl
      show (σ.2 d i).toInt.toNat < _; omega
end C
/-- is it a row of holes -/
theorem y_why {σ τ : j_G} {b : Nat → Nat} (hW : y_W b) (hN : y_N σ b) (hM : y_M τ b) (hK : y_K σ τ) (a1 : Int32) : (∃ k : Int32, k < 0 ∧ ¬ k = 0 ∧ f_X11_whyUnheard a1 σ = some k ∧ f_X12_asksHeard a1 τ = some k) ∨ (f_X11_whyUnheard a1 σ = some (nI 0) ∧ f_X12_asksHeard a1 τ = some (nI 0) ∧ 0 < b 9 ∧ ∃ s c d n e, a1 = nI s ∧ y_hd σ τ s c d n e ∧ ∀ i, i < n → e i < y_ho b) := by
  have h4 := hW.ho
  by_cases h : y_rg a1 4
  · by_cases h9 : 0 < b 9
    · obtain ⟨s, hs, rfl⟩ := y_of _ _ h.1 h.2
      obtain ⟨c, d, hc, hk⟩ := hK.slot s hs
      rcases hk with ⟨k1, k2⟩ | ⟨n, w, hr⟩
      · refine Or.inl ⟨-6, by decide, by decide, ?_, ?_⟩
        · unfold f_X11_whyUnheard f_X8_isMade
          rcases hc with ⟨rfl, rfl, rfl⟩ | ⟨rfl, rfl, rfl⟩ | ⟨rfl, rfl, rfl⟩ | ⟨rfl, rfl, rfl⟩
          · simp (disch := omega) only [y_lit, y_n1, nI_add, pk_mul, j_lt, j_b1_s, j_b2_s, j_b3_s, j_b0_s, y_bo, y_bo1, y_bo0, y_i0, y_i1, Classical.not_not, nI_clamp, y_ix, y_lt, y_le, y_eq, y_nP, y_nPs, y_ltP, y_ltQ, y_ltPP, y_eqP, y_eqQ, y_eqPP, if_pos, if_neg, ite_true, ite_false, not_true_eq_false, not_false_eq_true, and_true, true_and, and_false, false_and, or_true, true_or, or_false, false_or, yc_isSlot, y_rn, yc_isTold hN hW, k1]
          · simp (disch := omega) only [y_lit, y_n1, nI_add, pk_mul, j_lt, j_b1_s, j_b2_s, j_b3_s, j_b0_s, y_bo, y_bo1, y_bo0, y_i0, y_i1, Classical.not_not, nI_clamp, y_ix, y_lt, y_le, y_eq, y_nP, y_nPs, y_ltP, y_ltQ, y_ltPP, y_eqP, y_eqQ, y_eqPP, if_pos, if_neg, ite_true, ite_false, not_true_eq_false, not_false_eq_true, and_true, true_and, and_false, false_and, or_true, true_or, or_false, false_or, yc_isSlot, y_rn, yc_isTold hN hW, k1]
          · simp (disch := omega) only [y_lit, y_n1, nI_add, pk_mul, j_lt, j_b1_s, j_b2_s, j_b3_s, j_b0_s, y_bo, y_bo1, y_bo0, y_i0, y_i1, Classical.not_not, nI_clamp, y_ix, y_lt, y_le, y_eq, y_nP, y_nPs, y_ltP, y_ltQ, y_ltPP, y_eqP, y_eqQ, y_eqPP, if_pos, if_neg, ite_true, ite_false, not_true_eq_false, not_false_eq_true, and_true, true_and, and_false, false_and, or_true, true_or, or_false, false_or, yc_isSlot, y_rn, yc_isTold hN hW, k1]
          · simp (disch := omega) only [y_lit, y_n1, nI_add, pk_mul, j_lt, j_b1_s, j_b2_s, j_b3_s, j_b0_s, y_bo, y_bo1, y_bo0, y_i0, y_i1, Classical.not_not, nI_clamp, y_ix, y_lt, y_le, y_eq, y_nP, y_nPs, y_ltP, y_ltQ, y_ltPP, y_eqP, y_eqQ, y_eqPP, if_pos, if_neg, ite_true, ite_false, not_true_eq_false, not_false_eq_true, and_true, true_and, and_false, false_and, or_true, true_or, or_false, false_or, yc_isSlot, y_rn, yc_isTold hN hW, k1]
        · unfold f_X12_asksHeard; simp (disch := omega) only [y_lit, y_n1, nI_add, pk_mul, j_lt, j_b1_s, j_b2_s, j_b3_s, j_b0_s, y_bo, y_bo1, y_bo0, y_i0, y_i1, Classical.not_not, nI_clamp, y_ix, y_lt, y_le, y_eq, y_nP, y_nPs, y_ltP, y_ltQ, y_ltPP, y_eqP, y_eqQ, y_eqPP, if_pos, if_neg, ite_true, ite_false, not_true_eq_false, not_false_eq_true, and_true, true_and, and_false, false_and, or_true, true_or, or_false, false_or, ym_isSlot, y_rn, ym_isBoard hM hW, k2]
      · obtain ⟨_, hn, hw, r1, r2, r3, r4, r5⟩ := id hr
        have cw : f_X11_whyUnheard (nI s) σ = j_b1 (f_X8_isBelow c d (nI (y_ho b)) (nI (y_ho b)) σ) (fun v1 => if ¬ v1 = nI 0 then some (nI 0) else some (-2)) := by
          unfold f_X11_whyUnheard f_X8_isMade
          rcases hc with ⟨rfl, rfl, rfl⟩ | ⟨rfl, rfl, rfl⟩ | ⟨rfl, rfl, rfl⟩ | ⟨rfl, rfl, rfl⟩
          · simp (disch := omega) only [y_lit, y_n1, nI_add, pk_mul, j_lt, j_b1_s, j_b2_s, j_b3_s, j_b0_s, y_bo, y_bo1, y_bo0, y_i0, y_i1, Classical.not_not, nI_clamp, y_ix, y_lt, y_le, y_eq, y_nP, y_nPs, y_ltP, y_ltQ, y_ltPP, y_eqP, y_eqQ, y_eqPP, if_pos, if_neg, ite_true, ite_false, not_true_eq_false, not_false_eq_true, and_true, true_and, and_false, false_and, or_true, true_or, or_false, false_or, yc_isSlot, y_rn, yc_isTold hN hW, r1, yc_holes hN]
          · simp (disch := omega) only [y_lit, y_n1, nI_add, pk_mul, j_lt, j_b1_s, j_b2_s, j_b3_s, j_b0_s, y_bo, y_bo1, y_bo0, y_i0, y_i1, Classical.not_not, nI_clamp, y_ix, y_lt, y_le, y_eq, y_nP, y_nPs, y_ltP, y_ltQ, y_ltPP, y_eqP, y_eqQ, y_eqPP, if_pos, if_neg, ite_true, ite_false, not_true_eq_false, not_false_eq_true, and_true, true_and, and_false, false_and, or_true, true_or, or_false, false_or, yc_isSlot, y_rn, yc_isTold hN hW, r1, yc_holes hN]
          · simp (disch := omega) only [y_lit, y_n1, nI_add, pk_mul, j_lt, j_b1_s, j_b2_s, j_b3_s, j_b0_s, y_bo, y_bo1, y_bo0, y_i0, y_i1, Classical.not_not, nI_clamp, y_ix, y_lt, y_le, y_eq, y_nP, y_nPs, y_ltP, y_ltQ, y_ltPP, y_eqP, y_eqQ, y_eqPP, if_pos, if_neg, ite_true, ite_false, not_true_eq_false, not_false_eq_true, and_true, true_and, and_false, false_and, or_true, true_or, or_false, false_or, yc_isSlot, y_rn, yc_isTold hN hW, r1, yc_holes hN]
          · simp (disch := omega) only [y_lit, y_n1, nI_add, pk_mul, j_lt, j_b1_s, j_b2_s, j_b3_s, j_b0_s, y_bo, y_bo1, y_bo0, y_i0, y_i1, Classical.not_not, nI_clamp, y_ix, y_lt, y_le, y_eq, y_nP, y_nPs, y_ltP, y_ltQ, y_ltPP, y_eqP, y_eqQ, y_eqPP, if_pos, if_neg, ite_true, ite_false, not_true_eq_false, not_false_eq_true, and_true, true_and, and_false, false_and, or_true, true_or, or_false, false_or, yc_isSlot, y_rn, yc_isTold hN hW, r1, yc_holes hN]
        have mw : f_X12_asksHeard (nI s) τ = p_X12_asksHeard_32 (nI s) τ j_F (nI 0) := by
          unfold f_X12_asksHeard; simp (disch := omega) only [y_lit, y_n1, nI_add, pk_mul, j_lt, j_b1_s, j_b2_s, j_b3_s, j_b0_s, y_bo, y_bo1, y_bo0, y_i0, y_i1, Classical.not_not, nI_clamp, y_ix, y_lt, y_le, y_eq, y_nP, y_nPs, y_ltP, y_ltQ, y_ltPP, y_eqP, y_eqQ, y_eqPP, if_pos, if_neg, ite_true, ite_false, not_true_eq_false, not_false_eq_true, and_true, true_and, and_false, false_and, or_true, true_or, or_false, false_or, ym_isSlot, y_rn, ym_isBoard hM hW, r2]
        rcases y_below hr hN hM hW with ⟨q1, q2⟩ | ⟨q1, q2, e, q3, q4⟩
        · refine Or.inl ⟨-2, by decide, by decide, ?_, ?_⟩
          · rw [cw, q1]; rfl
          · rw [mw, q2]
        · refine Or.inr ⟨?_, ?_, h9, s, c, d, n, e, rfl, q3, q4⟩
          · rw [cw, q1]; rfl
          · rw [mw, q2]
    · refine Or.inl ⟨-2, by decide, by decide, ?_, ?_⟩
      · unfold f_X11_whyUnheard; simp (disch := omega) only [y_lit, y_n1, nI_add, pk_mul, j_lt, j_b1_s, j_b2_s, j_b3_s, j_b0_s, y_bo, y_bo1, y_bo0, y_i0, y_i1, Classical.not_not, nI_clamp, y_ix, y_lt, y_le, y_eq, y_nP, y_nPs, y_ltP, y_ltQ, y_ltPP, y_eqP, y_eqQ, y_eqPP, if_pos, if_neg, ite_true, ite_false, not_true_eq_false, not_false_eq_true, and_true, true_and, and_false, false_and, or_true, true_or, or_false, false_or, yc_isSlot, yc_isTold hN hW]
      · unfold f_X12_asksHeard; simp (disch := omega) only [y_lit, y_n1, nI_add, pk_mul, j_lt, j_b1_s, j_b2_s, j_b3_s, j_b0_s, y_bo, y_bo1, y_bo0, y_i0, y_i1, Classical.not_not, nI_clamp, y_ix, y_lt, y_le, y_eq, y_nP, y_nPs, y_ltP, y_ltQ, y_ltPP, y_eqP, y_eqQ, y_eqPP, if_pos, if_neg, ite_true, ite_false, not_true_eq_false, not_false_eq_true, and_true, true_and, and_false, false_and, or_true, true_or, or_false, false_or, ym_isSlot, h, ym_isBoard hM hW]
  · refine Or.inl ⟨-2, by decide, by decide, ?_, ?_⟩
    · unfold f_X11_whyUnheard; simp (disch := omega) only [y_lit, y_n1, nI_add, pk_mul, j_lt, j_b1_s, j_b2_s, j_b3_s, j_b0_s, y_bo, y_bo1, y_bo0, y_i0, y_i1, Classical.not_not, nI_clamp, y_ix, y_lt, y_le, y_eq, y_nP, y_nPs, y_ltP, y_ltQ, y_ltPP, y_eqP, y_eqQ, y_eqPP, if_pos, if_neg, ite_true, ite_false, not_true_eq_false, not_false_eq_true, and_true, true_and, and_false, false_and, or_true, true_or, or_false, false_or, yc_isSlot, h]
    · unfold f_X12_asksHeard; simp (disch := omega) only [y_lit, y_n1, nI_add, pk_mul, j_lt, j_b1_s, j_b2_s, j_b3_s, j_b0_s, y_bo, y_bo1, y_bo0, y_i0, y_i1, Classical.not_not, nI_clamp, y_ix, y_lt, y_le, y_eq, y_nP, y_nPs, y_ltP, y_ltQ, y_ltPP, y_eqP, y_eqQ, y_eqPP, if_pos, if_neg, ite_true, ite_false, not_true_eq_false, not_false_eq_true, and_true, true_and, and_false, false_and, or_true, true_or, or_false, false_or, ym_isSlot, h]
/-! ===== periods, luck, fits, place, next ===== -/
noncomputable def y_ip (e : Nat → Nat) (p : Nat) : Nat → Nat → Nat
  | 0, _ => 1
  | m + 1, i => if e i = e (i - p) then y_ip e p m (i + 1) else 0
noncomputable def y_lp (e : Nat → Nat) (n : Nat) : Nat → Nat → Nat
  | 0, _ => 0
  | m + 1, p => if y_ip e p (n - p) p = 0 then y_lp e n m (p + 1) else p + 1
theorem y_ip_le {e : Nat → Nat} {p : Nat} : ∀ m i, y_ip e p m i ≤ 1 := by
  intro m
  induction m with
  | zero => intro i; exact Nat.le_refl _
  | succ m ih => intro i; unfold y_ip; split; exact ih _; omega
theorem y_lp_le {e : Nat → Nat} {n : Nat} : ∀ m p, y_lp e n m p = 0 ∨ (p < y_lp e n m p ∧ y_lp e n m p ≤ p + m) := by
  intro m
  induction m with
  | zero => intro p; exact Or.inl rfl
  | succ m ih =>
    intro p; unfold y_lp; split
    · have := ih (p + 1); omega
    · omega
noncomputable def y_gt (b e : Nat → Nat) (k : Nat) : Nat → Nat → Nat
  | 0, _ => 1
  | m + 1, i => if e i = y_rd b (k + i) then y_gt b e k m (i + 1) else 0
theorem y_gt_le {b e : Nat → Nat} {k : Nat} : ∀ m i, y_gt b e k m i ≤ 1 := by
  intro m
  induction m with
  | zero => intro i; exact Nat.le_refl _
  | succ m ih => intro i; unfold y_gt; split; exact ih _; omega
section C
variable {σ τ : j_G} {b e : Nat → Nat} {s c d n : Nat}
theorem y_hd.s4 (h : y_hd σ τ s c d n e) : s < 4 := by have := h.1; unfold y_sc at this; omega
theorem ym_numH (h : y_hd σ τ s c d n e) {i : Nat} (hi : i < n) : f_X12_numberAt (nI s) (nI i) τ = some (lN (e i)) := by
  have s4 := h.s4
  have hn := h.2.1
  unfold f_X12_numberAt; simp (disch := omega) only [y_lit, y_n1, nI_add, pk_mul, j_lt, j_b1_s, j_b2_s, j_b3_s, j_b0_s, y_bo, y_bo1, y_bo0, y_i0, y_i1, Classical.not_not, nI_clamp, y_ix, y_lt, y_le, y_eq, y_nP, y_nPs, y_ltP, y_ltQ, y_ltPP, y_eqP, y_eqQ, y_eqPP, if_pos, if_neg, ite_true, ite_false, not_true_eq_false, not_false_eq_true, and_true, true_and, and_false, false_and, or_true, true_or, or_false, false_or]
  rw [(h.2.2.2.2 i hi).2.2]
theorem yc_isPeriod (h : y_hd σ τ s c d n e) {p : Nat} (hp : 0 < p) (hpn : p ≤ n) : f_X8_isPeriod c d (nI p) σ = some (nI (y_ip e p (n - p) p)) := by
  have hn := h.2.1
  have key : ∀ m i f, i + m = n → m < f → p ≤ i → p_X8_isPeriod_2 c d (nI p) σ f (nI i) = some (nI (y_ip e p m i)) := by
    intro m
    induction m with
    | zero =>
      intro i f hh hf hi
      obtain ⟨f, rfl⟩ := y_pos hf
      unfold p_X8_isPeriod_2 y_ip; simp (disch := omega) only [y_lit, y_n1, nI_add, pk_mul, j_lt, j_b1_s, j_b2_s, j_b3_s, j_b0_s, y_bo, y_bo1, y_bo0, y_i0, y_i1, Classical.not_not, nI_clamp, y_ix, y_lt, y_le, y_eq, y_nP, y_nPs, y_ltP, y_ltQ, y_ltPP, y_eqP, y_eqQ, y_eqPP, if_pos, if_neg, ite_true, ite_false, not_true_eq_false, not_false_eq_true, and_true, true_and, and_false, false_and, or_true, true_or, or_false, false_or, h.2.2.1]
    | succ m ih =>
      intro i f hh hf hi
      obtain ⟨f, rfl⟩ := y_pos hf
      have e1 := h.2.2.2.2 i (by omega)
      have e2 := h.2.2.2.2 (i - p) (by omega)
      unfold p_X8_isPeriod_2 y_ip; simp (disch := omega) only [y_lit, y_n1, nI_add, pk_mul, j_lt, j_b1_s, j_b2_s, j_b3_s, j_b0_s, y_bo, y_bo1, y_bo0, y_i0, y_i1, Classical.not_not, nI_clamp, y_ix, y_lt, y_le, y_eq, y_nP, y_nPs, y_ltP, y_ltQ, y_ltPP, y_eqP, y_eqQ, y_eqPP, if_pos, if_neg, ite_true, ite_false, not_true_eq_false, not_false_eq_true, and_true, true_and, and_false, false_and, or_true, true_or, or_false, false_or, h.2.2.1, pk_sub, e1.2.1, e2.2.1, pk_lEQ]
      by_cases q : e i = e (i - p)
      · simp (disch := omega) only [y_lit, y_n1, nI_add, pk_mul, j_lt, j_b1_s, j_b2_s, j_b3_s, j_b0_s, y_bo, y_bo1, y_bo0, y_i0, y_i1, Classical.not_not, nI_clamp, y_ix, y_lt, y_le, y_eq, y_nP, y_nPs, y_ltP, y_ltQ, y_ltPP, y_eqP, y_eqQ, y_eqPP, if_pos, if_neg, ite_true, ite_false, not_true_eq_false, not_false_eq_true, and_true, true_and, and_false, false_and, or_true, true_or, or_false, false_or]; exact ih (i + 1) f (by omega) (by omega) (by omega)
      · simp (disch := omega) only [y_lit, y_n1, nI_add, pk_mul, j_lt, j_b1_s, j_b2_s, j_b3_s, j_b0_s, y_bo, y_bo1, y_bo0, y_i0, y_i1, Classical.not_not, nI_clamp, y_ix, y_lt, y_le, y_eq, y_nP, y_nPs, y_ltP, y_ltQ, y_ltPP, y_eqP, y_eqQ, y_eqPP, if_pos, if_neg, ite_true, ite_false, not_true_eq_false, not_false_eq_true, and_true, true_and, and_false, false_and, or_true, true_or, or_false, false_or]
  unfold f_X8_isPeriod
  exact key (n - p) p j_F (by omega) (y_F (by omega)) (by omega)
theorem ym_isPeriod (h : y_hd σ τ s c d n e) {p : Nat} (hp : 0 < p) (hpn : p ≤ n) : f_X12_isPeriod (nI s) (nI p) τ = some (nI (y_ip e p (n - p) p)) := by
  have hn := h.2.1
  have s4 := h.s4
  have key : ∀ m i f, i + m = n → m < f → p ≤ i → p_X12_isPeriod_2 (nI s) (nI p) τ f (nI i) = some (nI (y_ip e p m i)) := by
    intro m
    induction m with
    | zero =>
      intro i f hh hf hi
      obtain ⟨f, rfl⟩ := y_pos hf
      unfold p_X12_isPeriod_2 y_ip; simp (disch := omega) only [y_lit, y_n1, nI_add, pk_mul, j_lt, j_b1_s, j_b2_s, j_b3_s, j_b0_s, y_bo, y_bo1, y_bo0, y_i0, y_i1, Classical.not_not, nI_clamp, y_ix, y_lt, y_le, y_eq, y_nP, y_nPs, y_ltP, y_ltQ, y_ltPP, y_eqP, y_eqQ, y_eqPP, if_pos, if_neg, ite_true, ite_false, not_true_eq_false, not_false_eq_true, and_true, true_and, and_false, false_and, or_true, true_or, or_false, false_or, h.2.2.2.1]
    | succ m ih =>
      intro i f hh hf hi
      obtain ⟨f, rfl⟩ := y_pos hf
      have e1 := h.2.2.2.2 i (by omega)
      have e2 := h.2.2.2.2 (i - p) (by omega)
      unfold p_X12_isPeriod_2 y_ip; simp (disch := omega) only [y_lit, y_n1, nI_add, pk_mul, j_lt, j_b1_s, j_b2_s, j_b3_s, j_b0_s, y_bo, y_bo1, y_bo0, y_i0, y_i1, Classical.not_not, nI_clamp, y_ix, y_lt, y_le, y_eq, y_nP, y_nPs, y_ltP, y_ltQ, y_ltPP, y_eqP, y_eqQ, y_eqPP, if_pos, if_neg, ite_true, ite_false, not_true_eq_false, not_false_eq_true, and_true, true_and, and_false, false_and, or_true, true_or, or_false, false_or, h.2.2.2.1, pk_sub, ym_numH h, pk_lEQ]
      by_cases q : e i = e (i - p)
      · simp (disch := omega) only [y_lit, y_n1, nI_add, pk_mul, j_lt, j_b1_s, j_b2_s, j_b3_s, j_b0_s, y_bo, y_bo1, y_bo0, y_i0, y_i1, Classical.not_not, nI_clamp, y_ix, y_lt, y_le, y_eq, y_nP, y_nPs, y_ltP, y_ltQ, y_ltPP, y_eqP, y_eqQ, y_eqPP, if_pos, if_neg, ite_true, ite_false, not_true_eq_false, not_false_eq_true, and_true, true_and, and_false, false_and, or_true, true_or, or_false, false_or]; exact ih (i + 1) f (by omega) (by omega) (by omega)
      · simp (disch := omega) only [y_lit, y_n1, nI_add, pk_mul, j_lt, j_b1_s, j_b2_s, j_b3_s, j_b0_s, y_bo, y_bo1, y_bo0, y_i0, y_i1, Classical.not_not, nI_clamp, y_ix, y_lt, y_le, y_eq, y_nP, y_nPs, y_ltP, y_ltQ, y_ltPP, y_eqP, y_eqQ, y_eqPP, if_pos, if_neg, ite_true, ite_false, not_true_eq_false, not_false_eq_true, and_true, true_and, and_false, false_and, or_true, true_or, or_false, false_or]
  unfold f_X12_isPeriod
  exact key (n - p) p j_F (by omega) (y_F (by omega)) (by omega)
theorem yc_lp (h : y_hd σ τ s c d n e) : f_X8_leastPeriod c d σ = some (nP (y_lp e n (n - 1) 1)) := by
  have hn := h.2.1
  have key : ∀ m p f, (p + m = n ∨ (m = 0 ∧ n ≤ p)) → m < f → 0 < p → p < 100 → p_X8_leastPeriod_2 c d σ f (nI p) = some (nP (y_lp e n m p)) := by
    intro m
    induction m with
    | zero =>
      intro p f hh hf hp hp2
      obtain ⟨f, rfl⟩ := y_pos hf
      unfold p_X8_leastPeriod_2 y_lp; simp (disch := omega) only [y_lit, y_n1, nI_add, pk_mul, j_lt, j_b1_s, j_b2_s, j_b3_s, j_b0_s, y_bo, y_bo1, y_bo0, y_i0, y_i1, Classical.not_not, nI_clamp, y_ix, y_lt, y_le, y_eq, y_nP, y_nPs, y_ltP, y_ltQ, y_ltPP, y_eqP, y_eqQ, y_eqPP, if_pos, if_neg, ite_true, ite_false, not_true_eq_false, not_false_eq_true, and_true, true_and, and_false, false_and, or_true, true_or, or_false, false_or, h.2.2.1]
    | succ m ih =>
      intro p f hh hf hp hp2
      obtain ⟨f, rfl⟩ := y_pos hf
      have le := y_ip_le (e := e) (p := p) (n - p) p
      unfold p_X8_leastPeriod_2 y_lp; simp (disch := omega) only [y_lit, y_n1, nI_add, pk_mul, j_lt, j_b1_s, j_b2_s, j_b3_s, j_b0_s, y_bo, y_bo1, y_bo0, y_i0, y_i1, Classical.not_not, nI_clamp, y_ix, y_lt, y_le, y_eq, y_nP, y_nPs, y_ltP, y_ltQ, y_ltPP, y_eqP, y_eqQ, y_eqPP, if_pos, if_neg, ite_true, ite_false, not_true_eq_false, not_false_eq_true, and_true, true_and, and_false, false_and, or_true, true_or, or_false, false_or, h.2.2.1, yc_isPeriod h]
      by_cases q : y_ip e p (n - p) p = 0
      · simp (disch := omega) only [y_lit, y_n1, nI_add, pk_mul, j_lt, j_b1_s, j_b2_s, j_b3_s, j_b0_s, y_bo, y_bo1, y_bo0, y_i0, y_i1, Classical.not_not, nI_clamp, y_ix, y_lt, y_le, y_eq, y_nP, y_nPs, y_ltP, y_ltQ, y_ltPP, y_eqP, y_eqQ, y_eqPP, if_pos, if_neg, ite_true, ite_false, not_true_eq_false, not_false_eq_true, and_true, true_and, and_false, false_and, or_true, true_or, or_false, false_or]; exact ih (p + 1) f (by omega) (by omega) (by omega) (by omega)
      · simp (disch := omega) only [y_lit, y_n1, nI_add, pk_mul, j_lt, j_b1_s, j_b2_s, j_b3_s, j_b0_s, y_bo, y_bo1, y_bo0, y_i0, y_i1, Classical.not_not, nI_clamp, y_ix, y_lt, y_le, y_eq, y_nP, y_nPs, y_ltP, y_ltQ, y_ltPP, y_eqP, y_eqQ, y_eqPP, if_pos, if_neg, ite_true, ite_false, not_true_eq_false, not_false_eq_true, and_true, true_and, and_false, false_and, or_true, true_or, or_false, false_or]
  unfold f_X8_leastPeriod
  rw [show (1 : Int32) = nI 1 from rfl]
  exact key (n - 1) 1 j_F (by omega) (y_F (by omega)) (by omega) (by omega)
theorem ym_lp (h : y_hd σ τ s c d n e) : f_X12_leastPeriod (nI s) τ = some (nP (y_lp e n (n - 1) 1)) := by
  have hn := h.2.1
  have s4 := h.s4
  have key : ∀ m p f, (p + m = n ∨ (m = 0 ∧ n ≤ p)) → m < f → 0 < p → p < 100 → p_X12_leastPeriod_2 (nI s) τ f (nI p) = some (nP (y_lp e n m p)) := by
    intro m
    induction m with
    | zero =>
      intro p f hh hf hp hp2
      obtain ⟨f, rfl⟩ := y_pos hf
      unfold p_X12_leastPeriod_2 y_lp; simp (disch := omega) only [y_lit, y_n1, nI_add, pk_mul, j_lt, j_b1_s, j_b2_s, j_b3_s, j_b0_s, y_bo, y_bo1, y_bo0, y_i0, y_i1, Classical.not_not, nI_clamp, y_ix, y_lt, y_le, y_eq, y_nP, y_nPs, y_ltP, y_ltQ, y_ltPP, y_eqP, y_eqQ, y_eqPP, if_pos, if_neg, ite_true, ite_false, not_true_eq_false, not_false_eq_true, and_true, true_and, and_false, false_and, or_true, true_or, or_false, false_or, h.2.2.2.1]
    | succ m ih =>
      intro p f hh hf hp hp2
      obtain ⟨f, rfl⟩ := y_pos hf
      have le := y_ip_le (e := e) (p := p) (n - p) p
      unfold p_X12_leastPeriod_2 y_lp; simp (disch := omega) only [y_lit, y_n1, nI_add, pk_mul, j_lt, j_b1_s, j_b2_s, j_b3_s, j_b0_s, y_bo, y_bo1, y_bo0, y_i0, y_i1, Classical.not_not, nI_clamp, y_ix, y_lt, y_le, y_eq, y_nP, y_nPs, y_ltP, y_ltQ, y_ltPP, y_eqP, y_eqQ, y_eqPP, if_pos, if_neg, ite_true, ite_false, not_true_eq_false, not_false_eq_true, and_true, true_and, and_false, false_and, or_true, true_or, or_false, false_or, h.2.2.2.1, ym_isPeriod h]
      by_cases q : y_ip e p (n - p) p = 0
      · simp (disch := omega) only [y_lit, y_n1, nI_add, pk_mul, j_lt, j_b1_s, j_b2_s, j_b3_s, j_b0_s, y_bo, y_bo1, y_bo0, y_i0, y_i1, Classical.not_not, nI_clamp, y_ix, y_lt, y_le, y_eq, y_nP, y_nPs, y_ltP, y_ltQ, y_ltPP, y_eqP, y_eqQ, y_eqPP, if_pos, if_neg, ite_true, ite_false, not_true_eq_false, not_false_eq_true, and_true, true_and, and_false, false_and, or_true, true_or, or_false, false_or]; exact ih (p + 1) f (by omega) (by omega) (by omega) (by omega)
      · simp (disch := omega) only [y_lit, y_n1, nI_add, pk_mul, j_lt, j_b1_s, j_b2_s, j_b3_s, j_b0_s, y_bo, y_bo1, y_bo0, y_i0, y_i1, Classical.not_not, nI_clamp, y_ix, y_lt, y_le, y_eq, y_nP, y_nPs, y_ltP, y_ltQ, y_ltPP, y_eqP, y_eqQ, y_eqPP, if_pos, if_neg, ite_true, ite_false, not_true_eq_false, not_false_eq_true, and_true, true_and, and_false, false_and, or_true, true_or, or_false, false_or]
  unfold f_X12_leastPeriod
  rw [show (1 : Int32) = nI 1 from rfl]
  exact key (n - 1) 1 j_F (by omega) (y_F (by omega)) (by omega) (by omega)
theorem yc_pall (h : y_hd σ τ s c d n e) : f_X8_periodsInAll c d σ = some (nI (y_su (fun p => y_ip e p (n - p) p) (n - 1) 1 0)) := by
  have hn := h.2.1
  have key : ∀ m p f v, (p + m = n ∨ (m = 0 ∧ n ≤ p)) → m < f → 0 < p → p < 100 → p_X8_periodsInAll_4 c d σ f (nI v) (nI p) = some (nI (y_su (fun p => y_ip e p (n - p) p) m p v)) := by
    intro m
    induction m with
    | zero =>
      intro p f v hh hf hp hp2
      obtain ⟨f, rfl⟩ := y_pos hf
      unfold p_X8_periodsInAll_4 y_su; simp (disch := omega) only [y_lit, y_n1, nI_add, pk_mul, j_lt, j_b1_s, j_b2_s, j_b3_s, j_b0_s, y_bo, y_bo1, y_bo0, y_i0, y_i1, Classical.not_not, nI_clamp, y_ix, y_lt, y_le, y_eq, y_nP, y_nPs, y_ltP, y_ltQ, y_ltPP, y_eqP, y_eqQ, y_eqPP, if_pos, if_neg, ite_true, ite_false, not_true_eq_false, not_false_eq_true, and_true, true_and, and_false, false_and, or_true, true_or, or_false, false_or, h.2.2.1]
    | succ m ih =>
      intro p f v hh hf hp hp2
      obtain ⟨f, rfl⟩ := y_pos hf
      have le := y_ip_le (e := e) (p := p) (n - p) p
      unfold p_X8_periodsInAll_4 y_su; simp (disch := omega) only [y_lit, y_n1, nI_add, pk_mul, j_lt, j_b1_s, j_b2_s, j_b3_s, j_b0_s, y_bo, y_bo1, y_bo0, y_i0, y_i1, Classical.not_not, nI_clamp, y_ix, y_lt, y_le, y_eq, y_nP, y_nPs, y_ltP, y_ltQ, y_ltPP, y_eqP, y_eqQ, y_eqPP, if_pos, if_neg, ite_true, ite_false, not_true_eq_false, not_false_eq_true, and_true, true_and, and_false, false_and, or_true, true_or, or_false, false_or, h.2.2.1, yc_isPeriod h]
      by_cases q : y_ip e p (n - p) p = 0
      · simp (disch := omega) only [y_lit, y_n1, nI_add, pk_mul, j_lt, j_b1_s, j_b2_s, j_b3_s, j_b0_s, y_bo, y_bo1, y_bo0, y_i0, y_i1, Classical.not_not, nI_clamp, y_ix, y_lt, y_le, y_eq, y_nP, y_nPs, y_ltP, y_ltQ, y_ltPP, y_eqP, y_eqQ, y_eqPP, if_pos, if_neg, ite_true, ite_false, not_true_eq_false, not_false_eq_true, and_true, true_and, and_false, false_and, or_true, true_or, or_false, false_or, q]; exact ih (p + 1) f _ (by omega) (by omega) (by omega) (by omega)
      · have q1 : y_ip e p (n - p) p = 1 := by omega
        simp (disch := omega) only [y_lit, y_n1, nI_add, pk_mul, j_lt, j_b1_s, j_b2_s, j_b3_s, j_b0_s, y_bo, y_bo1, y_bo0, y_i0, y_i1, Classical.not_not, nI_clamp, y_ix, y_lt, y_le, y_eq, y_nP, y_nPs, y_ltP, y_ltQ, y_ltPP, y_eqP, y_eqQ, y_eqPP, if_pos, if_neg, ite_true, ite_false, not_true_eq_false, not_false_eq_true, and_true, true_and, and_false, false_and, or_true, true_or, or_false, false_or, q1]; exact ih (p + 1) f _ (by omega) (by omega) (by omega) (by omega)
  unfold f_X8_periodsInAll
  rw [show (1 : Int32) = nI 1 from rfl, show (0 : Int32) = nI 0 from rfl, key (n - 1) 1 j_F 0 (by omega) (y_F (by omega)) (by omega) (by omega)]
  rfl
theorem ym_pall (h : y_hd σ τ s c d n e) : p_X12_periods_17 (nI s) τ j_F (nI 0) (nI 1) = some (nI (y_su (fun p => y_ip e p (n - p) p) (n - 1) 1 0)) := by
  have hn := h.2.1
  have s4 := h.s4
  have key : ∀ m p f v, (p + m = n ∨ (m = 0 ∧ n ≤ p)) → m < f → 0 < p → p < 100 → p_X12_periods_17 (nI s) τ f (nI v) (nI p) = some (nI (y_su (fun p => y_ip e p (n - p) p) m p v)) := by
    intro m
    induction m with
    | zero =>
      intro p f v hh hf hp hp2
      obtain ⟨f, rfl⟩ := y_pos hf
      unfold p_X12_periods_17 y_su; simp (disch := omega) only [y_lit, y_n1, nI_add, pk_mul, j_lt, j_b1_s, j_b2_s, j_b3_s, j_b0_s, y_bo, y_bo1, y_bo0, y_i0, y_i1, Classical.not_not, nI_clamp, y_ix, y_lt, y_le, y_eq, y_nP, y_nPs, y_ltP, y_ltQ, y_ltPP, y_eqP, y_eqQ, y_eqPP, if_pos, if_neg, ite_true, ite_false, not_true_eq_false, not_false_eq_true, and_true, true_and, and_false, false_and, or_true, true_or, or_false, false_or, h.2.2.2.1]
    | succ m ih =>
      intro p f v hh hf hp hp2
      obtain ⟨f, rfl⟩ := y_pos hf
      have le := y_ip_le (e := e) (p := p) (n - p) p
      unfold p_X12_periods_17 y_su; simp (disch := omega) only [y_lit, y_n1, nI_add, pk_mul, j_lt, j_b1_s, j_b2_s, j_b3_s, j_b0_s, y_bo, y_bo1, y_bo0, y_i0, y_i1, Classical.not_not, nI_clamp, y_ix, y_lt, y_le, y_eq, y_nP, y_nPs, y_ltP, y_ltQ, y_ltPP, y_eqP, y_eqQ, y_eqPP, if_pos, if_neg, ite_true, ite_false, not_true_eq_false, not_false_eq_true, and_true, true_and, and_false, false_and, or_true, true_or, or_false, false_or, h.2.2.2.1, ym_isPeriod h]
      by_cases q : y_ip e p (n - p) p = 0
      · simp (disch := omega) only [y_lit, y_n1, nI_add, pk_mul, j_lt, j_b1_s, j_b2_s, j_b3_s, j_b0_s, y_bo, y_bo1, y_bo0, y_i0, y_i1, Classical.not_not, nI_clamp, y_ix, y_lt, y_le, y_eq, y_nP, y_nPs, y_ltP, y_ltQ, y_ltPP, y_eqP, y_eqQ, y_eqPP, if_pos, if_neg, ite_true, ite_false, not_true_eq_false, not_false_eq_true, and_true, true_and, and_false, false_and, or_true, true_or, or_false, false_or, q]; exact ih (p + 1) f _ (by omega) (by omega) (by omega) (by omega)
      · have q1 : y_ip e p (n - p) p = 1 := by omega
        simp (disch := omega) only [y_lit, y_n1, nI_add, pk_mul, j_lt, j_b1_s, j_b2_s, j_b3_s, j_b0_s, y_bo, y_bo1, y_bo0, y_i0, y_i1, Classical.not_not, nI_clamp, y_ix, y_lt, y_le, y_eq, y_nP, y_nPs, y_ltP, y_ltQ, y_ltPP, y_eqP, y_eqQ, y_eqPP, if_pos, if_neg, ite_true, ite_false, not_true_eq_false, not_false_eq_true, and_true, true_and, and_false, false_and, or_true, true_or, or_false, false_or, q1]; exact ih (p + 1) f _ (by omega) (by omega) (by omega) (by omega)
  exact key (n - 1) 1 j_F 0 (by omega) (y_F (by omega)) (by omega) (by omega)
theorem yc_goesSo (h : y_hd σ τ s c d n e) (hN : y_N σ b) (hW : y_W b) (h5 : 0 < b 5) {k : Nat} (hk : k < 100) : f_X3_goesSo c d (nI k) σ = some (nI (y_gt b e k n 0)) := by
  have hn := h.2.1
  have h4 := hW.ho
  have key : ∀ m i f, i + m = n → m < f → p_X3_goesSo_2 c d (nI k) σ f (nI i) = some (nI (y_gt b e k m i)) := by
    intro m
    induction m with
    | zero =>
      intro i f hh hf
      obtain ⟨f, rfl⟩ := y_pos hf
      unfold p_X3_goesSo_2 y_gt; simp (disch := omega) only [y_lit, y_n1, nI_add, pk_mul, j_lt, j_b1_s, j_b2_s, j_b3_s, j_b0_s, y_bo, y_bo1, y_bo0, y_i0, y_i1, Classical.not_not, nI_clamp, y_ix, y_lt, y_le, y_eq, y_nP, y_nPs, y_ltP, y_ltQ, y_ltPP, y_eqP, y_eqQ, y_eqPP, if_pos, if_neg, ite_true, ite_false, not_true_eq_false, not_false_eq_true, and_true, true_and, and_false, false_and, or_true, true_or, or_false, false_or, h.2.2.1]
    | succ m ih =>
      intro i f hh hf
      obtain ⟨f, rfl⟩ := y_pos hf
      have e1 := h.2.2.2.2 i (by omega)
      have r1 := y_rd_lt hW h5 (k + i)
      unfold p_X3_goesSo_2 y_gt; simp (disch := omega) only [y_lit, y_n1, nI_add, pk_mul, j_lt, j_b1_s, j_b2_s, j_b3_s, j_b0_s, y_bo, y_bo1, y_bo0, y_i0, y_i1, Classical.not_not, nI_clamp, y_ix, y_lt, y_le, y_eq, y_nP, y_nPs, y_ltP, y_ltQ, y_ltPP, y_eqP, y_eqQ, y_eqPP, if_pos, if_neg, ite_true, ite_false, not_true_eq_false, not_false_eq_true, and_true, true_and, and_false, false_and, or_true, true_or, or_false, false_or, h.2.2.1, yc_round hN hW h5, e1.2.1, nI_l, pk_lEQ]
      by_cases q : e i = y_rd b (k + i)
      · simp (disch := omega) only [y_lit, y_n1, nI_add, pk_mul, j_lt, j_b1_s, j_b2_s, j_b3_s, j_b0_s, y_bo, y_bo1, y_bo0, y_i0, y_i1, Classical.not_not, nI_clamp, y_ix, y_lt, y_le, y_eq, y_nP, y_nPs, y_ltP, y_ltQ, y_ltPP, y_eqP, y_eqQ, y_eqPP, if_pos, if_neg, ite_true, ite_false, not_true_eq_false, not_false_eq_true, and_true, true_and, and_false, false_and, or_true, true_or, or_false, false_or]; exact ih (i + 1) f (by omega) (by omega)
      · simp (disch := omega) only [y_lit, y_n1, nI_add, pk_mul, j_lt, j_b1_s, j_b2_s, j_b3_s, j_b0_s, y_bo, y_bo1, y_bo0, y_i0, y_i1, Classical.not_not, nI_clamp, y_ix, y_lt, y_le, y_eq, y_nP, y_nPs, y_ltP, y_ltQ, y_ltPP, y_eqP, y_eqQ, y_eqPP, if_pos, if_neg, ite_true, ite_false, not_true_eq_false, not_false_eq_true, and_true, true_and, and_false, false_and, or_true, true_or, or_false, false_or]
  unfold f_X3_goesSo
  exact key n 0 j_F (by omega) (y_F (by omega))
theorem ym_fitsFrom (h : y_hd σ τ s c d n e) (hM : y_M τ b) (hW : y_W b) (h5 : 0 < b 5) {k : Nat} (hk : k < 100) : f_X12_fitsFrom (nI s) (nI k) τ = some (nI (y_gt b e k n 0)) := by
  have hn := h.2.1
  have h4 := hW.ho
  have s4 := h.s4
  have key : ∀ m i f, i + m = n → m < f → p_X12_fitsFrom_2 (nI s) (nI k) τ f (nI i) = some (nI (y_gt b e k m i)) := by
    intro m
    induction m with
    | zero =>
      intro i f hh hf
      obtain ⟨f, rfl⟩ := y_pos hf
      unfold p_X12_fitsFrom_2 y_gt; simp (disch := omega) only [y_lit, y_n1, nI_add, pk_mul, j_lt, j_b1_s, j_b2_s, j_b3_s, j_b0_s, y_bo, y_bo1, y_bo0, y_i0, y_i1, Classical.not_not, nI_clamp, y_ix, y_lt, y_le, y_eq, y_nP, y_nPs, y_ltP, y_ltQ, y_ltPP, y_eqP, y_eqQ, y_eqPP, if_pos, if_neg, ite_true, ite_false, not_true_eq_false, not_false_eq_true, and_true, true_and, and_false, false_and, or_true, true_or, or_false, false_or, h.2.2.2.1]
    | succ m ih =>
      intro i f hh hf
      obtain ⟨f, rfl⟩ := y_pos hf
      have e1 := h.2.2.2.2 i (by omega)
      have r1 := y_rd_lt hW h5 (k + i)
      unfold p_X12_fitsFrom_2 y_gt; simp (disch := omega) only [y_lit, y_n1, nI_add, pk_mul, j_lt, j_b1_s, j_b2_s, j_b3_s, j_b0_s, y_bo, y_bo1, y_bo0, y_i0, y_i1, Classical.not_not, nI_clamp, y_ix, y_lt, y_le, y_eq, y_nP, y_nPs, y_ltP, y_ltQ, y_ltPP, y_eqP, y_eqQ, y_eqPP, if_pos, if_neg, ite_true, ite_false, not_true_eq_false, not_false_eq_true, and_true, true_and, and_false, false_and, or_true, true_or, or_false, false_or, h.2.2.2.1, ym_holeAt hM hW h5, ym_numH h, nI_l, pk_lEQ]
      by_cases q : e i = y_rd b (k + i)
      · simp (disch := omega) only [y_lit, y_n1, nI_add, pk_mul, j_lt, j_b1_s, j_b2_s, j_b3_s, j_b0_s, y_bo, y_bo1, y_bo0, y_i0, y_i1, Classical.not_not, nI_clamp, y_ix, y_lt, y_le, y_eq, y_nP, y_nPs, y_ltP, y_ltQ, y_ltPP, y_eqP, y_eqQ, y_eqPP, if_pos, if_neg, ite_true, ite_false, not_true_eq_false, not_false_eq_true, and_true, true_and, and_false, false_and, or_true, true_or, or_false, false_or]; exact ih (i + 1) f (by omega) (by omega)
      · simp (disch := omega) only [y_lit, y_n1, nI_add, pk_mul, j_lt, j_b1_s, j_b2_s, j_b3_s, j_b0_s, y_bo, y_bo1, y_bo0, y_i0, y_i1, Classical.not_not, nI_clamp, y_ix, y_lt, y_le, y_eq, y_nP, y_nPs, y_ltP, y_ltQ, y_ltPP, y_eqP, y_eqQ, y_eqPP, if_pos, if_neg, ite_true, ite_false, not_true_eq_false, not_false_eq_true, and_true, true_and, and_false, false_and, or_true, true_or, or_false, false_or]
  unfold f_X12_fitsFrom
  exact key n 0 j_F (by omega) (y_F (by omega))
end C
section Z
variable {σ τ : j_G}
theorem z_period (hR : j_Rel σ τ) (a1 : Int32) : ∃ v, f_X11_period a1 σ = some v ∧ f_X12_period a1 τ = some v := by
  obtain ⟨b, hW, hN, hM, hK⟩ := id hR
  rcases y_why hW hN hM hK a1 with ⟨k, k1, k2, k3, k4⟩ | ⟨k3, k4, h9, s, c, d, n, e, rfl, h, he⟩
  · refine ⟨k, ?_, ?_⟩
    · unfold f_X11_period; rw [k3, j_b1_s, if_neg k2]
    · unfold f_X12_period; rw [k4, j_b1_s, if_pos k1]
  · refine ⟨nP (y_lp e n (n - 1) 1), ?_, ?_⟩
    · have q := yc_lp h
      unfold f_X11_period
      rcases h.1 with ⟨rfl, rfl, rfl⟩ | ⟨rfl, rfl, rfl⟩ | ⟨rfl, rfl, rfl⟩ | ⟨rfl, rfl, rfl⟩
      · simp (disch := omega) only [y_lit, y_n1, nI_add, pk_mul, j_lt, j_b1_s, j_b2_s, j_b3_s, j_b0_s, y_bo, y_bo1, y_bo0, y_i0, y_i1, Classical.not_not, nI_clamp, y_ix, y_lt, y_le, y_eq, y_nP, y_nPs, y_ltP, y_ltQ, y_ltPP, y_eqP, y_eqQ, y_eqPP, if_pos, if_neg, ite_true, ite_false, not_true_eq_false, not_false_eq_true, and_true, true_and, and_false, false_and, or_true, true_or, or_false, false_or, k3, q]
      · simp (disch := omega) only [y_lit, y_n1, nI_add, pk_mul, j_lt, j_b1_s, j_b2_s, j_b3_s, j_b0_s, y_bo, y_bo1, y_bo0, y_i0, y_i1, Classical.not_not, nI_clamp, y_ix, y_lt, y_le, y_eq, y_nP, y_nPs, y_ltP, y_ltQ, y_ltPP, y_eqP, y_eqQ, y_eqPP, if_pos, if_neg, ite_true, ite_false, not_true_eq_false, not_false_eq_true, and_true, true_and, and_false, false_and, or_true, true_or, or_false, false_or, k3, q]
      · simp (disch := omega) only [y_lit, y_n1, nI_add, pk_mul, j_lt, j_b1_s, j_b2_s, j_b3_s, j_b0_s, y_bo, y_bo1, y_bo0, y_i0, y_i1, Classical.not_not, nI_clamp, y_ix, y_lt, y_le, y_eq, y_nP, y_nPs, y_ltP, y_ltQ, y_ltPP, y_eqP, y_eqQ, y_eqPP, if_pos, if_neg, ite_true, ite_false, not_true_eq_false, not_false_eq_true, and_true, true_and, and_false, false_and, or_true, true_or, or_false, false_or, k3, q]
      · simp (disch := omega) only [y_lit, y_n1, nI_add, pk_mul, j_lt, j_b1_s, j_b2_s, j_b3_s, j_b0_s, y_bo, y_bo1, y_bo0, y_i0, y_i1, Classical.not_not, nI_clamp, y_ix, y_lt, y_le, y_eq, y_nP, y_nPs, y_ltP, y_ltQ, y_ltPP, y_eqP, y_eqQ, y_eqPP, if_pos, if_neg, ite_true, ite_false, not_true_eq_false, not_false_eq_true, and_true, true_and, and_false, false_and, or_true, true_or, or_false, false_or, k3, q]
    · unfold f_X12_period; simp (disch := omega) only [y_lit, y_n1, nI_add, pk_mul, j_lt, j_b1_s, j_b2_s, j_b3_s, j_b0_s, y_bo, y_bo1, y_bo0, y_i0, y_i1, Classical.not_not, nI_clamp, y_ix, y_lt, y_le, y_eq, y_nP, y_nPs, y_ltP, y_ltQ, y_ltPP, y_eqP, y_eqQ, y_eqPP, if_pos, if_neg, ite_true, ite_false, not_true_eq_false, not_false_eq_true, and_true, true_and, and_false, false_and, or_true, true_or, or_false, false_or, k4, ym_lp h]
theorem z_periods (hR : j_Rel σ τ) (a1 : Int32) : ∃ v, f_X11_periods a1 σ = some v ∧ f_X12_periods a1 τ = some v := by
  obtain ⟨b, hW, hN, hM, hK⟩ := id hR
  rcases y_why hW hN hM hK a1 with ⟨k, k1, k2, k3, k4⟩ | ⟨k3, k4, h9, s, c, d, n, e, rfl, h, he⟩
  · refine ⟨k, ?_, ?_⟩
    · unfold f_X11_periods; rw [k3, j_b1_s, if_neg k2]
    · unfold f_X12_periods; rw [k4, j_b1_s, if_pos k1]
  · refine ⟨nI (y_su (fun p => y_ip e p (n - p) p) (n - 1) 1 0), ?_, ?_⟩
    · have q := yc_pall h
      unfold f_X11_periods
      rcases h.1 with ⟨rfl, rfl, rfl⟩ | ⟨rfl, rfl, rfl⟩ | ⟨rfl, rfl, rfl⟩ | ⟨rfl, rfl, rfl⟩
      · simp (disch := omega) only [y_lit, y_n1, nI_add, pk_mul, j_lt, j_b1_s, j_b2_s, j_b3_s, j_b0_s, y_bo, y_bo1, y_bo0, y_i0, y_i1, Classical.not_not, nI_clamp, y_ix, y_lt, y_le, y_eq, y_nP, y_nPs, y_ltP, y_ltQ, y_ltPP, y_eqP, y_eqQ, y_eqPP, if_pos, if_neg, ite_true, ite_false, not_true_eq_false, not_false_eq_true, and_true, true_and, and_false, false_and, or_true, true_or, or_false, false_or, k3, q]
      · simp (disch := omega) only [y_lit, y_n1, nI_add, pk_mul, j_lt, j_b1_s, j_b2_s, j_b3_s, j_b0_s, y_bo, y_bo1, y_bo0, y_i0, y_i1, Classical.not_not, nI_clamp, y_ix, y_lt, y_le, y_eq, y_nP, y_nPs, y_ltP, y_ltQ, y_ltPP, y_eqP, y_eqQ, y_eqPP, if_pos, if_neg, ite_true, ite_false, not_true_eq_false, not_false_eq_true, and_true, true_and, and_false, false_and, or_true, true_or, or_false, false_or, k3, q]
      · simp (disch := omega) only [y_lit, y_n1, nI_add, pk_mul, j_lt, j_b1_s, j_b2_s, j_b3_s, j_b0_s, y_bo, y_bo1, y_bo0, y_i0, y_i1, Classical.not_not, nI_clamp, y_ix, y_lt, y_le, y_eq, y_nP, y_nPs, y_ltP, y_ltQ, y_ltPP, y_eqP, y_eqQ, y_eqPP, if_pos, if_neg, ite_true, ite_false, not_true_eq_false, not_false_eq_true, and_true, true_and, and_false, false_and, or_true, true_or, or_false, false_or, k3, q]
      · simp (disch := omega) only [y_lit, y_n1, nI_add, pk_mul, j_lt, j_b1_s, j_b2_s, j_b3_s, j_b0_s, y_bo, y_bo1, y_bo0, y_i0, y_i1, Classical.not_not, nI_clamp, y_ix, y_lt, y_le, y_eq, y_nP, y_nPs, y_ltP, y_ltQ, y_ltPP, y_eqP, y_eqQ, y_eqPP, if_pos, if_neg, ite_true, ite_false, not_true_eq_false, not_false_eq_true, and_true, true_and, and_false, false_and, or_true, true_or, or_false, false_or, k3, q]
    · unfold f_X12_periods; simp (disch := omega) only [y_lit, y_n1, nI_add, pk_mul, j_lt, j_b1_s, j_b2_s, j_b3_s, j_b0_s, y_bo, y_bo1, y_bo0, y_i0, y_i1, Classical.not_not, nI_clamp, y_ix, y_lt, y_le, y_eq, y_nP, y_nPs, y_ltP, y_ltQ, y_ltPP, y_eqP, y_eqQ, y_eqPP, if_pos, if_neg, ite_true, ite_false, not_true_eq_false, not_false_eq_true, and_true, true_and, and_false, false_and, or_true, true_or, or_false, false_or, k4, ym_pall h]
theorem z_luck (hR : j_Rel σ τ) (a1 : Int32) : ∃ v, f_X11_luck a1 σ = some v ∧ f_X12_luck a1 τ = some v := by
  obtain ⟨b, hW, hN, hM, hK⟩ := id hR
  rcases y_why hW hN hM hK a1 with ⟨k, k1, k2, k3, k4⟩ | ⟨k3, k4, h9, s, c, d, n, e, rfl, h, he⟩
  · refine ⟨k, ?_, ?_⟩
    · unfold f_X11_luck; rw [k3, j_b1_s, if_pos k2]
    · unfold f_X12_luck; rw [k4, j_b1_s, if_pos k1]
  · have hn := h.2.1
    have s4 := h.s4
    have q := yc_lp h
    have qm := ym_lp h
    have ol := y_op_le hW
    have ll := y_lp_le (e := e) (n := n) (n - 1) 1
    by_cases z : y_lp e n (n - 1) 1 = 0
    · rw [z] at q qm
      refine ⟨-1, ?_, ?_⟩
      · unfold f_X11_luck
        rcases h.1 with ⟨rfl, rfl, rfl⟩ | ⟨rfl, rfl, rfl⟩ | ⟨rfl, rfl, rfl⟩ | ⟨rfl, rfl, rfl⟩
        · simp (disch := omega) only [y_lit, y_n1, nI_add, pk_mul, j_lt, j_b1_s, j_b2_s, j_b3_s, j_b0_s, y_bo, y_bo1, y_bo0, y_i0, y_i1, Classical.not_not, nI_clamp, y_ix, y_lt, y_le, y_eq, y_nP, y_nPs, y_ltP, y_ltQ, y_ltPP, y_eqP, y_eqQ, y_eqPP, if_pos, if_neg, ite_true, ite_false, not_true_eq_false, not_false_eq_true, and_true, true_and, and_false, false_and, or_true, true_or, or_false, false_or, k3, q]
        · simp (disch := omega) only [y_lit, y_n1, nI_add, pk_mul, j_lt, j_b1_s, j_b2_s, j_b3_s, j_b0_s, y_bo, y_bo1, y_bo0, y_i0, y_i1, Classical.not_not, nI_clamp, y_ix, y_lt, y_le, y_eq, y_nP, y_nPs, y_ltP, y_ltQ, y_ltPP, y_eqP, y_eqQ, y_eqPP, if_pos, if_neg, ite_true, ite_false, not_true_eq_false, not_false_eq_true, and_true, true_and, and_false, false_and, or_true, true_or, or_false, false_or, k3, q]
        · simp (disch := omega) only [y_lit, y_n1, nI_add, pk_mul, j_lt, j_b1_s, j_b2_s, j_b3_s, j_b0_s, y_bo, y_bo1, y_bo0, y_i0, y_i1, Classical.not_not, nI_clamp, y_ix, y_lt, y_le, y_eq, y_nP, y_nPs, y_ltP, y_ltQ, y_ltPP, y_eqP, y_eqQ, y_eqPP, if_pos, if_neg, ite_true, ite_false, not_true_eq_false, not_false_eq_true, and_true, true_and, and_false, false_and, or_true, true_or, or_false, false_or, k3, q]
        · simp (disch := omega) only [y_lit, y_n1, nI_add, pk_mul, j_lt, j_b1_s, j_b2_s, j_b3_s, j_b0_s, y_bo, y_bo1, y_bo0, y_i0, y_i1, Classical.not_not, nI_clamp, y_ix, y_lt, y_le, y_eq, y_nP, y_nPs, y_ltP, y_ltQ, y_ltPP, y_eqP, y_eqQ, y_eqPP, if_pos, if_neg, ite_true, ite_false, not_true_eq_false, not_false_eq_true, and_true, true_and, and_false, false_and, or_true, true_or, or_false, false_or, k3, q]
      · unfold f_X12_luck; simp (disch := omega) only [y_lit, y_n1, nI_add, pk_mul, j_lt, j_b1_s, j_b2_s, j_b3_s, j_b0_s, y_bo, y_bo1, y_bo0, y_i0, y_i1, Classical.not_not, nI_clamp, y_ix, y_lt, y_le, y_eq, y_nP, y_nPs, y_ltP, y_ltQ, y_ltPP, y_eqP, y_eqQ, y_eqPP, if_pos, if_neg, ite_true, ite_false, not_true_eq_false, not_false_eq_true, and_true, true_and, and_false, false_and, or_true, true_or, or_false, false_or, k4, qm]
    · obtain ⟨p, hp⟩ : ∃ p, y_lp e n (n - 1) 1 = p + 1 := ⟨y_lp e n (n - 1) 1 - 1, by omega⟩
      rw [hp, y_nPs] at q qm
      have both : ∀ m i f pw, i + m = n → m < f → pw ≤ 1000000000 → ∃ w, w < 2 ^ 62 ∧ p_X11_luck_44 c (nI (y_op b)) σ (f + 1) (lN pw) (nI i) = some (lN w) ∧ p_X12_luck_31 (nI s) τ (f + 1) (lN pw) (nI i) = some (if lN 1000000000 < lN w then nP 0 else (lN w).toInt32) := by
        intro m
        induction m with
        | zero =>
          intro i f pw hh hf hpw
          refine ⟨pw, by omega, ?_, ?_⟩
          · unfold p_X11_luck_44; simp (disch := omega) only [y_lit, y_n1, nI_add, pk_mul, j_lt, j_b1_s, j_b2_s, j_b3_s, j_b0_s, y_bo, y_bo1, y_bo0, y_i0, y_i1, Classical.not_not, nI_clamp, y_ix, y_lt, y_le, y_eq, y_nP, y_nPs, y_ltP, y_ltQ, y_ltPP, y_eqP, y_eqQ, y_eqPP, if_pos, if_neg, ite_true, ite_false, not_true_eq_false, not_false_eq_true, and_true, true_and, and_false, false_and, or_true, true_or, or_false, false_or, h.2.2.1]
          · have : ¬ lN 1000000000 < lN pw := by rw [pk_lLT (by omega) (by omega)]; omega
            rw [if_neg this]
            unfold p_X12_luck_31; simp (disch := omega) only [y_lit, y_n1, nI_add, pk_mul, j_lt, j_b1_s, j_b2_s, j_b3_s, j_b0_s, y_bo, y_bo1, y_bo0, y_i0, y_i1, Classical.not_not, nI_clamp, y_ix, y_lt, y_le, y_eq, y_nP, y_nPs, y_ltP, y_ltQ, y_ltPP, y_eqP, y_eqQ, y_eqPP, if_pos, if_neg, ite_true, ite_false, not_true_eq_false, not_false_eq_true, and_true, true_and, and_false, false_and, or_true, true_or, or_false, false_or, h.2.2.2.1]
        | succ m ih =>
          intro i f pw hh hf hpw
          obtain ⟨f, rfl⟩ := y_pos hf
          have mle : pw * y_op b ≤ 1000000000 * 12 := Nat.mul_le_mul hpw ol
          have hlt : nI i < nI n := (y_lt (by omega) (by omega)).mpr (by omega)
          have n0 : ¬ lN 1000000000 < lN pw := by rw [pk_lLT (by omega) (by omega)]; omega
          have c1 : p_X11_luck_44 c (nI (y_op b)) σ (f + 1 + 1) (lN pw) (nI i) = p_X11_luck_44 c (nI (y_op b)) σ (f + 1) (lN (pw * y_op b)) (nI (i + 1)) := by
            rw [p_X11_luck_44, h.2.2.1, y_litL, if_pos ⟨hlt, n0⟩, nI_l (by omega), show (1 : Int32) = nI 1 from rfl, nI_add]
            simp only [j_lt]
            rw [lN_mul]
          have c2 : p_X12_luck_31 (nI s) τ (f + 1 + 1) (lN pw) (nI i) = if lN 1000000000 < lN (pw * y_op b) then some (nP 0) else p_X12_luck_31 (nI s) τ (f + 1) (lN (pw * y_op b)) (nI (i + 1)) := by
            rw [p_X12_luck_31, y_ix (by omega) (by omega), nI_clamp (by omega), h.2.2.2.1, if_pos hlt, ym_open hM hW, j_b1_s, nI_l (by omega), show (1 : Int32) = nI 1 from rfl, nI_add, lN_mul]
            rfl
          rw [c1, c2]
          by_cases y : pw * y_op b ≤ 1000000000
          · have n1 : ¬ lN 1000000000 < lN (pw * y_op b) := by rw [pk_lLT (by omega) (by omega)]; omega
            rw [if_neg n1]
            exact ih (i + 1) f (pw * y_op b) (by omega) (by omega) y
          · have n1 : lN 1000000000 < lN (pw * y_op b) := by rw [pk_lLT (by omega) (by omega)]; omega
            rw [if_pos n1]
            refine ⟨pw * y_op b, by omega, ?_, ?_⟩
            · rw [p_X11_luck_44, h.2.2.1, y_litL, if_neg (fun z => z.2 n1)]
            · rw [if_pos n1]
      obtain ⟨w, hw, w1, w2⟩ := both (n - p) p 4999 1 (by omega) (by omega) (by omega)
      have w1' : p_X11_luck_44 c (nI (y_op b)) σ j_F (1 : Int64) (nI p) = some (lN w) := w1
      have w2' : p_X12_luck_31 (nI s) τ j_F (1 : Int64) (nI p) = some (if lN 1000000000 < lN w then nP 0 else (lN w).toInt32) := w2
      refine ⟨if lN 1000000000 < lN w then nP 0 else (lN w).toInt32, ?_, ?_⟩
      · have np : ¬ nI p = nP 0 := by rw [y_eqQ (by omega) (by omega)]; omega
        have fin : (if (1000000000 : Int64) < lN w then some (-1) else some (lN w).toInt32) = some (if lN 1000000000 < lN w then nP 0 else (lN w).toInt32) := by
          rw [y_m1, y_litL]
          split <;> rfl
        have o := yc_open hN hW
        unfold f_X11_luck
        rcases h.1 with ⟨rfl, rfl, rfl⟩ | ⟨rfl, rfl, rfl⟩ | ⟨rfl, rfl, rfl⟩ | ⟨rfl, rfl, rfl⟩
        · rw [k3, j_b1_s, if_neg (fun z => z rfl), if_pos (show nI 0 = (0 : Int32) from rfl), q, j_b1_s, y_m1, if_neg np, o]
          simp only [j_lt]; rw [w1', j_b1_s, ← y_m1]; exact fin
        · rw [k3, j_b1_s, if_neg (fun z => z rfl), if_neg (by decide), if_pos (show nI 1 = (1 : Int32) from rfl), q, j_b1_s, y_m1, if_neg np, o]
          simp only [j_lt]; rw [w1', j_b1_s, ← y_m1]; exact fin
        · rw [k3, j_b1_s, if_neg (fun z => z rfl), if_neg (by decide), if_neg (by decide), if_pos (show nI 2 = (2 : Int32) from rfl), q, j_b1_s, y_m1, if_neg np, o]
          simp only [j_lt]; rw [w1', j_b1_s, ← y_m1]; exact fin
        · rw [k3, j_b1_s, if_neg (fun z => z rfl), if_neg (by decide), if_neg (by decide), if_neg (by decide), if_pos (show nI 3 = (3 : Int32) from rfl), q, j_b1_s, y_m1, if_neg np, o]
          simp only [j_lt]; rw [w1', j_b1_s, ← y_m1]; exact fin
      · have np : ¬ nI p = nP 0 := by rw [y_eqQ (by omega) (by omega)]; omega
        unfold f_X12_luck
        rw [k4, j_b1_s, if_neg (by decide), qm, j_b1_s, y_m1, if_neg np]
        exact w2'
end Z
/-! ===== fits, place, next ===== -/
section Z
variable {σ τ : j_G}
theorem z_fits (hR : j_Rel σ τ) (a1 : Int32) : ∃ v, f_X11_fits a1 σ = some v ∧ f_X12_fits a1 τ = some v := by
  obtain ⟨b, hW, hN, hM, hK⟩ := id hR
  have b5 := hW.b5
  rcases y_why hW hN hM hK a1 with ⟨k, k1, k2, k3, k4⟩ | ⟨k3, k4, h9, s, c, d, n, e, rfl, h, he⟩
  · refine ⟨k, ?_, ?_⟩
    · unfold f_X11_fits; rw [k3, j_b1_s, if_pos k2]
    · unfold f_X12_fits; rw [k4, j_b1_s, if_pos k1]
  · have both : ∀ m k f v, k + m = b 5 → m < f → ∃ w, p_X11_fits_17 c d σ f (nI v) (nI k) = some w ∧ p_X12_fits_17 (nI s) τ f (nI v) (nI k) = some w := by
      intro m
      induction m with
      | zero =>
        intro k f v hh hf
        obtain ⟨f, rfl⟩ := y_pos hf
        refine ⟨nI v, ?_, ?_⟩
        · unfold p_X11_fits_17; simp (disch := omega) only [y_lit, y_n1, nI_add, pk_mul, j_lt, j_b1_s, j_b2_s, j_b3_s, j_b0_s, y_bo, y_bo1, y_bo0, y_i0, y_i1, Classical.not_not, nI_clamp, y_ix, y_lt, y_le, y_eq, y_nP, y_nPs, y_ltP, y_ltQ, y_ltPP, y_eqP, y_eqQ, y_eqPP, if_pos, if_neg, ite_true, ite_false, not_true_eq_false, not_false_eq_true, and_true, true_and, and_false, false_and, or_true, true_or, or_false, false_or, hN.d0]
        · unfold p_X12_fits_17; simp (disch := omega) only [y_lit, y_n1, nI_add, pk_mul, j_lt, j_b1_s, j_b2_s, j_b3_s, j_b0_s, y_bo, y_bo1, y_bo0, y_i0, y_i1, Classical.not_not, nI_clamp, y_ix, y_lt, y_le, y_eq, y_nP, y_nPs, y_ltP, y_ltQ, y_ltPP, y_eqP, y_eqQ, y_eqPP, if_pos, if_neg, ite_true, ite_false, not_true_eq_false, not_false_eq_true, and_true, true_and, and_false, false_and, or_true, true_or, or_false, false_or, hM.f]
      | succ m ih =>
        intro k f v hh hf
        obtain ⟨f, rfl⟩ := y_pos hf
        have h5 : 0 < b 5 := by omega
        have le := y_gt_le (b := b) (e := e) (k := k) n 0
        obtain ⟨w, w1, w2⟩ := ih (k + 1) f (v + y_gt b e k n 0) (by omega) (by omega)
        refine ⟨w, ?_, ?_⟩
        · unfold p_X11_fits_17; simp (disch := omega) only [y_lit, y_n1, nI_add, pk_mul, j_lt, j_b1_s, j_b2_s, j_b3_s, j_b0_s, y_bo, y_bo1, y_bo0, y_i0, y_i1, Classical.not_not, nI_clamp, y_ix, y_lt, y_le, y_eq, y_nP, y_nPs, y_ltP, y_ltQ, y_ltPP, y_eqP, y_eqQ, y_eqPP, if_pos, if_neg, ite_true, ite_false, not_true_eq_false, not_false_eq_true, and_true, true_and, and_false, false_and, or_true, true_or, or_false, false_or, hN.d0, yc_goesSo h hN hW h5]
          by_cases q : y_gt b e k n 0 = 0
          · rw [q] at w1; simp (disch := omega) only [y_lit, y_n1, nI_add, pk_mul, j_lt, j_b1_s, j_b2_s, j_b3_s, j_b0_s, y_bo, y_bo1, y_bo0, y_i0, y_i1, Classical.not_not, nI_clamp, y_ix, y_lt, y_le, y_eq, y_nP, y_nPs, y_ltP, y_ltQ, y_ltPP, y_eqP, y_eqQ, y_eqPP, if_pos, if_neg, ite_true, ite_false, not_true_eq_false, not_false_eq_true, and_true, true_and, and_false, false_and, or_true, true_or, or_false, false_or]; exact w1
          · have q1 : y_gt b e k n 0 = 1 := by omega
            rw [q1] at w1; simp (disch := omega) only [y_lit, y_n1, nI_add, pk_mul, j_lt, j_b1_s, j_b2_s, j_b3_s, j_b0_s, y_bo, y_bo1, y_bo0, y_i0, y_i1, Classical.not_not, nI_clamp, y_ix, y_lt, y_le, y_eq, y_nP, y_nPs, y_ltP, y_ltQ, y_ltPP, y_eqP, y_eqQ, y_eqPP, if_pos, if_neg, ite_true, ite_false, not_true_eq_false, not_false_eq_true, and_true, true_and, and_false, false_and, or_true, true_or, or_false, false_or]; exact w1
        · unfold p_X12_fits_17; simp (disch := omega) only [y_lit, y_n1, nI_add, pk_mul, j_lt, j_b1_s, j_b2_s, j_b3_s, j_b0_s, y_bo, y_bo1, y_bo0, y_i0, y_i1, Classical.not_not, nI_clamp, y_ix, y_lt, y_le, y_eq, y_nP, y_nPs, y_ltP, y_ltQ, y_ltPP, y_eqP, y_eqQ, y_eqPP, if_pos, if_neg, ite_true, ite_false, not_true_eq_false, not_false_eq_true, and_true, true_and, and_false, false_and, or_true, true_or, or_false, false_or, hM.f, ym_fitsFrom h hM hW h5]
          by_cases q : y_gt b e k n 0 = 0
          · rw [q] at w2; simp (disch := omega) only [y_lit, y_n1, nI_add, pk_mul, j_lt, j_b1_s, j_b2_s, j_b3_s, j_b0_s, y_bo, y_bo1, y_bo0, y_i0, y_i1, Classical.not_not, nI_clamp, y_ix, y_lt, y_le, y_eq, y_nP, y_nPs, y_ltP, y_ltQ, y_ltPP, y_eqP, y_eqQ, y_eqPP, if_pos, if_neg, ite_true, ite_false, not_true_eq_false, not_false_eq_true, and_true, true_and, and_false, false_and, or_true, true_or, or_false, false_or]; exact w2
          · have q1 : y_gt b e k n 0 = 1 := by omega
            rw [q1] at w2; simp (disch := omega) only [y_lit, y_n1, nI_add, pk_mul, j_lt, j_b1_s, j_b2_s, j_b3_s, j_b0_s, y_bo, y_bo1, y_bo0, y_i0, y_i1, Classical.not_not, nI_clamp, y_ix, y_lt, y_le, y_eq, y_nP, y_nPs, y_ltP, y_ltQ, y_ltPP, y_eqP, y_eqQ, y_eqPP, if_pos, if_neg, ite_true, ite_false, not_true_eq_false, not_false_eq_true, and_true, true_and, and_false, false_and, or_true, true_or, or_false, false_or]; exact w2
    obtain ⟨w, w1, w2⟩ := both (b 5) 0 j_F 0 (by omega) (y_F (by omega))
    refine ⟨w, ?_, ?_⟩
    · unfold f_X11_fits
      rcases h.1 with ⟨rfl, rfl, rfl⟩ | ⟨rfl, rfl, rfl⟩ | ⟨rfl, rfl, rfl⟩ | ⟨rfl, rfl, rfl⟩
      · simp (disch := omega) only [y_lit, y_n1, nI_add, pk_mul, j_lt, j_b1_s, j_b2_s, j_b3_s, j_b0_s, y_bo, y_bo1, y_bo0, y_i0, y_i1, Classical.not_not, nI_clamp, y_ix, y_lt, y_le, y_eq, y_nP, y_nPs, y_ltP, y_ltQ, y_ltPP, y_eqP, y_eqQ, y_eqPP, if_pos, if_neg, ite_true, ite_false, not_true_eq_false, not_false_eq_true, and_true, true_and, and_false, false_and, or_true, true_or, or_false, false_or, k3, w1]
      · simp (disch := omega) only [y_lit, y_n1, nI_add, pk_mul, j_lt, j_b1_s, j_b2_s, j_b3_s, j_b0_s, y_bo, y_bo1, y_bo0, y_i0, y_i1, Classical.not_not, nI_clamp, y_ix, y_lt, y_le, y_eq, y_nP, y_nPs, y_ltP, y_ltQ, y_ltPP, y_eqP, y_eqQ, y_eqPP, if_pos, if_neg, ite_true, ite_false, not_true_eq_false, not_false_eq_true, and_true, true_and, and_false, false_and, or_true, true_or, or_false, false_or, k3, w1]
      · simp (disch := omega) only [y_lit, y_n1, nI_add, pk_mul, j_lt, j_b1_s, j_b2_s, j_b3_s, j_b0_s, y_bo, y_bo1, y_bo0, y_i0, y_i1, Classical.not_not, nI_clamp, y_ix, y_lt, y_le, y_eq, y_nP, y_nPs, y_ltP, y_ltQ, y_ltPP, y_eqP, y_eqQ, y_eqPP, if_pos, if_neg, ite_true, ite_false, not_true_eq_false, not_false_eq_true, and_true, true_and, and_false, false_and, or_true, true_or, or_false, false_or, k3, w1]
      · simp (disch := omega) only [y_lit, y_n1, nI_add, pk_mul, j_lt, j_b1_s, j_b2_s, j_b3_s, j_b0_s, y_bo, y_bo1, y_bo0, y_i0, y_i1, Classical.not_not, nI_clamp, y_ix, y_lt, y_le, y_eq, y_nP, y_nPs, y_ltP, y_ltQ, y_ltPP, y_eqP, y_eqQ, y_eqPP, if_pos, if_neg, ite_true, ite_false, not_true_eq_false, not_false_eq_true, and_true, true_and, and_false, false_and, or_true, true_or, or_false, false_or, k3, w1]
    · unfold f_X12_fits; simp (disch := omega) only [y_lit, y_n1, nI_add, pk_mul, j_lt, j_b1_s, j_b2_s, j_b3_s, j_b0_s, y_bo, y_bo1, y_bo0, y_i0, y_i1, Classical.not_not, nI_clamp, y_ix, y_lt, y_le, y_eq, y_nP, y_nPs, y_ltP, y_ltQ, y_ltPP, y_eqP, y_eqQ, y_eqPP, if_pos, if_neg, ite_true, ite_false, not_true_eq_false, not_false_eq_true, and_true, true_and, and_false, false_and, or_true, true_or, or_false, false_or, k4, w2]
theorem z_place (hR : j_Rel σ τ) (a1 a2 : Int32) : ∃ v, f_X11_place a1 a2 σ = some v ∧ f_X12_place a1 a2 τ = some v := by
  obtain ⟨b, hW, hN, hM, hK⟩ := id hR
  have b5 := hW.b5
  rcases y_why hW hN hM hK a1 with ⟨k, k1, k2, k3, k4⟩ | ⟨k3, k4, h9, s, c, d, n, e, rfl, h, he⟩
  · refine ⟨k, ?_, ?_⟩
    · unfold f_X11_place; rw [k3, j_b1_s, if_pos k2]
    · unfold f_X12_place; rw [k4, j_b1_s, if_pos k1]
  · have ep : ∀ v, 0 < v → nI v + nP 0 = nI (v - 1) := by
      intro v hv
      obtain ⟨w, rfl⟩ : ∃ w, v = w + 1 := ⟨v - 1, by omega⟩
      exact pk_m1 w
    have done : (∃ w, p_X11_place_18 c d a2 σ j_F (nI 0) (nI 0) = some w ∧ p_X12_place_18 (nI s) τ j_F a2 (nI 0) = some w) → ∃ v, f_X11_place (nI s) a2 σ = some v ∧ f_X12_place (nI s) a2 τ = some v := by
      rintro ⟨w, w1, w2⟩
      refine ⟨w, ?_, ?_⟩
      · unfold f_X11_place
        rcases h.1 with ⟨rfl, rfl, rfl⟩ | ⟨rfl, rfl, rfl⟩ | ⟨rfl, rfl, rfl⟩ | ⟨rfl, rfl, rfl⟩
        · simp (disch := omega) only [y_lit, y_n1, nI_add, pk_mul, j_lt, j_b1_s, j_b2_s, j_b3_s, j_b0_s, y_bo, y_bo1, y_bo0, y_i0, y_i1, Classical.not_not, nI_clamp, y_ix, y_lt, y_le, y_eq, y_nP, y_nPs, y_ltP, y_ltQ, y_ltPP, y_eqP, y_eqQ, y_eqPP, if_pos, if_neg, ite_true, ite_false, not_true_eq_false, not_false_eq_true, and_true, true_and, and_false, false_and, or_true, true_or, or_false, false_or, k3, w1]
        · simp (disch := omega) only [y_lit, y_n1, nI_add, pk_mul, j_lt, j_b1_s, j_b2_s, j_b3_s, j_b0_s, y_bo, y_bo1, y_bo0, y_i0, y_i1, Classical.not_not, nI_clamp, y_ix, y_lt, y_le, y_eq, y_nP, y_nPs, y_ltP, y_ltQ, y_ltPP, y_eqP, y_eqQ, y_eqPP, if_pos, if_neg, ite_true, ite_false, not_true_eq_false, not_false_eq_true, and_true, true_and, and_false, false_and, or_true, true_or, or_false, false_or, k3, w1]
        · simp (disch := omega) only [y_lit, y_n1, nI_add, pk_mul, j_lt, j_b1_s, j_b2_s, j_b3_s, j_b0_s, y_bo, y_bo1, y_bo0, y_i0, y_i1, Classical.not_not, nI_clamp, y_ix, y_lt, y_le, y_eq, y_nP, y_nPs, y_ltP, y_ltQ, y_ltPP, y_eqP, y_eqQ, y_eqPP, if_pos, if_neg, ite_true, ite_false, not_true_eq_false, not_false_eq_true, and_true, true_and, and_false, false_and, or_true, true_or, or_false, false_or, k3, w1]
        · simp (disch := omega) only [y_lit, y_n1, nI_add, pk_mul, j_lt, j_b1_s, j_b2_s, j_b3_s, j_b0_s, y_bo, y_bo1, y_bo0, y_i0, y_i1, Classical.not_not, nI_clamp, y_ix, y_lt, y_le, y_eq, y_nP, y_nPs, y_ltP, y_ltQ, y_ltPP, y_eqP, y_eqQ, y_eqPP, if_pos, if_neg, ite_true, ite_false, not_true_eq_false, not_false_eq_true, and_true, true_and, and_false, false_and, or_true, true_or, or_false, false_or, k3, w1]
      · unfold f_X12_place; simp (disch := omega) only [y_lit, y_n1, nI_add, pk_mul, j_lt, j_b1_s, j_b2_s, j_b3_s, j_b0_s, y_bo, y_bo1, y_bo0, y_i0, y_i1, Classical.not_not, nI_clamp, y_ix, y_lt, y_le, y_eq, y_nP, y_nPs, y_ltP, y_ltQ, y_ltPP, y_eqP, y_eqQ, y_eqPP, if_pos, if_neg, ite_true, ite_false, not_true_eq_false, not_false_eq_true, and_true, true_and, and_false, false_and, or_true, true_or, or_false, false_or, k4, w2]
    by_cases neg : a2 < nI 0
    · refine done ⟨-1, ?_, ?_⟩
      · have key : ∀ m k f v, k + m = b 5 → m < f → v ≤ k → p_X11_place_18 c d a2 σ f (nI v) (nI k) = some (-1) := by
          intro m
          induction m with
          | zero =>
            intro k f v hh hf hv
            obtain ⟨f, rfl⟩ := y_pos hf
            unfold p_X11_place_18; simp (disch := omega) only [y_lit, y_n1, nI_add, pk_mul, j_lt, j_b1_s, j_b2_s, j_b3_s, j_b0_s, y_bo, y_bo1, y_bo0, y_i0, y_i1, Classical.not_not, nI_clamp, y_ix, y_lt, y_le, y_eq, y_nP, y_nPs, y_ltP, y_ltQ, y_ltPP, y_eqP, y_eqQ, y_eqPP, if_pos, if_neg, ite_true, ite_false, not_true_eq_false, not_false_eq_true, and_true, true_and, and_false, false_and, or_true, true_or, or_false, false_or, hN.d0]
          | succ m ih =>
            intro k f v hh hf hv
            obtain ⟨f, rfl⟩ := y_pos hf
            have h5 : 0 < b 5 := by omega
            have le := y_gt_le (b := b) (e := e) (k := k) n 0
            have hne : ¬ nI v = a2 := fun z => by rw [← z] at neg; exact absurd neg (nI_pos (by omega))
            have i1 := ih (k + 1) f v (by omega) (by omega) (by omega)
            have i2 := ih (k + 1) f (v + 1) (by omega) (by omega) (by omega)
            rw [y_m1] at i1 i2
            unfold p_X11_place_18; simp (disch := omega) only [y_lit, y_n1, nI_add, pk_mul, j_lt, j_b1_s, j_b2_s, j_b3_s, j_b0_s, y_bo, y_bo1, y_bo0, y_i0, y_i1, Classical.not_not, nI_clamp, y_ix, y_lt, y_le, y_eq, y_nP, y_nPs, y_ltP, y_ltQ, y_ltPP, y_eqP, y_eqQ, y_eqPP, if_pos, if_neg, ite_true, ite_false, not_true_eq_false, not_false_eq_true, and_true, true_and, and_false, false_and, or_true, true_or, or_false, false_or, hN.d0, yc_goesSo h hN hW h5, hne, i1, i2]
            split <;> rfl
        exact key (b 5) 0 j_F 0 (by omega) (y_F (by omega)) (by omega)
      · rw [show j_F = 4999 + 1 from rfl]
        unfold p_X12_place_18; simp (disch := omega) only [y_lit, y_n1, nI_add, pk_mul, j_lt, j_b1_s, j_b2_s, j_b3_s, j_b0_s, y_bo, y_bo1, y_bo0, y_i0, y_i1, Classical.not_not, nI_clamp, y_ix, y_lt, y_le, y_eq, y_nP, y_nPs, y_ltP, y_ltQ, y_ltPP, y_eqP, y_eqQ, y_eqPP, if_pos, if_neg, ite_true, ite_false, not_true_eq_false, not_false_eq_true, and_true, true_and, and_false, false_and, or_true, true_or, or_false, false_or, hM.f, neg]
    · obtain ⟨z, hz, rfl⟩ := nI_of (x := a2) neg
      refine done ?_
      have both : ∀ m k f v, k + m = b 5 → m < f → v ≤ z → v ≤ k → ∃ w, p_X11_place_18 c d (nI z) σ f (nI v) (nI k) = some w ∧ p_X12_place_18 (nI s) τ f (nI (z - v)) (nI k) = some w := by
        intro m
        induction m with
        | zero =>
          intro k f v hh hf hv hvk
          obtain ⟨f, rfl⟩ := y_pos hf
          refine ⟨-1, ?_, ?_⟩
          · unfold p_X11_place_18; simp (disch := omega) only [y_lit, y_n1, nI_add, pk_mul, j_lt, j_b1_s, j_b2_s, j_b3_s, j_b0_s, y_bo, y_bo1, y_bo0, y_i0, y_i1, Classical.not_not, nI_clamp, y_ix, y_lt, y_le, y_eq, y_nP, y_nPs, y_ltP, y_ltQ, y_ltPP, y_eqP, y_eqQ, y_eqPP, if_pos, if_neg, ite_true, ite_false, not_true_eq_false, not_false_eq_true, and_true, true_and, and_false, false_and, or_true, true_or, or_false, false_or, hN.d0]
          · unfold p_X12_place_18; simp (disch := omega) only [y_lit, y_n1, nI_add, pk_mul, j_lt, j_b1_s, j_b2_s, j_b3_s, j_b0_s, y_bo, y_bo1, y_bo0, y_i0, y_i1, Classical.not_not, nI_clamp, y_ix, y_lt, y_le, y_eq, y_nP, y_nPs, y_ltP, y_ltQ, y_ltPP, y_eqP, y_eqQ, y_eqPP, if_pos, if_neg, ite_true, ite_false, not_true_eq_false, not_false_eq_true, and_true, true_and, and_false, false_and, or_true, true_or, or_false, false_or, hM.f]
        | succ m ih =>
          intro k f v hh hf hv hvk
          obtain ⟨f, rfl⟩ := y_pos hf
          have h5 : 0 < b 5 := by omega
          have le := y_gt_le (b := b) (e := e) (k := k) n 0
          unfold p_X11_place_18 p_X12_place_18; simp (disch := omega) only [y_lit, y_n1, nI_add, pk_mul, j_lt, j_b1_s, j_b2_s, j_b3_s, j_b0_s, y_bo, y_bo1, y_bo0, y_i0, y_i1, Classical.not_not, nI_clamp, y_ix, y_lt, y_le, y_eq, y_nP, y_nPs, y_ltP, y_ltQ, y_ltPP, y_eqP, y_eqQ, y_eqPP, if_pos, if_neg, ite_true, ite_false, not_true_eq_false, not_false_eq_true, and_true, true_and, and_false, false_and, or_true, true_or, or_false, false_or, hN.d0, yc_goesSo h hN hW h5, hM.f, ym_fitsFrom h hM hW h5]
          by_cases q : y_gt b e k n 0 = 0
          · simp (disch := omega) only [y_lit, y_n1, nI_add, pk_mul, j_lt, j_b1_s, j_b2_s, j_b3_s, j_b0_s, y_bo, y_bo1, y_bo0, y_i0, y_i1, Classical.not_not, nI_clamp, y_ix, y_lt, y_le, y_eq, y_nP, y_nPs, y_ltP, y_ltQ, y_ltPP, y_eqP, y_eqQ, y_eqPP, if_pos, if_neg, ite_true, ite_false, not_true_eq_false, not_false_eq_true, and_true, true_and, and_false, false_and, or_true, true_or, or_false, false_or]
            exact ih (k + 1) f v (by omega) (by omega) hv (by omega)
          · simp (disch := omega) only [y_lit, y_n1, nI_add, pk_mul, j_lt, j_b1_s, j_b2_s, j_b3_s, j_b0_s, y_bo, y_bo1, y_bo0, y_i0, y_i1, Classical.not_not, nI_clamp, y_ix, y_lt, y_le, y_eq, y_nP, y_nPs, y_ltP, y_ltQ, y_ltPP, y_eqP, y_eqQ, y_eqPP, if_pos, if_neg, ite_true, ite_false, not_true_eq_false, not_false_eq_true, and_true, true_and, and_false, false_and, or_true, true_or, or_false, false_or]
            by_cases y : v = z
            · simp (disch := omega) only [y_lit, y_n1, nI_add, pk_mul, j_lt, j_b1_s, j_b2_s, j_b3_s, j_b0_s, y_bo, y_bo1, y_bo0, y_i0, y_i1, Classical.not_not, nI_clamp, y_ix, y_lt, y_le, y_eq, y_nP, y_nPs, y_ltP, y_ltQ, y_ltPP, y_eqP, y_eqQ, y_eqPP, if_pos, if_neg, ite_true, ite_false, not_true_eq_false, not_false_eq_true, and_true, true_and, and_false, false_and, or_true, true_or, or_false, false_or]
              exact ⟨nI k, rfl, rfl⟩
            · simp (disch := omega) only [y_lit, y_n1, nI_add, pk_mul, j_lt, j_b1_s, j_b2_s, j_b3_s, j_b0_s, y_bo, y_bo1, y_bo0, y_i0, y_i1, Classical.not_not, nI_clamp, y_ix, y_lt, y_le, y_eq, y_nP, y_nPs, y_ltP, y_ltQ, y_ltPP, y_eqP, y_eqQ, y_eqPP, if_pos, if_neg, ite_true, ite_false, not_true_eq_false, not_false_eq_true, and_true, true_and, and_false, false_and, or_true, true_or, or_false, false_or, ep]
              obtain ⟨w, w1, w2⟩ := ih (k + 1) f (v + 1) (by omega) (by omega) (by omega) (by omega)
              rw [show z - (v + 1) = z - v - 1 from by omega] at w2
              exact ⟨w, w1, w2⟩
      exact both (b 5) 0 j_F 0 (by omega) (y_F (by omega)) (by omega) (by omega)
theorem z_next (hR : j_Rel σ τ) (a1 : Int32) : ∃ v, f_X11_next a1 σ = some v ∧ f_X12_next a1 τ = some v := by
  obtain ⟨b, hW, hN, hM, hK⟩ := id hR
  have b5 := hW.b5
  have h4 := hW.ho
  rcases y_why hW hN hM hK a1 with ⟨k, k1, k2, k3, k4⟩ | ⟨k3, k4, h9, s, c, d, n, e, rfl, h, he⟩
  · refine ⟨k, ?_, ?_⟩
    · unfold f_X11_next; rw [k3, j_b1_s, if_pos k2]
    · unfold f_X12_next; rw [k4, j_b1_s, if_pos k1]
  · have s4 := h.s4
    have hn := h.2.1
    have both : ∀ m k f v, k + m = b 5 → m < f → v ≤ 12 → ∃ w, p_X11_next_17 c d c σ f (nP v) (nI k) = some w ∧ p_X12_next_17 (nI s) τ f (nP v) (nI k) = some w := by
      intro m
      induction m with
      | zero =>
        intro k f v hh hf hv
        obtain ⟨f, rfl⟩ := y_pos hf
        refine ⟨nP v, ?_, ?_⟩
        · unfold p_X11_next_17; simp (disch := omega) only [y_lit, y_n1, nI_add, pk_mul, j_lt, j_b1_s, j_b2_s, j_b3_s, j_b0_s, y_bo, y_bo1, y_bo0, y_i0, y_i1, Classical.not_not, nI_clamp, y_ix, y_lt, y_le, y_eq, y_nP, y_nPs, y_ltP, y_ltQ, y_ltPP, y_eqP, y_eqQ, y_eqPP, if_pos, if_neg, ite_true, ite_false, not_true_eq_false, not_false_eq_true, and_true, true_and, and_false, false_and, or_true, true_or, or_false, false_or, hN.d0]
        · unfold p_X12_next_17; simp (disch := omega) only [y_lit, y_n1, nI_add, pk_mul, j_lt, j_b1_s, j_b2_s, j_b3_s, j_b0_s, y_bo, y_bo1, y_bo0, y_i0, y_i1, Classical.not_not, nI_clamp, y_ix, y_lt, y_le, y_eq, y_nP, y_nPs, y_ltP, y_ltQ, y_ltPP, y_eqP, y_eqQ, y_eqPP, if_pos, if_neg, ite_true, ite_false, not_true_eq_false, not_false_eq_true, and_true, true_and, and_false, false_and, or_true, true_or, or_false, false_or, hM.f]
      | succ m ih =>
        intro k f v hh hf hv
        obtain ⟨f, rfl⟩ := y_pos hf
        have h5 : 0 < b 5 := by omega
        have le := y_gt_le (b := b) (e := e) (k := k) n 0
        have r := y_rd_lt hW h5 (k + n)
        unfold p_X11_next_17 p_X12_next_17; simp (disch := omega) only [y_lit, y_n1, nI_add, pk_mul, j_lt, j_b1_s, j_b2_s, j_b3_s, j_b0_s, y_bo, y_bo1, y_bo0, y_i0, y_i1, Classical.not_not, nI_clamp, y_ix, y_lt, y_le, y_eq, y_nP, y_nPs, y_ltP, y_ltQ, y_ltPP, y_eqP, y_eqQ, y_eqPP, if_pos, if_neg, ite_true, ite_false, not_true_eq_false, not_false_eq_true, and_true, true_and, and_false, false_and, or_true, true_or, or_false, false_or, hN.d0, yc_goesSo h hN hW h5, hM.f, ym_fitsFrom h hM hW h5, h.2.2.1, h.2.2.2.1, yc_round hN hW h5, ym_holeAt hM hW h5]
        by_cases q : y_gt b e k n 0 = 0
        · simp (disch := omega) only [y_lit, y_n1, nI_add, pk_mul, j_lt, j_b1_s, j_b2_s, j_b3_s, j_b0_s, y_bo, y_bo1, y_bo0, y_i0, y_i1, Classical.not_not, nI_clamp, y_ix, y_lt, y_le, y_eq, y_nP, y_nPs, y_ltP, y_ltQ, y_ltPP, y_eqP, y_eqQ, y_eqPP, if_pos, if_neg, ite_true, ite_false, not_true_eq_false, not_false_eq_true, and_true, true_and, and_false, false_and, or_true, true_or, or_false, false_or]
          exact ih (k + 1) f v (by omega) (by omega) hv
        · simp (disch := omega) only [y_lit, y_n1, nI_add, pk_mul, j_lt, j_b1_s, j_b2_s, j_b3_s, j_b0_s, y_bo, y_bo1, y_bo0, y_i0, y_i1, Classical.not_not, nI_clamp, y_ix, y_lt, y_le, y_eq, y_nP, y_nPs, y_ltP, y_ltQ, y_ltPP, y_eqP, y_eqQ, y_eqPP, if_pos, if_neg, ite_true, ite_false, not_true_eq_false, not_false_eq_true, and_true, true_and, and_false, false_and, or_true, true_or, or_false, false_or]
          by_cases y : v = 0
          · obtain ⟨w, w1, w2⟩ := ih (k + 1) f (y_rd b (k + n) + 1) (by omega) (by omega) (by omega)
            rw [y_nPs] at w1 w2
            simp (disch := omega) only [y_lit, y_n1, nI_add, pk_mul, j_lt, j_b1_s, j_b2_s, j_b3_s, j_b0_s, y_bo, y_bo1, y_bo0, y_i0, y_i1, Classical.not_not, nI_clamp, y_ix, y_lt, y_le, y_eq, y_nP, y_nPs, y_ltP, y_ltQ, y_ltPP, y_eqP, y_eqQ, y_eqPP, if_pos, if_neg, ite_true, ite_false, not_true_eq_false, not_false_eq_true, and_true, true_and, and_false, false_and, or_true, true_or, or_false, false_or]
            exact ⟨w, w1, w2⟩
          · by_cases x : v = y_rd b (k + n) + 1
            · obtain ⟨w, w1, w2⟩ := ih (k + 1) f (y_rd b (k + n) + 1) (by omega) (by omega) (by omega)
              rw [y_nPs] at w1 w2
              simp (disch := omega) only [y_lit, y_n1, nI_add, pk_mul, j_lt, j_b1_s, j_b2_s, j_b3_s, j_b0_s, y_bo, y_bo1, y_bo0, y_i0, y_i1, Classical.not_not, nI_clamp, y_ix, y_lt, y_le, y_eq, y_nP, y_nPs, y_ltP, y_ltQ, y_ltPP, y_eqP, y_eqQ, y_eqPP, if_pos, if_neg, ite_true, ite_false, not_true_eq_false, not_false_eq_true, and_true, true_and, and_false, false_and, or_true, true_or, or_false, false_or]
              exact ⟨w, w1, w2⟩
            · simp (disch := omega) only [y_lit, y_n1, nI_add, pk_mul, j_lt, j_b1_s, j_b2_s, j_b3_s, j_b0_s, y_bo, y_bo1, y_bo0, y_i0, y_i1, Classical.not_not, nI_clamp, y_ix, y_lt, y_le, y_eq, y_nP, y_nPs, y_ltP, y_ltQ, y_ltPP, y_eqP, y_eqQ, y_eqPP, if_pos, if_neg, ite_true, ite_false, not_true_eq_false, not_false_eq_true, and_true, true_and, and_false, false_and, or_true, true_or, or_false, false_or]
              exact ⟨nP 0, rfl, rfl⟩
    obtain ⟨w, w1, w2⟩ := both (b 5) 0 j_F 0 (by omega) (y_F (by omega)) (by omega)
    refine ⟨w, ?_, ?_⟩
    · unfold f_X11_next
      rcases h.1 with ⟨rfl, rfl, rfl⟩ | ⟨rfl, rfl, rfl⟩ | ⟨rfl, rfl, rfl⟩ | ⟨rfl, rfl, rfl⟩
      · simp (disch := omega) only [y_lit, y_n1, nI_add, pk_mul, j_lt, j_b1_s, j_b2_s, j_b3_s, j_b0_s, y_bo, y_bo1, y_bo0, y_i0, y_i1, Classical.not_not, nI_clamp, y_ix, y_lt, y_le, y_eq, y_nP, y_nPs, y_ltP, y_ltQ, y_ltPP, y_eqP, y_eqQ, y_eqPP, if_pos, if_neg, ite_true, ite_false, not_true_eq_false, not_false_eq_true, and_true, true_and, and_false, false_and, or_true, true_or, or_false, false_or, k3, w1]
      · simp (disch := omega) only [y_lit, y_n1, nI_add, pk_mul, j_lt, j_b1_s, j_b2_s, j_b3_s, j_b0_s, y_bo, y_bo1, y_bo0, y_i0, y_i1, Classical.not_not, nI_clamp, y_ix, y_lt, y_le, y_eq, y_nP, y_nPs, y_ltP, y_ltQ, y_ltPP, y_eqP, y_eqQ, y_eqPP, if_pos, if_neg, ite_true, ite_false, not_true_eq_false, not_false_eq_true, and_true, true_and, and_false, false_and, or_true, true_or, or_false, false_or, k3, w1]
      · simp (disch := omega) only [y_lit, y_n1, nI_add, pk_mul, j_lt, j_b1_s, j_b2_s, j_b3_s, j_b0_s, y_bo, y_bo1, y_bo0, y_i0, y_i1, Classical.not_not, nI_clamp, y_ix, y_lt, y_le, y_eq, y_nP, y_nPs, y_ltP, y_ltQ, y_ltPP, y_eqP, y_eqQ, y_eqPP, if_pos, if_neg, ite_true, ite_false, not_true_eq_false, not_false_eq_true, and_true, true_and, and_false, false_and, or_true, true_or, or_false, false_or, k3, w1]
      · simp (disch := omega) only [y_lit, y_n1, nI_add, pk_mul, j_lt, j_b1_s, j_b2_s, j_b3_s, j_b0_s, y_bo, y_bo1, y_bo0, y_i0, y_i1, Classical.not_not, nI_clamp, y_ix, y_lt, y_le, y_eq, y_nP, y_nPs, y_ltP, y_ltQ, y_ltPP, y_eqP, y_eqQ, y_eqPP, if_pos, if_neg, ite_true, ite_false, not_true_eq_false, not_false_eq_true, and_true, true_and, and_false, false_and, or_true, true_or, or_false, false_or, k3, w1]
    · unfold f_X12_next; simp (disch := omega) only [y_lit, y_n1, nI_add, pk_mul, j_lt, j_b1_s, j_b2_s, j_b3_s, j_b0_s, y_bo, y_bo1, y_bo0, y_i0, y_i1, Classical.not_not, nI_clamp, y_ix, y_lt, y_le, y_eq, y_nP, y_nPs, y_ltP, y_ltQ, y_ltPP, y_eqP, y_eqQ, y_eqPP, if_pos, if_neg, ite_true, ite_false, not_true_eq_false, not_false_eq_true, and_true, true_and, and_false, false_and, or_true, true_or, or_false, false_or, k4, w2]
end Z
/-! ===== needed, known ===== -/
noncomputable def y_al (b : Nat → Nat) (k l : Nat) : Nat → Nat → Nat
  | 0, i => i
  | m + 1, i => if y_rd b (k + i) = y_rd b (l + i) then y_al b k l m (i + 1) else i
noncomputable def y_A (b : Nat → Nat) (k l : Nat) : Nat := y_al b k l (b 5) 0
theorem y_al_bd {b : Nat → Nat} {k l : Nat} : ∀ m i, i ≤ y_al b k l m i ∧ y_al b k l m i ≤ i + m := by
  intro m
  induction m with
  | zero => intro i; exact ⟨Nat.le_refl _, Nat.le_refl _⟩
  | succ m ih => intro i; unfold y_al; have := ih (i + 1); split <;> omega
theorem y_al_self {b : Nat → Nat} {k : Nat} : ∀ m i, y_al b k k m i = i + m := by
  intro m
  induction m with
  | zero => intro i; rfl
  | succ m ih => intro i; unfold y_al; rw [if_pos rfl, ih]; omega
/-- all the same up to n -/
theorem y_al_ge {b : Nat → Nat} {k l : Nat} : ∀ m i n, n ≤ i + m → i ≤ n → (n ≤ y_al b k l m i ↔ ∀ j, i ≤ j → j < n → y_rd b (k + j) = y_rd b (l + j)) := by
  intro m
  induction m with
  | zero => intro i n h1 h2; exact ⟨fun _ j a c => by omega, fun _ => by unfold y_al; omega⟩
  | succ m ih =>
    intro i n h1 h2
    unfold y_al
    by_cases e : i = n
    · subst e
      refine ⟨fun _ j a c => by omega, fun _ => ?_⟩
      split
      · have := (y_al_bd (b := b) (k := k) (l := l) m (i + 1)).1; omega
      · omega
    · by_cases c : y_rd b (k + i) = y_rd b (l + i)
      · rw [if_pos c, ih (i + 1) n (by omega) (by omega)]
        refine ⟨fun h j a d => ?_, fun h j a d => h j (by omega) d⟩
        by_cases f : j = i
        · subst f; exact c
        · exact h j (by omega) d
      · rw [if_neg c]
        exact ⟨fun h => by omega, fun h => absurd (h i (by omega) (by omega)) c⟩
theorem y_su_one {f : Nat → Nat} : ∀ m i j, i ≤ j → j < i + m → f j ≤ y_su f m i 0 := by
  intro m
  induction m with
  | zero => intro i j h1 h2; omega
  | succ m ih =>
    intro i j h1 h2
    rw [y_su_s]
    by_cases e : j = i
    · subst e; omega
    · have := ih (i + 1) j (by omega) (by omega); omega
theorem y_su_two {f : Nat → Nat} : ∀ m i j k, i ≤ j → j < k → k < i + m → f j + f k ≤ y_su f m i 0 := by
  intro m
  induction m with
  | zero => intro i j k h1 h2 h3; omega
  | succ m ih =>
    intro i j k h1 h2 h3
    rw [y_su_s]
    by_cases e : j = i
    · subst e; have := y_su_one (f := f) m (j + 1) k (by omega) (by omega); omega
    · have := ih (i + 1) j k (by omega) h2 (by omega); omega
theorem y_su_z {f : Nat → Nat} : ∀ m i, (∀ j, i ≤ j → j < i + m → f j = 0) → y_su f m i 0 = 0 := by
  intro m
  induction m with
  | zero => intro i _; rfl
  | succ m ih => intro i h; rw [y_su_s, ih (i + 1) (fun j a c => h j (by omega) (by omega)), h i (by omega) (by omega)]
theorem y_su_k {f : Nat → Nat} {k : Nat} : ∀ m i, i ≤ k → k < i + m → (∀ j, i ≤ j → j < i + m → j ≠ k → f j = 0) → y_su f m i 0 = f k := by
  intro m
  induction m with
  | zero => intro i h1 h2; omega
  | succ m ih =>
    intro i h1 h2 h
    rw [y_su_s]
    by_cases e : i = k
    · subst e; rw [y_su_z m (i + 1) (fun j a c => h j (by omega) (by omega) (by omega))]; omega
    · rw [ih (i + 1) (by omega) (by omega) (fun j a c d => h j (by omega) (by omega) d), h i (by omega) (by omega) e]; omega
noncomputable def y_nd (b : Nat → Nat) (k : Nat) : Nat → Nat → Nat → Nat
  | 0, _, v => v
  | m + 1, l, v => y_nd b k m (l + 1) (if l = k then v else if v < y_A b k l + 1 then y_A b k l + 1 else v)
theorem y_nd_le {b : Nat → Nat} {k n : Nat} : ∀ m l v, (y_nd b k m l v ≤ n ↔ v ≤ n ∧ ∀ o, l ≤ o → o < l + m → o ≠ k → y_A b k o < n) := by
  intro m
  induction m with
  | zero => intro l v; exact ⟨fun h => ⟨h, fun o a c => by omega⟩, fun h => h.1⟩
  | succ m ih =>
    intro l v
    unfold y_nd
    rw [ih]
    constructor
    · rintro ⟨h1, h2⟩
      by_cases e : l = k
      · rw [if_pos e] at h1
        exact ⟨h1, fun o a c d => h2 o (by omega) (by omega) d⟩
      · rw [if_neg e] at h1
        have h3 : v ≤ n ∧ y_A b k l < n := by split at h1 <;> omega
        refine ⟨h3.1, fun o a c d => ?_⟩
        by_cases f : o = l
        · subst f; exact h3.2
        · exact h2 o (by omega) (by omega) d
    · rintro ⟨h1, h2⟩
      refine ⟨?_, fun o a c d => h2 o (by omega) (by omega) d⟩
      by_cases e : l = k
      · rw [if_pos e]; exact h1
      · rw [if_neg e]
        have := h2 l (by omega) (by omega) e
        split <;> omega
noncomputable def y_M0 (b : Nat → Nat) (k : Nat) : Nat := y_nd b k (b 5) 0 0
section C
variable {σ τ : j_G} {b : Nat → Nat} {k l : Nat}
theorem y_M0_le (k : Nat) : y_M0 b k ≤ b 5 + 1 := by
  refine (y_nd_le (b 5) 0 0).mpr ⟨by omega, fun o _ _ _ => ?_⟩
  have := (y_al_bd (b := b) (k := k) (l := o) (b 5) 0).2
  unfold y_A; omega
theorem y_cnt {n : Nat} (hk : k < b 5) (hn : n ≤ b 5) : y_su (fun o => if n ≤ y_A b k o then 1 else 0) (b 5) 0 0 = 1 ↔ y_M0 b k ≤ n := by
  have hkk : y_A b k k = b 5 := by unfold y_A; rw [y_al_self]; omega
  have fk : (fun o => if n ≤ y_A b k o then 1 else 0) k = 1 := by show (if n ≤ y_A b k k then 1 else 0) = 1; rw [hkk, if_pos hn]
  unfold y_M0
  rw [y_nd_le]
  constructor
  · intro h
    refine ⟨by omega, fun o _ ho hne => ?_⟩
    by_cases c : n ≤ y_A b k o
    · exfalso
      have fo : (fun o => if n ≤ y_A b k o then 1 else 0) o = 1 := if_pos c
      rcases Nat.lt_or_gt_of_ne hne with q | q
      · have := y_su_two (f := fun o => if n ≤ y_A b k o then 1 else 0) (b 5) 0 o k (by omega) q (by omega)
        rw [if_pos c, if_pos (show n ≤ y_A b k k by omega)] at this; omega
      · have := y_su_two (f := fun o => if n ≤ y_A b k o then 1 else 0) (b 5) 0 k o (by omega) q (by omega)
        rw [if_pos c, if_pos (show n ≤ y_A b k k by omega)] at this; omega
    · omega
  · rintro ⟨_, h⟩
    rw [y_su_k (k := k) (b 5) 0 (by omega) (by omega) (fun j _ hj hne => if_neg (by have := h j (by omega) hj hne; omega))]
    exact fk
theorem yc_alike (hN : y_N σ b) (hW : y_W b) (h5 : 0 < b 5) (hk : k < 100) (hl : l < 100) : f_X3_alike (nI k) (nI l) σ = some (nI (y_A b k l)) := by
  have b5 := hW.b5
  have h4 := hW.ho
  have key : ∀ m i f, i + m = b 5 → m < f → p_X3_alike_2 (nI k) (nI l) σ f (nI i) = some (nI (y_al b k l m i)) := by
    intro m
    induction m with
    | zero =>
      intro i f hh hf
      obtain ⟨f, rfl⟩ := y_pos hf
      unfold p_X3_alike_2 y_al; simp (disch := omega) only [y_lit, y_n1, nI_add, pk_mul, j_lt, j_b1_s, j_b2_s, j_b3_s, j_b0_s, y_bo, y_bo1, y_bo0, y_i0, y_i1, Classical.not_not, nI_clamp, y_ix, y_lt, y_le, y_eq, y_nP, y_nPs, y_ltP, y_ltQ, y_ltPP, y_eqP, y_eqQ, y_eqPP, if_pos, if_neg, ite_true, ite_false, not_true_eq_false, not_false_eq_true, and_true, true_and, and_false, false_and, or_true, true_or, or_false, false_or, hN.d0]
    | succ m ih =>
      intro i f hh hf
      obtain ⟨f, rfl⟩ := y_pos hf
      have r1 := y_rd_lt hW h5 (k + i)
      have r2 := y_rd_lt hW h5 (l + i)
      unfold p_X3_alike_2 y_al; simp (disch := omega) only [y_lit, y_n1, nI_add, pk_mul, j_lt, j_b1_s, j_b2_s, j_b3_s, j_b0_s, y_bo, y_bo1, y_bo0, y_i0, y_i1, Classical.not_not, nI_clamp, y_ix, y_lt, y_le, y_eq, y_nP, y_nPs, y_ltP, y_ltQ, y_ltPP, y_eqP, y_eqQ, y_eqPP, if_pos, if_neg, ite_true, ite_false, not_true_eq_false, not_false_eq_true, and_true, true_and, and_false, false_and, or_true, true_or, or_false, false_or, hN.d0, yc_round hN hW h5]
      by_cases q : y_rd b (k + i) = y_rd b (l + i)
      · simp (disch := omega) only [y_lit, y_n1, nI_add, pk_mul, j_lt, j_b1_s, j_b2_s, j_b3_s, j_b0_s, y_bo, y_bo1, y_bo0, y_i0, y_i1, Classical.not_not, nI_clamp, y_ix, y_lt, y_le, y_eq, y_nP, y_nPs, y_ltP, y_ltQ, y_ltPP, y_eqP, y_eqQ, y_eqPP, if_pos, if_neg, ite_true, ite_false, not_true_eq_false, not_false_eq_true, and_true, true_and, and_false, false_and, or_true, true_or, or_false, false_or]; exact ih (i + 1) f (by omega) (by omega)
      · simp (disch := omega) only [y_lit, y_n1, nI_add, pk_mul, j_lt, j_b1_s, j_b2_s, j_b3_s, j_b0_s, y_bo, y_bo1, y_bo0, y_i0, y_i1, Classical.not_not, nI_clamp, y_ix, y_lt, y_le, y_eq, y_nP, y_nPs, y_ltP, y_ltQ, y_ltPP, y_eqP, y_eqQ, y_eqPP, if_pos, if_neg, ite_true, ite_false, not_true_eq_false, not_false_eq_true, and_true, true_and, and_false, false_and, or_true, true_or, or_false, false_or]
  unfold f_X3_alike
  rw [show (0 : Int32) = nI 0 from rfl, key (b 5) 0 j_F (by omega) (y_F (by omega))]
  rfl
theorem yc_needed (hN : y_N σ b) (hW : y_W b) (hk : k < b 5) : f_X3_neededFrom (nI k) σ = some (if y_M0 b k ≤ b 5 then nI (y_M0 b k) else nP 0) := by
  have b5 := hW.b5
  have h5 : 0 < b 5 := by omega
  have ml := y_M0_le (b := b) k
  have key : ∀ m l f v, l + m = b 5 → m < f → v ≤ 25 → p_X3_neededFrom_4 (nI k) σ f (nI v) (nI l) = some (nI (y_nd b k m l v)) := by
    intro m
    induction m with
    | zero =>
      intro l f v hh hf hv
      obtain ⟨f, rfl⟩ := y_pos hf
      unfold p_X3_neededFrom_4 y_nd; simp (disch := omega) only [y_lit, y_n1, nI_add, pk_mul, j_lt, j_b1_s, j_b2_s, j_b3_s, j_b0_s, y_bo, y_bo1, y_bo0, y_i0, y_i1, Classical.not_not, nI_clamp, y_ix, y_lt, y_le, y_eq, y_nP, y_nPs, y_ltP, y_ltQ, y_ltPP, y_eqP, y_eqQ, y_eqPP, if_pos, if_neg, ite_true, ite_false, not_true_eq_false, not_false_eq_true, and_true, true_and, and_false, false_and, or_true, true_or, or_false, false_or, hN.d0]
    | succ m ih =>
      intro l f v hh hf hv
      obtain ⟨f, rfl⟩ := y_pos hf
      have al := (y_al_bd (b := b) (k := k) (l := l) (b 5) 0).2
      have al' : y_A b k l ≤ 24 := by unfold y_A; omega
      unfold p_X3_neededFrom_4 y_nd; simp (disch := omega) only [y_lit, y_n1, nI_add, pk_mul, j_lt, j_b1_s, j_b2_s, j_b3_s, j_b0_s, y_bo, y_bo1, y_bo0, y_i0, y_i1, Classical.not_not, nI_clamp, y_ix, y_lt, y_le, y_eq, y_nP, y_nPs, y_ltP, y_ltQ, y_ltPP, y_eqP, y_eqQ, y_eqPP, if_pos, if_neg, ite_true, ite_false, not_true_eq_false, not_false_eq_true, and_true, true_and, and_false, false_and, or_true, true_or, or_false, false_or, hN.d0, yc_alike hN hW h5]
      by_cases q : l = k
      · rw [if_pos q]; simp (disch := omega) only [y_lit, y_n1, nI_add, pk_mul, j_lt, j_b1_s, j_b2_s, j_b3_s, j_b0_s, y_bo, y_bo1, y_bo0, y_i0, y_i1, Classical.not_not, nI_clamp, y_ix, y_lt, y_le, y_eq, y_nP, y_nPs, y_ltP, y_ltQ, y_ltPP, y_eqP, y_eqQ, y_eqPP, if_pos, if_neg, ite_true, ite_false, not_true_eq_false, not_false_eq_true, and_true, true_and, and_false, false_and, or_true, true_or, or_false, false_or]; exact ih (l + 1) f v (by omega) (by omega) hv
      · rw [if_neg q]
        by_cases y : v < y_A b k l + 1
        · simp (disch := omega) only [y_lit, y_n1, nI_add, pk_mul, j_lt, j_b1_s, j_b2_s, j_b3_s, j_b0_s, y_bo, y_bo1, y_bo0, y_i0, y_i1, Classical.not_not, nI_clamp, y_ix, y_lt, y_le, y_eq, y_nP, y_nPs, y_ltP, y_ltQ, y_ltPP, y_eqP, y_eqQ, y_eqPP, if_pos, if_neg, ite_true, ite_false, not_true_eq_false, not_false_eq_true, and_true, true_and, and_false, false_and, or_true, true_or, or_false, false_or]; exact ih (l + 1) f _ (by omega) (by omega) (by omega)
        · simp (disch := omega) only [y_lit, y_n1, nI_add, pk_mul, j_lt, j_b1_s, j_b2_s, j_b3_s, j_b0_s, y_bo, y_bo1, y_bo0, y_i0, y_i1, Classical.not_not, nI_clamp, y_ix, y_lt, y_le, y_eq, y_nP, y_nPs, y_ltP, y_ltQ, y_ltPP, y_eqP, y_eqQ, y_eqPP, if_pos, if_neg, ite_true, ite_false, not_true_eq_false, not_false_eq_true, and_true, true_and, and_false, false_and, or_true, true_or, or_false, false_or]; exact ih (l + 1) f _ (by omega) (by omega) (by omega)
  unfold f_X3_neededFrom
  rw [show (0 : Int32) = nI 0 from rfl, key (b 5) 0 j_F 0 (by omega) (y_F (by omega)) (by omega)]
  rw [show y_nd b k (b 5) 0 0 = y_M0 b k from rfl]
  simp (disch := omega) only [y_lit, y_n1, nI_add, pk_mul, j_lt, j_b1_s, j_b2_s, j_b3_s, j_b0_s, y_bo, y_bo1, y_bo0, y_i0, y_i1, Classical.not_not, nI_clamp, y_ix, y_lt, y_le, y_eq, y_nP, y_nPs, y_ltP, y_ltQ, y_ltPP, y_eqP, y_eqQ, y_eqPP, if_pos, if_neg, ite_true, ite_false, not_true_eq_false, not_false_eq_true, and_true, true_and, and_false, false_and, or_true, true_or, or_false, false_or, hN.d0]
  by_cases c : y_M0 b k ≤ b 5
  · simp (disch := omega) only [y_lit, y_n1, nI_add, pk_mul, j_lt, j_b1_s, j_b2_s, j_b3_s, j_b0_s, y_bo, y_bo1, y_bo0, y_i0, y_i1, Classical.not_not, nI_clamp, y_ix, y_lt, y_le, y_eq, y_nP, y_nPs, y_ltP, y_ltQ, y_ltPP, y_eqP, y_eqQ, y_eqPP, if_pos, if_neg, ite_true, ite_false, not_true_eq_false, not_false_eq_true, and_true, true_and, and_false, false_and, or_true, true_or, or_false, false_or]
  · simp (disch := omega) only [y_lit, y_n1, nI_add, pk_mul, j_lt, j_b1_s, j_b2_s, j_b3_s, j_b0_s, y_bo, y_bo1, y_bo0, y_i0, y_i1, Classical.not_not, nI_clamp, y_ix, y_lt, y_le, y_eq, y_nP, y_nPs, y_ltP, y_ltQ, y_ltPP, y_eqP, y_eqQ, y_eqPP, if_pos, if_neg, ite_true, ite_false, not_true_eq_false, not_false_eq_true, and_true, true_and, and_false, false_and, or_true, true_or, or_false, false_or]
theorem ym_alike (hM : y_M τ b) (hW : y_W b) (h5 : 0 < b 5) (hk : k < 100) (hl : l < 100) {n : Nat} (hn : n ≤ b 5) : f_X12_goesAlike (nI k) (nI l) (nI n) τ = some (nI (if n ≤ y_A b k l then 1 else 0)) := by
  have b5 := hW.b5
  have h4 := hW.ho
  have key : ∀ m i f, i + m = n → m < f → p_X12_goesAlike_3 (nI k) (nI l) (nI n) τ f (nI i) = some (nI (if n ≤ y_al b k l (b 5 - i) i then 1 else 0)) := by
    intro m
    induction m with
    | zero =>
      intro i f hh hf
      obtain ⟨f, rfl⟩ := y_pos hf
      have := (y_al_bd (b := b) (k := k) (l := l) (b 5 - i) i).1
      rw [if_pos (by omega)]
      unfold p_X12_goesAlike_3; simp (disch := omega) only [y_lit, y_n1, nI_add, pk_mul, j_lt, j_b1_s, j_b2_s, j_b3_s, j_b0_s, y_bo, y_bo1, y_bo0, y_i0, y_i1, Classical.not_not, nI_clamp, y_ix, y_lt, y_le, y_eq, y_nP, y_nPs, y_ltP, y_ltQ, y_ltPP, y_eqP, y_eqQ, y_eqPP, if_pos, if_neg, ite_true, ite_false, not_true_eq_false, not_false_eq_true, and_true, true_and, and_false, false_and, or_true, true_or, or_false, false_or]
    | succ m ih =>
      intro i f hh hf
      obtain ⟨f, rfl⟩ := y_pos hf
      have r1 := y_rd_lt hW h5 (k + i)
      have r2 := y_rd_lt hW h5 (l + i)
      obtain ⟨t, ht⟩ : ∃ t, b 5 - i = t + 1 := ⟨b 5 - i - 1, by omega⟩
      rw [ht]
      unfold p_X12_goesAlike_3 y_al; simp (disch := omega) only [y_lit, y_n1, nI_add, pk_mul, j_lt, j_b1_s, j_b2_s, j_b3_s, j_b0_s, y_bo, y_bo1, y_bo0, y_i0, y_i1, Classical.not_not, nI_clamp, y_ix, y_lt, y_le, y_eq, y_nP, y_nPs, y_ltP, y_ltQ, y_ltPP, y_eqP, y_eqQ, y_eqPP, if_pos, if_neg, ite_true, ite_false, not_true_eq_false, not_false_eq_true, and_true, true_and, and_false, false_and, or_true, true_or, or_false, false_or, ym_holeAt hM hW h5]
      by_cases q : y_rd b (k + i) = y_rd b (l + i)
      · rw [if_pos q, if_neg (fun z => z q), ih (i + 1) f (by omega) (by omega), show b 5 - (i + 1) = t from by omega]
      · rw [if_neg q, if_pos q, if_neg (by omega)]
  unfold f_X12_goesAlike
  rw [show (0 : Int32) = nI 0 from rfl, key n 0 j_F (by omega) (y_F (by omega))]
  rfl
theorem ym_needed (hM : y_M τ b) (hW : y_W b) (hk : k < b 5) : f_X12_neededFrom (nI k) τ = some (if y_M0 b k ≤ b 5 then nI (y_M0 b k) else nP 0) := by
  have b5 := hW.b5
  have h5 : 0 < b 5 := by omega
  have ml := y_M0_le (b := b) k
  have cnt : ∀ n, n ≤ b 5 → p_X12_neededFrom_17 (nI k) (nI n) τ j_F (nI 0) (nI 0) = some (nI (y_su (fun o => if n ≤ y_A b k o then 1 else 0) (b 5) 0 0)) := by
    intro n hn
    have key : ∀ m l f v, l + m = b 5 → m < f → p_X12_neededFrom_17 (nI k) (nI n) τ f (nI v) (nI l) = some (nI (y_su (fun o => if n ≤ y_A b k o then 1 else 0) m l v)) := by
      intro m
      induction m with
      | zero =>
        intro l f v hh hf
        obtain ⟨f, rfl⟩ := y_pos hf
        unfold p_X12_neededFrom_17 y_su; simp (disch := omega) only [y_lit, y_n1, nI_add, pk_mul, j_lt, j_b1_s, j_b2_s, j_b3_s, j_b0_s, y_bo, y_bo1, y_bo0, y_i0, y_i1, Classical.not_not, nI_clamp, y_ix, y_lt, y_le, y_eq, y_nP, y_nPs, y_ltP, y_ltQ, y_ltPP, y_eqP, y_eqQ, y_eqPP, if_pos, if_neg, ite_true, ite_false, not_true_eq_false, not_false_eq_true, and_true, true_and, and_false, false_and, or_true, true_or, or_false, false_or, hM.f]
      | succ m ih =>
        intro l f v hh hf
        obtain ⟨f, rfl⟩ := y_pos hf
        unfold p_X12_neededFrom_17 y_su; simp (disch := omega) only [y_lit, y_n1, nI_add, pk_mul, j_lt, j_b1_s, j_b2_s, j_b3_s, j_b0_s, y_bo, y_bo1, y_bo0, y_i0, y_i1, Classical.not_not, nI_clamp, y_ix, y_lt, y_le, y_eq, y_nP, y_nPs, y_ltP, y_ltQ, y_ltPP, y_eqP, y_eqQ, y_eqPP, if_pos, if_neg, ite_true, ite_false, not_true_eq_false, not_false_eq_true, and_true, true_and, and_false, false_and, or_true, true_or, or_false, false_or, hM.f, ym_alike hM hW h5 (show k < 100 by omega) (show l < 100 by omega) hn]
        by_cases c : n ≤ y_A b k l
        · rw [if_pos c]; simp (disch := omega) only [y_lit, y_n1, nI_add, pk_mul, j_lt, j_b1_s, j_b2_s, j_b3_s, j_b0_s, y_bo, y_bo1, y_bo0, y_i0, y_i1, Classical.not_not, nI_clamp, y_ix, y_lt, y_le, y_eq, y_nP, y_nPs, y_ltP, y_ltQ, y_ltPP, y_eqP, y_eqQ, y_eqPP, if_pos, if_neg, ite_true, ite_false, not_true_eq_false, not_false_eq_true, and_true, true_and, and_false, false_and, or_true, true_or, or_false, false_or]; exact ih (l + 1) f _ (by omega) (by omega)
        · rw [if_neg c]; simp (disch := omega) only [y_lit, y_n1, nI_add, pk_mul, j_lt, j_b1_s, j_b2_s, j_b3_s, j_b0_s, y_bo, y_bo1, y_bo0, y_i0, y_i1, Classical.not_not, nI_clamp, y_ix, y_lt, y_le, y_eq, y_nP, y_nPs, y_ltP, y_ltQ, y_ltPP, y_eqP, y_eqQ, y_eqPP, if_pos, if_neg, ite_true, ite_false, not_true_eq_false, not_false_eq_true, and_true, true_and, and_false, false_and, or_true, true_or, or_false, false_or]; exact ih (l + 1) f _ (by omega) (by omega)
    exact key (b 5) 0 j_F 0 (by omega) (y_F (by omega))
  have key : ∀ m n f, n + m = b 5 + 1 → m < f → n ≤ y_M0 b k → p_X12_neededFrom_2 (nI k) τ f (nI n) = some (if y_M0 b k ≤ b 5 then nI (y_M0 b k) else nP 0) := by
    intro m
    induction m with
    | zero =>
      intro n f hh hf hn
      obtain ⟨f, rfl⟩ := y_pos hf
      rw [if_neg (by omega)]
      unfold p_X12_neededFrom_2; simp (disch := omega) only [y_lit, y_n1, nI_add, pk_mul, j_lt, j_b1_s, j_b2_s, j_b3_s, j_b0_s, y_bo, y_bo1, y_bo0, y_i0, y_i1, Classical.not_not, nI_clamp, y_ix, y_lt, y_le, y_eq, y_nP, y_nPs, y_ltP, y_ltQ, y_ltPP, y_eqP, y_eqQ, y_eqPP, if_pos, if_neg, ite_true, ite_false, not_true_eq_false, not_false_eq_true, and_true, true_and, and_false, false_and, or_true, true_or, or_false, false_or, hM.f]
    | succ m ih =>
      intro n f hh hf hn
      obtain ⟨f, rfl⟩ := y_pos hf
      have q := y_cnt (n := n) hk (by omega)
      have sb := y_su_bd (f := fun o => if n ≤ y_A b k o then 1 else 0) (c := 1) (b 5) 0 (fun j _ _ => by split <;> omega)
      unfold p_X12_neededFrom_2; simp (disch := omega) only [y_lit, y_n1, nI_add, pk_mul, j_lt, j_b1_s, j_b2_s, j_b3_s, j_b0_s, y_bo, y_bo1, y_bo0, y_i0, y_i1, Classical.not_not, nI_clamp, y_ix, y_lt, y_le, y_eq, y_nP, y_nPs, y_ltP, y_ltQ, y_ltPP, y_eqP, y_eqQ, y_eqPP, if_pos, if_neg, ite_true, ite_false, not_true_eq_false, not_false_eq_true, and_true, true_and, and_false, false_and, or_true, true_or, or_false, false_or, hM.f, cnt]
      by_cases c : y_M0 b k ≤ n
      · rw [if_pos (q.mpr c), if_pos (by omega), show n = y_M0 b k from by omega]
      · rw [if_neg (fun z => c (q.mp z))]
        exact ih (n + 1) f (by omega) (by omega) (by omega)
  unfold f_X12_neededFrom
  exact key (b 5 + 1) 0 j_F (by omega) (y_F (by omega)) (Nat.zero_le _)
end C
section Z
variable {σ τ : j_G}
theorem z_needed (hR : j_Rel σ τ) (a1 : Int32) : ∃ v, f_X11_needed a1 σ = some v ∧ f_X12_needed a1 τ = some v := by
  obtain ⟨b, hW, hN, hM, hK⟩ := id hR
  have b5 := hW.b5
  by_cases h : y_rg a1 (b 5)
  · obtain ⟨k, hk, rfl⟩ := y_of _ _ h.1 h.2
    refine ⟨if y_M0 b k ≤ b 5 then nI (y_M0 b k) else nP 0, ?_, ?_⟩
    · unfold f_X11_needed; simp (disch := omega) only [y_lit, y_n1, nI_add, pk_mul, j_lt, j_b1_s, j_b2_s, j_b3_s, j_b0_s, y_bo, y_bo1, y_bo0, y_i0, y_i1, Classical.not_not, nI_clamp, y_ix, y_lt, y_le, y_eq, y_nP, y_nPs, y_ltP, y_ltQ, y_ltPP, y_eqP, y_eqQ, y_eqPP, if_pos, if_neg, ite_true, ite_false, not_true_eq_false, not_false_eq_true, and_true, true_and, and_false, false_and, or_true, true_or, or_false, false_or, yc_has hN hW, y_rn, yc_needed hN hW]
    · unfold f_X12_needed; simp (disch := omega) only [y_lit, y_n1, nI_add, pk_mul, j_lt, j_b1_s, j_b2_s, j_b3_s, j_b0_s, y_bo, y_bo1, y_bo0, y_i0, y_i1, Classical.not_not, nI_clamp, y_ix, y_lt, y_le, y_eq, y_nP, y_nPs, y_ltP, y_ltQ, y_ltPP, y_eqP, y_eqQ, y_eqPP, if_pos, if_neg, ite_true, ite_false, not_true_eq_false, not_false_eq_true, and_true, true_and, and_false, false_and, or_true, true_or, or_false, false_or, ym_isComing hM hW, y_rn, ym_needed hM hW]
  · refine ⟨-2, ?_, ?_⟩
    · unfold f_X11_needed; simp (disch := omega) only [y_lit, y_n1, nI_add, pk_mul, j_lt, j_b1_s, j_b2_s, j_b3_s, j_b0_s, y_bo, y_bo1, y_bo0, y_i0, y_i1, Classical.not_not, nI_clamp, y_ix, y_lt, y_le, y_eq, y_nP, y_nPs, y_ltP, y_ltQ, y_ltPP, y_eqP, y_eqQ, y_eqPP, if_pos, if_neg, ite_true, ite_false, not_true_eq_false, not_false_eq_true, and_true, true_and, and_false, false_and, or_true, true_or, or_false, false_or, yc_has hN hW, h]
    · unfold f_X12_needed; simp (disch := omega) only [y_lit, y_n1, nI_add, pk_mul, j_lt, j_b1_s, j_b2_s, j_b3_s, j_b0_s, y_bo, y_bo1, y_bo0, y_i0, y_i1, Classical.not_not, nI_clamp, y_ix, y_lt, y_le, y_eq, y_nP, y_nPs, y_ltP, y_ltQ, y_ltPP, y_eqP, y_eqQ, y_eqPP, if_pos, if_neg, ite_true, ite_false, not_true_eq_false, not_false_eq_true, and_true, true_and, and_false, false_and, or_true, true_or, or_false, false_or, ym_isComing hM hW, h]
theorem z_known (hR : j_Rel σ τ) : ∃ v, f_X11_known σ = some v ∧ f_X12_known τ = some v := by
  obtain ⟨b, hW, hN, hM, hK⟩ := id hR
  have b5 := hW.b5
  by_cases h9 : 0 < b 9
  · have both : ∀ m k f x, k + m = b 5 → m < f → ∃ w, p_X11_known_17 σ f x (nI k) = some w ∧ p_X12_known_14 τ f x (nI k) = some w := by
      intro m
      induction m with
      | zero =>
        intro k f x hh hf
        obtain ⟨f, rfl⟩ := y_pos hf
        refine ⟨x, ?_, ?_⟩
        · unfold p_X11_known_17; simp (disch := omega) only [y_lit, y_n1, nI_add, pk_mul, j_lt, j_b1_s, j_b2_s, j_b3_s, j_b0_s, y_bo, y_bo1, y_bo0, y_i0, y_i1, Classical.not_not, nI_clamp, y_ix, y_lt, y_le, y_eq, y_nP, y_nPs, y_ltP, y_ltQ, y_ltPP, y_eqP, y_eqQ, y_eqPP, if_pos, if_neg, ite_true, ite_false, not_true_eq_false, not_false_eq_true, and_true, true_and, and_false, false_and, or_true, true_or, or_false, false_or, hN.d0]
        · unfold p_X12_known_14; simp (disch := omega) only [y_lit, y_n1, nI_add, pk_mul, j_lt, j_b1_s, j_b2_s, j_b3_s, j_b0_s, y_bo, y_bo1, y_bo0, y_i0, y_i1, Classical.not_not, nI_clamp, y_ix, y_lt, y_le, y_eq, y_nP, y_nPs, y_ltP, y_ltQ, y_ltPP, y_eqP, y_eqQ, y_eqPP, if_pos, if_neg, ite_true, ite_false, not_true_eq_false, not_false_eq_true, and_true, true_and, and_false, false_and, or_true, true_or, or_false, false_or, hM.f]
      | succ m ih =>
        intro k f x hh hf
        obtain ⟨f, rfl⟩ := y_pos hf
        have hlt : nI k < nI (b 5) := (y_lt (by omega) (by omega)).mpr (by omega)
        have e5 := hM.f (j := 5) (by omega)
        have c := yc_needed hN hW (k := k) (by omega)
        have m' := ym_needed hM hW (k := k) (by omega)
        generalize (if y_M0 b k ≤ b 5 then nI (y_M0 b k) else nP 0) = X at *
        have c1 : p_X11_known_17 σ (f + 1) x (nI k) = if X = -1 then some (-1) else p_X11_known_17 σ f (if x < X then X else x) (nI (k + 1)) := by
          rw [p_X11_known_17, hN.d0, if_pos hlt, c, j_b1_s, show (1 : Int32) = nI 1 from rfl, nI_add]
          rfl
        have c2 : p_X12_known_14 τ (f + 1) x (nI k) = if X = -1 then some (-1) else p_X12_known_14 τ f (if x < X then X else x) (nI (k + 1)) := by
          rw [p_X12_known_14, show (5 : Int32) = nI 5 from rfl, y_ix (by omega) (by omega), nI_clamp (by omega), e5, if_pos hlt, m', j_b1_s, show (1 : Int32) = nI 1 from rfl, nI_add]
          rfl
        rw [c1, c2]
        by_cases z : X = -1
        · rw [if_pos z, if_pos z]; exact ⟨-1, rfl, rfl⟩
        · rw [if_neg z, if_neg z]; exact ih (k + 1) f _ (by omega) (by omega)
    obtain ⟨w, w1, w2⟩ := both (b 5) 0 j_F (nP 0) (by omega) (y_F (by omega))
    refine ⟨w, ?_, ?_⟩
    · unfold f_X11_known; simp (disch := omega) only [y_lit, y_n1, nI_add, pk_mul, j_lt, j_b1_s, j_b2_s, j_b3_s, j_b0_s, y_bo, y_bo1, y_bo0, y_i0, y_i1, Classical.not_not, nI_clamp, y_ix, y_lt, y_le, y_eq, y_nP, y_nPs, y_ltP, y_ltQ, y_ltPP, y_eqP, y_eqQ, y_eqPP, if_pos, if_neg, ite_true, ite_false, not_true_eq_false, not_false_eq_true, and_true, true_and, and_false, false_and, or_true, true_or, or_false, false_or, yc_isTold hN hW]; exact w1
    · unfold f_X12_known; simp (disch := omega) only [y_lit, y_n1, nI_add, pk_mul, j_lt, j_b1_s, j_b2_s, j_b3_s, j_b0_s, y_bo, y_bo1, y_bo0, y_i0, y_i1, Classical.not_not, nI_clamp, y_ix, y_lt, y_le, y_eq, y_nP, y_nPs, y_ltP, y_ltQ, y_ltPP, y_eqP, y_eqQ, y_eqPP, if_pos, if_neg, ite_true, ite_false, not_true_eq_false, not_false_eq_true, and_true, true_and, and_false, false_and, or_true, true_or, or_false, false_or, ym_isBoard hM hW]; exact w2
  · refine ⟨-2, ?_, ?_⟩
    · unfold f_X11_known; simp (disch := omega) only [y_lit, y_n1, nI_add, pk_mul, j_lt, j_b1_s, j_b2_s, j_b3_s, j_b0_s, y_bo, y_bo1, y_bo0, y_i0, y_i1, Classical.not_not, nI_clamp, y_ix, y_lt, y_le, y_eq, y_nP, y_nPs, y_ltP, y_ltQ, y_ltPP, y_eqP, y_eqQ, y_eqPP, if_pos, if_neg, ite_true, ite_false, not_true_eq_false, not_false_eq_true, and_true, true_and, and_false, false_and, or_true, true_or, or_false, false_or, yc_isTold hN hW]
    · unfold f_X12_known; simp (disch := omega) only [y_lit, y_n1, nI_add, pk_mul, j_lt, j_b1_s, j_b2_s, j_b3_s, j_b0_s, y_bo, y_bo1, y_bo0, y_i0, y_i1, Classical.not_not, nI_clamp, y_ix, y_lt, y_le, y_eq, y_nP, y_nPs, y_ltP, y_ltQ, y_ltPP, y_eqP, y_eqQ, y_eqPP, if_pos, if_neg, ite_true, ite_false, not_true_eq_false, not_false_eq_true, and_true, true_and, and_false, false_and, or_true, true_or, or_false, false_or, ym_isBoard hM hW]
end Z
/-! ===== blows ===== -/
theorem y_below2 {σ τ : j_G} {b : Nat → Nat} {s c d n w : Nat} (hr : y_ro σ τ s c d n w) (hN : y_N σ b) (hM : y_M τ b) (hW : y_W b) (he : n % 2 = 0) : (f_X8_isBelow c d (nI (y_ho b)) (nI (b 2)) σ = some (nI 0) ∧ p_X12_asksBlows_46 (nI s) τ j_F (nI 0) = some (-2)) ∨ (f_X8_isBelow c d (nI (y_ho b)) (nI (b 2)) σ = some (nI 1) ∧ p_X12_asksBlows_46 (nI s) τ j_F (nI 0) = some (nI 0) ∧ ∃ e, y_hd σ τ s c d n e ∧ ∀ i, 2 * i < n → e (2 * i) < y_ho b ∧ e (2 * i + 1) < b 2) := by
  have h4 := hW.ho
  have hb2 := hW.b2
  obtain ⟨hs, hn, hw, h1, h2, h3, h4', h5⟩ := id hr
  have s4 : s < 4 := by unfold y_sc at hs; omega
  have cs : ∀ i f (B : Nat), i < n → B < 2 ^ 31 → (B = if i % 2 = 0 then y_ho b else b 2) → p_X8_isBelow_2 c d (nI (y_ho b)) (nI (b 2)) σ (f + 1) (nI i) = if y_nb (σ.2 d i) B then p_X8_isBelow_2 c d (nI (y_ho b)) (nI (b 2)) σ f (nI (i + 1)) else some (nI 0) := by
    intro i f B hi hB eB
    have hlt : nI i < nI n := (y_lt (by omega) (by omega)).mpr (by omega)
    have em : nI i - nI i / nI 2 * nI 2 = nI (i % 2) := pk_rem (by omega) (by omega) (by omega)
    have eV : (if nI (i % 2) = nI 0 then nI (y_ho b) else nI (b 2)) = nI B := by
      rw [eB]
      by_cases z : i % 2 = 0
      · rw [z, if_pos rfl, if_pos rfl]
      · rw [if_neg z, if_neg (by rw [y_eq (by omega) (by omega)]; exact z)]
    have q := y_nb1 (x := σ.2 d i) (n := B) hB
    rw [p_X8_isBelow_2, h1, if_pos hlt, if_neg (by decide), show (2 : Int32) = nI 2 from rfl, show (0 : Int32) = nI 0 from rfl, em]
    simp only [j_lt]
    rw [eV, y_ix (by omega) (by omega), y_ix (by omega) (by omega), nI_clamp (by omega), show (1 : Int32) = nI 1 from rfl, nI_add]
    by_cases z : y_nb (σ.2 d i) B
    · rw [if_pos z, if_pos (q.mpr z).1, if_neg (q.mpr z).2]
    · rw [if_neg z]
      by_cases z1 : ¬ σ.2 d i < (0 : Int64)
      · rw [if_pos z1, if_pos (fun z2 => z (q.mp ⟨z1, fun z3 => z3 z2⟩))]
      · rw [if_neg z1]
  have key : ∀ m i f f', i + 2 * m = n → i % 2 = 0 → 2 * m < f → m < f' → (p_X8_isBelow_2 c d (nI (y_ho b)) (nI (b 2)) σ f (nI i) = some (nI 0) ∧ p_X12_asksBlows_46 (nI s) τ f' (nI i) = some (-2)) ∨ (p_X8_isBelow_2 c d (nI (y_ho b)) (nI (b 2)) σ f (nI i) = some (nI 1) ∧ p_X12_asksBlows_46 (nI s) τ f' (nI i) = some (nI 0) ∧ ∀ j, i ≤ 2 * j → 2 * j < n → y_nb (σ.2 d (2 * j)) (y_ho b) ∧ y_nb (σ.2 d (2 * j + 1)) (b 2)) := by
    intro m
    induction m with
    | zero =>
      intro i f f' h hp hf hf'
      obtain ⟨f, rfl⟩ := y_pos hf; obtain ⟨f', rfl⟩ := y_pos hf'
      refine Or.inr ⟨?_, ?_, fun j _ _ => by omega⟩
      · unfold p_X8_isBelow_2; simp (disch := omega) only [y_lit, y_n1, nI_add, pk_mul, j_lt, j_b1_s, j_b2_s, j_b3_s, j_b0_s, y_bo, y_bo1, y_bo0, y_i0, y_i1, Classical.not_not, nI_clamp, y_ix, y_lt, y_le, y_eq, y_nP, y_nPs, y_ltP, y_ltQ, y_ltPP, y_eqP, y_eqQ, y_eqPP, if_pos, if_neg, ite_true, ite_false, not_true_eq_false, not_false_eq_true, and_true, true_and, and_false, false_and, or_true, true_or, or_false, false_or, h1]
      · unfold p_X12_asksBlows_46; simp (disch := omega) only [y_lit, y_n1, nI_add, pk_mul, j_lt, j_b1_s, j_b2_s, j_b3_s, j_b0_s, y_bo, y_bo1, y_bo0, y_i0, y_i1, Classical.not_not, nI_clamp, y_ix, y_lt, y_le, y_eq, y_nP, y_nPs, y_ltP, y_ltQ, y_ltPP, y_eqP, y_eqQ, y_eqPP, if_pos, if_neg, ite_true, ite_false, not_true_eq_false, not_false_eq_true, and_true, true_and, and_false, false_and, or_true, true_or, or_false, false_or, h2]
    | succ m ih =>
      intro i f f' h hp hf hf'
      obtain ⟨f, rfl⟩ : ∃ f1, f = f1 + 1 + 1 := ⟨f - 2, by omega⟩
      obtain ⟨f', rfl⟩ := y_pos hf'
      have hlt : nI i < nI n := (y_lt (by omega) (by omega)).mpr (by omega)
      have c1 := cs i (f + 1) (y_ho b) (by omega) (by omega) (by rw [if_pos hp])
      have c2 := cs (i + 1) f (b 2) (by omega) (by omega) (by rw [if_neg (by omega)])
      have num1 := ym_num hr (i := i) (by omega)
      have num2 := ym_num hr (i := i + 1) (by omega)
      have m1 : p_X12_asksBlows_46 (nI s) τ (f' + 1) (nI i) = if y_nb (σ.2 d i) (y_ho b) then (if y_nb (σ.2 d (i + 1)) (b 2) then p_X12_asksBlows_46 (nI s) τ f' (nI (i + 1 + 1)) else some (-2)) else some (-2) := by
        rw [p_X12_asksBlows_46, y_ix (by omega) (by omega), nI_clamp (by omega), h2, if_pos hlt, num1, j_b1_s, ym_isHoleL hM hW, j_b1_s]
        by_cases z : y_nb (σ.2 d i) (y_ho b)
        · rw [if_pos (show 0 ≤ (σ.2 d i).toInt ∧ (σ.2 d i).toInt < y_ho b from z), if_pos (by decide), if_pos z, show (1 : Int32) = nI 1 from rfl, nI_add, num2, j_b1_s, ym_isTickL hM hW, j_b1_s]
          by_cases z2 : y_nb (σ.2 d (i + 1)) (b 2)
          · rw [if_pos (show 0 ≤ (σ.2 d (i + 1)).toInt ∧ (σ.2 d (i + 1)).toInt < b 2 from z2), if_neg (by decide), if_pos z2, show (2 : Int32) = nI 2 from rfl, nI_add]
          · rw [if_neg (show ¬ (0 ≤ (σ.2 d (i + 1)).toInt ∧ (σ.2 d (i + 1)).toInt < b 2) from z2), if_pos (show nI 0 = (0 : Int32) from rfl), if_neg z2]
        · rw [if_neg (show ¬ (0 ≤ (σ.2 d i).toInt ∧ (σ.2 d i).toInt < y_ho b) from z), if_neg (fun q => q rfl), if_neg z]
      rw [c1, c2, m1]
      by_cases z : y_nb (σ.2 d i) (y_ho b)
      · rw [if_pos z, if_pos z]
        by_cases z2 : y_nb (σ.2 d (i + 1)) (b 2)
        · rw [if_pos z2, if_pos z2]
          rcases ih (i + 1 + 1) f f' (by omega) (by omega) (by omega) (by omega) with k | ⟨k1, k2, k3⟩
          · exact Or.inl k
          · refine Or.inr ⟨k1, k2, fun j h1 h2 => ?_⟩
            by_cases e : 2 * j = i
            · rw [e]; exact ⟨z, z2⟩
            · exact k3 j (by omega) h2
        · rw [if_neg z2, if_neg z2]; exact Or.inl ⟨rfl, rfl⟩
      · rw [if_neg z, if_neg z]; exact Or.inl ⟨rfl, rfl⟩
  rcases key (n / 2) 0 j_F j_F (by omega) (by omega) (y_F (by omega)) (y_F (by omega)) with k | ⟨k1, k2, k3⟩
  · exact Or.inl k
  · have all : ∀ i, i < n → ∃ k, k < 201 ∧ σ.2 d i = lN k ∧ (i % 2 = 0 → k < y_ho b) ∧ (i % 2 = 1 → k < b 2) := by
      intro i hi
      have q := k3 (i / 2) (by omega) (by omega)
      by_cases z : i % 2 = 0
      · rw [show 2 * (i / 2) = i from by omega] at q
        obtain ⟨k, hk, e⟩ := y_nbe q.1
        exact ⟨k, by omega, e, fun _ => hk, fun y => by omega⟩
      · rw [show 2 * (i / 2) + 1 = i from by omega] at q
        obtain ⟨k, hk, e⟩ := y_nbe q.2
        exact ⟨k, by omega, e, fun y => by omega, fun _ => hk⟩
    have ee : ∀ i k, σ.2 d i = lN k → k < 201 → (σ.2 d i).toInt.toNat = k := fun i k e hk => by rw [e, pk_lT (by omega)]; rfl
    refine Or.inr ⟨k1, k2, fun i => (σ.2 d i).toInt.toNat, ⟨hs, hn, h1, h2, fun i hi => ?_⟩, fun i hi => ?_⟩
    · obtain ⟨k, hk, e, _, _⟩ := all i hi
      have e' := ee i k e hk
      refine ⟨by show (σ.2 d i).toInt.toNat < 1000; omega, ?_, ?_⟩
      · show _ = lN (σ.2 d i).toInt.toNat; rw [e', e]
      · show _ = lN (σ.2 d i).toInt.toNat; rw [← h5 i hi, e', e]
    · obtain ⟨k, hk, e, a1, a2⟩ := all (2 * i) (by omega)
      obtain ⟨k', hk', e', a1', a2'⟩ := all (2 * i + 1) (by omega)
      have q1 := ee _ k e hk; have q2 := ee _ k' e' hk'
      show (σ.2 d (2 * i)).toInt.toNat < _ ∧ (σ.2 d (2 * i + 1)).toInt.toNat < _
      rw [q1, q2]
      exact ⟨a1 (by omega), a2' (by omega)⟩
/-- is it a row of blows; the class lays the game out -/
theorem y_whyB {σ τ : j_G} {b : Nat → Nat} (hW : y_W b) (hN : y_N σ b) (hM : y_M τ b) (hK : y_K σ τ) (a1 : Int32) : (∃ k : Int32, k < 0 ∧ ¬ k = 0 ∧ f_X11_whyNoBlows a1 σ = some (k, σ) ∧ f_X12_asksBlows a1 τ = some k) ∨ (f_X12_asksBlows a1 τ = some (nI 0) ∧ 0 < b 9 ∧ ∃ σ1 s c d n e, f_X11_whyNoBlows a1 σ = some (nI 0, σ1) ∧ y_cg σ1 b (y_gs b) (y_dg b (b 8)) ∧ y_fr 22 27 σ σ1 ∧ a1 = nI s ∧ n % 2 = 0 ∧ y_hd σ τ s c d n e ∧ ∀ i, 2 * i < n → e (2 * i) < y_ho b ∧ e (2 * i + 1) < b 2) := by
  have h4 := hW.ho
  by_cases h : y_rg a1 4
  · by_cases h9 : 0 < b 9
    · obtain ⟨s, hs, rfl⟩ := y_of _ _ h.1 h.2
      obtain ⟨c, d, hc, hk⟩ := hK.slot s hs
      rcases hk with ⟨k1, k2⟩ | ⟨n, w, hr⟩
      · refine Or.inl ⟨-6, by decide, by decide, ?_, ?_⟩
        · unfold f_X11_whyNoBlows f_X8_isMade
          rcases hc with ⟨rfl, rfl, rfl⟩ | ⟨rfl, rfl, rfl⟩ | ⟨rfl, rfl, rfl⟩ | ⟨rfl, rfl, rfl⟩
          · simp (disch := omega) only [y_lit, y_n1, nI_add, pk_mul, j_lt, j_b1_s, j_b2_s, j_b3_s, j_b0_s, y_bo, y_bo1, y_bo0, y_i0, y_i1, Classical.not_not, nI_clamp, y_ix, y_lt, y_le, y_eq, y_nP, y_nPs, y_ltP, y_ltQ, y_ltPP, y_eqP, y_eqQ, y_eqPP, if_pos, if_neg, ite_true, ite_false, not_true_eq_false, not_false_eq_true, and_true, true_and, and_false, false_and, or_true, true_or, or_false, false_or, yc_isSlot, y_rn, yc_isTold hN hW, k1]
          · simp (disch := omega) only [y_lit, y_n1, nI_add, pk_mul, j_lt, j_b1_s, j_b2_s, j_b3_s, j_b0_s, y_bo, y_bo1, y_bo0, y_i0, y_i1, Classical.not_not, nI_clamp, y_ix, y_lt, y_le, y_eq, y_nP, y_nPs, y_ltP, y_ltQ, y_ltPP, y_eqP, y_eqQ, y_eqPP, if_pos, if_neg, ite_true, ite_false, not_true_eq_false, not_false_eq_true, and_true, true_and, and_false, false_and, or_true, true_or, or_false, false_or, yc_isSlot, y_rn, yc_isTold hN hW, k1]
          · simp (disch := omega) only [y_lit, y_n1, nI_add, pk_mul, j_lt, j_b1_s, j_b2_s, j_b3_s, j_b0_s, y_bo, y_bo1, y_bo0, y_i0, y_i1, Classical.not_not, nI_clamp, y_ix, y_lt, y_le, y_eq, y_nP, y_nPs, y_ltP, y_ltQ, y_ltPP, y_eqP, y_eqQ, y_eqPP, if_pos, if_neg, ite_true, ite_false, not_true_eq_false, not_false_eq_true, and_true, true_and, and_false, false_and, or_true, true_or, or_false, false_or, yc_isSlot, y_rn, yc_isTold hN hW, k1]
          · simp (disch := omega) only [y_lit, y_n1, nI_add, pk_mul, j_lt, j_b1_s, j_b2_s, j_b3_s, j_b0_s, y_bo, y_bo1, y_bo0, y_i0, y_i1, Classical.not_not, nI_clamp, y_ix, y_lt, y_le, y_eq, y_nP, y_nPs, y_ltP, y_ltQ, y_ltPP, y_eqP, y_eqQ, y_eqPP, if_pos, if_neg, ite_true, ite_false, not_true_eq_false, not_false_eq_true, and_true, true_and, and_false, false_and, or_true, true_or, or_false, false_or, yc_isSlot, y_rn, yc_isTold hN hW, k1]
        · unfold f_X12_asksBlows; simp (disch := omega) only [y_lit, y_n1, nI_add, pk_mul, j_lt, j_b1_s, j_b2_s, j_b3_s, j_b0_s, y_bo, y_bo1, y_bo0, y_i0, y_i1, Classical.not_not, nI_clamp, y_ix, y_lt, y_le, y_eq, y_nP, y_nPs, y_ltP, y_ltQ, y_ltPP, y_eqP, y_eqQ, y_eqPP, if_pos, if_neg, ite_true, ite_false, not_true_eq_false, not_false_eq_true, and_true, true_and, and_false, false_and, or_true, true_or, or_false, false_or, ym_isSlot, y_rn, ym_isBoard hM hW, k2]
      · obtain ⟨_, hn, hw, r1, r2, r3, r4, r5⟩ := id hr
        have em : nI n - nI (n / 2 * 2) = nI (n % 2) := by
          rw [← pk_mul, ← pk_div (by omega) (by omega) (by omega), pk_rem (by omega) (by omega) (by omega)]
        have cw : f_X11_whyNoBlows (nI s) σ = if nI (n % 2) = nI 0 then (j_b1 (f_X8_isBelow c d (nI (y_ho b)) (nI (b 2)) σ) (fun v1 => if v1 = nI 0 then some (-2, σ) else (j_b1 (f_X4_deal (σ.1 5 1) σ) fun σ2 => some (nI 0, σ2)))) else some (-2, σ) := by
          unfold f_X11_whyNoBlows f_X8_isMade
          rcases hc with ⟨rfl, rfl, rfl⟩ | ⟨rfl, rfl, rfl⟩ | ⟨rfl, rfl, rfl⟩ | ⟨rfl, rfl, rfl⟩
          · simp (disch := omega) only [y_lit, y_n1, nI_add, pk_mul, j_lt, j_b1_s, j_b2_s, j_b3_s, j_b0_s, y_bo, y_bo1, y_bo0, y_i0, y_i1, Classical.not_not, nI_clamp, y_ix, y_lt, y_le, y_eq, y_nP, y_nPs, y_ltP, y_ltQ, y_ltPP, y_eqP, y_eqQ, y_eqPP, if_pos, if_neg, ite_true, ite_false, not_true_eq_false, not_false_eq_true, and_true, true_and, and_false, false_and, or_true, true_or, or_false, false_or, yc_isSlot, y_rn, yc_isTold hN hW, r1, yc_holes hN, hN.f4, pk_div, em]
          · simp (disch := omega) only [y_lit, y_n1, nI_add, pk_mul, j_lt, j_b1_s, j_b2_s, j_b3_s, j_b0_s, y_bo, y_bo1, y_bo0, y_i0, y_i1, Classical.not_not, nI_clamp, y_ix, y_lt, y_le, y_eq, y_nP, y_nPs, y_ltP, y_ltQ, y_ltPP, y_eqP, y_eqQ, y_eqPP, if_pos, if_neg, ite_true, ite_false, not_true_eq_false, not_false_eq_true, and_true, true_and, and_false, false_and, or_true, true_or, or_false, false_or, yc_isSlot, y_rn, yc_isTold hN hW, r1, yc_holes hN, hN.f4, pk_div, em]
          · simp (disch := omega) only [y_lit, y_n1, nI_add, pk_mul, j_lt, j_b1_s, j_b2_s, j_b3_s, j_b0_s, y_bo, y_bo1, y_bo0, y_i0, y_i1, Classical.not_not, nI_clamp, y_ix, y_lt, y_le, y_eq, y_nP, y_nPs, y_ltP, y_ltQ, y_ltPP, y_eqP, y_eqQ, y_eqPP, if_pos, if_neg, ite_true, ite_false, not_true_eq_false, not_false_eq_true, and_true, true_and, and_false, false_and, or_true, true_or, or_false, false_or, yc_isSlot, y_rn, yc_isTold hN hW, r1, yc_holes hN, hN.f4, pk_div, em]
          · simp (disch := omega) only [y_lit, y_n1, nI_add, pk_mul, j_lt, j_b1_s, j_b2_s, j_b3_s, j_b0_s, y_bo, y_bo1, y_bo0, y_i0, y_i1, Classical.not_not, nI_clamp, y_ix, y_lt, y_le, y_eq, y_nP, y_nPs, y_ltP, y_ltQ, y_ltPP, y_eqP, y_eqQ, y_eqPP, if_pos, if_neg, ite_true, ite_false, not_true_eq_false, not_false_eq_true, and_true, true_and, and_false, false_and, or_true, true_or, or_false, false_or, yc_isSlot, y_rn, yc_isTold hN hW, r1, yc_holes hN, hN.f4, pk_div, em]
        have mw : f_X12_asksBlows (nI s) τ = if ¬ nI (n % 2) = nI 0 then some (-2) else p_X12_asksBlows_46 (nI s) τ j_F (nI 0) := by
          unfold f_X12_asksBlows; simp (disch := omega) only [y_lit, y_n1, nI_add, pk_mul, j_lt, j_b1_s, j_b2_s, j_b3_s, j_b0_s, y_bo, y_bo1, y_bo0, y_i0, y_i1, Classical.not_not, nI_clamp, y_ix, y_lt, y_le, y_eq, y_nP, y_nPs, y_ltP, y_ltQ, y_ltPP, y_eqP, y_eqQ, y_eqPP, if_pos, if_neg, ite_true, ite_false, not_true_eq_false, not_false_eq_true, and_true, true_and, and_false, false_and, or_true, true_or, or_false, false_or, ym_isSlot, y_rn, ym_isBoard hM hW, r2, pk_div, em]
        by_cases ev : n % 2 = 0
        · rw [ev] at cw mw
          rw [if_pos rfl] at cw
          rw [if_neg (fun z => z rfl)] at mw
          rcases y_below2 hr hN hM hW ev with ⟨q1, q2⟩ | ⟨q1, q2, e, q3, q4⟩
          · refine Or.inl ⟨-2, by decide, by decide, ?_, ?_⟩
            · rw [cw, q1]; rfl
            · rw [mw, q2]
          · obtain ⟨σ1, e1, e2, e3⟩ := yc_dealt hN hW
            refine Or.inr ⟨?_, h9, σ1, s, c, d, n, e, ?_, e2, e3, rfl, ev, q3, q4⟩
            · rw [mw, q2]
            · rw [cw, q1, j_b1_s, if_neg (show ¬ nI 1 = nI 0 from by decide), e1]; rfl
        · have nz : ¬ nI (n % 2) = nI 0 := by rw [y_eq (by omega) (by omega)]; exact ev
          refine Or.inl ⟨-2, by decide, by decide, ?_, ?_⟩
          · rw [cw, if_neg nz]
          · rw [mw, if_pos nz]
    · refine Or.inl ⟨-2, by decide, by decide, ?_, ?_⟩
      · unfold f_X11_whyNoBlows; simp (disch := omega) only [y_lit, y_n1, nI_add, pk_mul, j_lt, j_b1_s, j_b2_s, j_b3_s, j_b0_s, y_bo, y_bo1, y_bo0, y_i0, y_i1, Classical.not_not, nI_clamp, y_ix, y_lt, y_le, y_eq, y_nP, y_nPs, y_ltP, y_ltQ, y_ltPP, y_eqP, y_eqQ, y_eqPP, if_pos, if_neg, ite_true, ite_false, not_true_eq_false, not_false_eq_true, and_true, true_and, and_false, false_and, or_true, true_or, or_false, false_or, yc_isSlot, yc_isTold hN hW]
      · unfold f_X12_asksBlows; simp (disch := omega) only [y_lit, y_n1, nI_add, pk_mul, j_lt, j_b1_s, j_b2_s, j_b3_s, j_b0_s, y_bo, y_bo1, y_bo0, y_i0, y_i1, Classical.not_not, nI_clamp, y_ix, y_lt, y_le, y_eq, y_nP, y_nPs, y_ltP, y_ltQ, y_ltPP, y_eqP, y_eqQ, y_eqPP, if_pos, if_neg, ite_true, ite_false, not_true_eq_false, not_false_eq_true, and_true, true_and, and_false, false_and, or_true, true_or, or_false, false_or, ym_isSlot, h, ym_isBoard hM hW]
  · refine Or.inl ⟨-2, by decide, by decide, ?_, ?_⟩
    · unfold f_X11_whyNoBlows; simp (disch := omega) only [y_lit, y_n1, nI_add, pk_mul, j_lt, j_b1_s, j_b2_s, j_b3_s, j_b0_s, y_bo, y_bo1, y_bo0, y_i0, y_i1, Classical.not_not, nI_clamp, y_ix, y_lt, y_le, y_eq, y_nP, y_nPs, y_ltP, y_ltQ, y_ltPP, y_eqP, y_eqQ, y_eqPP, if_pos, if_neg, ite_true, ite_false, not_true_eq_false, not_false_eq_true, and_true, true_and, and_false, false_and, or_true, true_or, or_false, false_or, yc_isSlot, h]
    · unfold f_X12_asksBlows; simp (disch := omega) only [y_lit, y_n1, nI_add, pk_mul, j_lt, j_b1_s, j_b2_s, j_b3_s, j_b0_s, y_bo, y_bo1, y_bo0, y_i0, y_i1, Classical.not_not, nI_clamp, y_ix, y_lt, y_le, y_eq, y_nP, y_nPs, y_ltP, y_ltQ, y_ltPP, y_eqP, y_eqQ, y_eqPP, if_pos, if_neg, ite_true, ite_false, not_true_eq_false, not_false_eq_true, and_true, true_and, and_false, false_and, or_true, true_or, or_false, false_or, ym_isSlot, h]
/-! ===== blows judged: J 0 good, 1 red, 2 soon, 10 + i the sides of a coming that were hit ===== -/
noncomputable def y_sd (g : Nat → Nat) (i h : Nat) : Nat := if g (3 * i) = h then 1 else if g (3 * i + 1) = h + 1 then 2 else 0
noncomputable def y_ju (b g : Nat → Nat) (i h t lag : Nat) (J : Nat → Nat) : Nat → Nat := y_u (y_u (y_u (y_u J (10 + i) (J (10 + i) + y_sd g i h)) 0 (J 0 + (1 - g (3 * i + 2)))) 1 (J 1 + g (3 * i + 2))) 2 (J 2 + (if t - y_from b i < lag then 1 else 0))
noncomputable def y_jo (b g : Nat → Nat) (i h t lag : Nat) (J : Nat → Nat) : Nat → Nat := if y_sd g i h = 0 then J else if J (10 + i) / y_sd g i h % 2 = 1 then J else y_ju b g i h t lag J
noncomputable def y_j1 (b g : Nat → Nat) (s h t lag : Nat) (J : Nat → Nat) : Nat → Nat := if y_ui b t s 0 = 0 then J else y_jo b g (y_ui b t s 0 - 1) h t lag J
noncomputable def y_jl (b g : Nat → Nat) (s : Nat) (e : Nat → Nat) (lag : Nat) : Nat → Nat → (Nat → Nat) → Nat → Nat
  | 0, _, J => J
  | m + 1, i, J => y_jl b g s e lag m (i + 2) (y_j1 b g s (e i) (e (i + 1)) lag J)
noncomputable def y_tk (g : Nat → Nat) (i v : Nat) : Nat := (if v % 2 = 1 then 2 ^ g (3 * i) else 0) ||| (if v / 2 = 1 then 2 ^ (g (3 * i + 1) - 1) else 0)
def y_jv (g J : Nat → Nat) (s : Nat) : Prop := ∀ i, i < s → J (10 + i) ≤ 3 ∧ (J (10 + i) / 2 = 1 → g (3 * i + 1) ≠ 0)
def y_cj (σ : j_G) (g J : Nat → Nat) (s : Nat) : Prop := σ.1 40 0 = nI (J 0) ∧ σ.1 40 1 = nI (J 1) ∧ σ.1 40 2 = nI (J 2) ∧ ∀ i, i < s → σ.1 41 i = nI (y_tk g i (J (10 + i)))
def y_mj (τ : j_G) (J : Nat → Nat) (s : Nat) : Prop := τ.1 75 39 = nI (J 0) ∧ τ.1 75 40 = nI (J 1) ∧ τ.1 75 41 = nI (J 2) ∧ ∀ i, i < s → τ.1 93 i = nI (J (10 + i))
theorem y_sd_c (g : Nat → Nat) (i h : Nat) : y_sd g i h = 0 ∨ y_sd g i h = 1 ∨ y_sd g i h = 2 := by
  unfold y_sd; split
  · omega
  · split <;> omega
theorem y_vs1 : ∀ v, v < 4 → (v &&& 1 = 0 ↔ ¬ v / 1 % 2 = 1) ∧ (¬ v / 1 % 2 = 1 → v ||| 1 = v + 1) ∧ (¬ v / 1 % 2 = 1 → v + 1 < 4) := by decide
theorem y_vs2 : ∀ v, v < 4 → (v &&& 2 = 0 ↔ ¬ v / 2 % 2 = 1) ∧ (¬ v / 2 % 2 = 1 → v ||| 2 = v + 2) ∧ (¬ v / 2 % 2 = 1 → v + 2 < 4) := by decide
theorem y_vs (v : Nat) (hv : v < 4) (d : Nat) (hd : d < 3) (h0 : d ≠ 0) : (v &&& d = 0 ↔ ¬ v / d % 2 = 1) ∧ (¬ v / d % 2 = 1 → v ||| d = v + d ∧ v + d < 4) := by
  obtain rfl | rfl : d = 1 ∨ d = 2 := by omega
  · have q := y_vs1 v hv; exact ⟨q.1, fun z => ⟨q.2.1 z, q.2.2 z⟩⟩
  · have q := y_vs2 v hv; exact ⟨q.1, fun z => ⟨q.2.1 z, q.2.2 z⟩⟩
theorem y_jo_v {b g J : Nat → Nat} {s i h t lag : Nat} (hs : s ≤ 60) (hj : y_jv g J s) (hi : i < s) : y_jv g (y_jo b g i h t lag J) s := by
  unfold y_jo
  split
  · exact hj
  · split
    · exact hj
    · rename_i h0 h1
      intro k hk
      unfold y_ju
      by_cases e : k = i
      · subst e
        have q := hj k hk
        have c := y_sd_c g k h
        have z := (y_vs (J (10 + k)) (by omega) (y_sd g k h) (by omega) h0).2 h1
        simp (disch := omega) only [y_ue, y_un]
        refine ⟨by omega, fun y => ?_⟩
        rcases c with c | c | c
        · exact absurd c h0
        · rw [c] at y h1
          exact q.2 (by omega)
        · unfold y_sd at c
          by_cases c1 : g (3 * k) = h
          · rw [if_pos c1] at c; omega
          · rw [if_neg c1] at c
            by_cases c2 : g (3 * k + 1) = h + 1
            · omega
            · rw [if_neg c2] at c; omega
      · have q := hj k hk
        simp (disch := omega) only [y_ue, y_un]; exact q
theorem y_test {A T h : Nat} (hh : h < 12) : ((nI A &&& (nI T ^^^ nP 0)) &&& nI (2 ^ h) = nI 0) ↔ (A.testBit h = false ∨ T.testBit h = true) := by
  have e : ((nI A &&& (nI T ^^^ nP 0)) &&& nI (2 ^ h)).toBitVec = (BitVec.ofNat 32 A &&& ~~~ BitVec.ofNat 32 T) &&& BitVec.ofNat 32 (2 ^ h) := by
    show ((nI A).toBitVec &&& (nI T ^^^ nP 0).toBitVec) &&& (nI (2 ^ h)).toBitVec = _
    rw [y_nPx]; rfl
  rw [← Int32.toBitVec_inj, e, show (nI 0).toBitVec = 0#32 from rfl]
  have bit : ∀ i, i < 32 → ((BitVec.ofNat 32 A &&& ~~~ BitVec.ofNat 32 T) &&& BitVec.ofNat 32 (2 ^ h)).getLsbD i = ((A.testBit i && !T.testBit i) && decide (h = i)) := by
    intro i hi
    rw [BitVec.getLsbD_and, BitVec.getLsbD_and, BitVec.getLsbD_not, BitVec.getLsbD_ofNat, BitVec.getLsbD_ofNat, BitVec.getLsbD_ofNat, Nat.testBit_two_pow]
    simp [hi]
  constructor
  · intro z
    have q := bit h (by omega)
    rw [z] at q
    simp at q
    cases ha : A.testBit h with
    | false => exact Or.inl rfl
    | true => exact Or.inr (q ha)
  · intro z
    apply BitVec.eq_of_getLsbD_eq
    intro i hi
    rw [bit i hi]
    by_cases c : h = i
    · subst c
      rcases z with z | z
      · simp [z]
      · simp [z]
    · simp [c]
theorem y_hb_t {g : Nat → Nat} {i h : Nat} : (y_hb g i).testBit h = (decide (g (3 * i) = h) || (decide (g (3 * i + 1) ≠ 0) && decide (g (3 * i + 1) - 1 = h))) := by
  unfold y_hb
  rw [Nat.testBit_or, Nat.testBit_two_pow]
  by_cases z : g (3 * i + 1) = 0
  · rw [if_pos z]; simp [z]
  · rw [if_neg z, Nat.testBit_two_pow]; simp [z]
theorem y_tk_t {g : Nat → Nat} {i v h : Nat} : (y_tk g i v).testBit h = ((decide (v % 2 = 1) && decide (g (3 * i) = h)) || (decide (v / 2 = 1) && decide (g (3 * i + 1) - 1 = h))) := by
  unfold y_tk
  rw [Nat.testBit_or]
  by_cases z : v % 2 = 1
  · rw [if_pos z, Nat.testBit_two_pow]
    by_cases y : v / 2 = 1
    · rw [if_pos y, Nat.testBit_two_pow]; simp [z, y]
    · rw [if_neg y]; simp [z, y]
  · rw [if_neg z]
    by_cases y : v / 2 = 1
    · rw [if_pos y, Nat.testBit_two_pow]; simp [z, y]
    · rw [if_neg y]; simp [z, y]
theorem y_tst {g : Nat → Nat} {i v h : Nat} (hv : v ≤ 3) (ho : v / 2 = 1 → g (3 * i + 1) ≠ 0) (hd : g (3 * i + 1) ≠ g (3 * i) + 1) : ((y_hb g i).testBit h = false ∨ (y_tk g i v).testBit h = true) ↔ (y_sd g i h = 0 ∨ v / y_sd g i h % 2 = 1) := by
  rw [y_hb_t, y_tk_t]
  unfold y_sd
  by_cases c1 : g (3 * i) = h
  · have c2 : ¬ (g (3 * i + 1) ≠ 0 ∧ g (3 * i + 1) - 1 = h) := by omega
    rw [if_pos c1]
    have c3 : v / 2 = 1 → ¬ g (3 * i + 1) - 1 = h := fun z y => c2 ⟨ho z, y⟩
    simp only [c1, decide_true, Bool.true_or, Bool.and_true, Bool.or_eq_true, Bool.and_eq_true, decide_eq_true_eq, Nat.div_one]
    constructor
    · rintro (z | z | ⟨z1, z2⟩)
      · cases z
      · exact Or.inr z
      · exact absurd z2 (c3 z1)
    · rintro (z | z)
      · omega
      · exact Or.inr (Or.inl z)
  · rw [if_neg c1]
    by_cases c2 : g (3 * i + 1) = h + 1
    · rw [if_pos c2]
      have c3 : g (3 * i + 1) ≠ 0 := by omega
      have c4 : g (3 * i + 1) - 1 = h := by omega
      simp only [c1, c3, c4, decide_true, decide_false, ne_eq, not_false_eq_true, Bool.and_true, Bool.or_true, Bool.and_false, Bool.false_or, decide_eq_true_eq]
      constructor
      · rintro (z | z)
        · cases z
        · exact Or.inr (by omega)
      · rintro (z | z)
        · omega
        · exact Or.inr (by omega)
    · rw [if_neg c2]
      refine ⟨fun _ => Or.inl rfl, fun _ => Or.inl ?_⟩
      have c4 : ¬ (g (3 * i + 1) ≠ 0 ∧ g (3 * i + 1) - 1 = h) := by omega
      by_cases z : g (3 * i + 1) = 0
      · simp [c1, z]
      · have : ¬ g (3 * i + 1) - 1 = h := fun y => c4 ⟨z, y⟩
        simp [c1, this]
theorem y_tkn {g : Nat → Nat} {i v h : Nat} (hv : v ≤ 3) (h0 : y_sd g i h ≠ 0) (h1 : ¬ v / y_sd g i h % 2 = 1) : y_tk g i v ||| 2 ^ h = y_tk g i (v + y_sd g i h) := by
  have c := y_sd_c g i h
  rcases c with c | c | c
  · exact absurd c h0
  · have c1 : g (3 * i) = h := by
      unfold y_sd at c
      by_cases z : g (3 * i) = h
      · exact z
      · rw [if_neg z] at c; split at c <;> omega
    rw [c] at h1 ⊢
    unfold y_tk
    rw [if_neg (show ¬ v % 2 = 1 by omega), if_pos (show (v + 1) % 2 = 1 by omega), show (v + 1) / 2 = v / 2 from by omega, c1, Nat.zero_or, Nat.or_comm]
  · have c1 : g (3 * i + 1) - 1 = h := by
      unfold y_sd at c
      by_cases z : g (3 * i) = h
      · rw [if_pos z] at c; omega
      · rw [if_neg z] at c
        by_cases y : g (3 * i + 1) = h + 1
        · omega
        · rw [if_neg y] at c; omega
    rw [c] at h1 ⊢
    unfold y_tk
    rw [if_neg (show ¬ v / 2 = 1 by omega), if_pos (show (v + 2) / 2 = 1 by omega), show (v + 2) % 2 = v % 2 from by omega, c1, Nat.or_zero]
section C
variable {σ τ : j_G} {b g J : Nat → Nat} {s h t lag : Nat}
theorem yc_judge1 (hW : y_W b) (hc : y_cg σ b s g) (hv : y_vg b s g) (hj : y_jv g J s) (hJ : y_cj σ g J s) (hh : h < 12) (ht : t < 300) (hlag : lag ≤ 20) : ∃ σ', f_X1_judgeOne (nI h) (nI t) (nI lag) σ = some σ' ∧ y_cj σ' g (y_j1 b g s h t lag J) s ∧ y_fr 40 41 σ σ' := by
  have hs := hv.1
  have h2 := hW.b2
  have h4 := hW.ho
  have ul := y_ui_le (b := b) (t := t) s 0
  unfold f_X1_judgeOne y_j1
  rw [yc_upIn hc hv hW (by omega), j_b1_s]
  by_cases z : y_ui b t s 0 = 0
  · rw [if_pos z, z]
    refine ⟨σ, ?_, hJ, y_fr.refl⟩
    rw [yc_ghas hc hs, if_neg (fun q : y_rg (nP 0) s => absurd q.1 (by decide))]
    simp (disch := omega) only [y_lit, y_n1, nI_add, pk_mul, j_lt, j_b1_s, j_b2_s, j_b3_s, j_b0_s, y_bo, y_bo1, y_bo0, y_i0, y_i1, Classical.not_not, nI_clamp, y_ix, y_lt, y_le, y_eq, y_nP, y_nPs, y_ltP, y_ltQ, y_ltPP, y_eqP, y_eqQ, y_eqPP, if_pos, if_neg, ite_true, ite_false, not_true_eq_false, not_false_eq_true, and_true, true_and, and_false, false_and, or_true, true_or, or_false, false_or]
  · obtain ⟨i, hi⟩ : ∃ i, y_ui b t s 0 = i + 1 := ⟨y_ui b t s 0 - 1, by omega⟩
    have his : i < s := by omega
    rw [if_neg z, hi, Nat.add_sub_cancel, y_nPs]
    have vi := hv.2 i his
    have ci := hc.2 i his
    have ji := hj i his
    have le := y_last_le hW i
    have inr : y_from b i ≤ t := by
      have key : ∀ m k, y_ui b t m k = i + 1 → y_from b i ≤ t := by
        intro m
        induction m with
        | zero => intro k hk; exact absurd hk (by unfold y_ui; omega)
        | succ m ih =>
          intro k hk
          unfold y_ui at hk
          by_cases q : y_from b k ≤ t ∧ t ≤ y_last b k
          · rw [if_pos q] at hk
            obtain rfl : k = i := by omega
            exact q.1
          · rw [if_neg q] at hk; exact ih _ hk
      exact key s 0 hi
    have tki := hJ.2.2.2 i his
    have tt := y_test (A := y_hb g i) (T := y_tk g i (J (10 + i))) hh
    have ts := y_tst (g := g) (i := i) (v := J (10 + i)) (h := h) ji.1 ji.2 vi.2.2.1
    simp (disch := omega) only [y_lit, y_n1, nI_add, pk_mul, j_lt, j_b1_s, j_b2_s, j_b3_s, j_b0_s, y_bo, y_bo1, y_bo0, y_i0, y_i1, Classical.not_not, nI_clamp, y_ix, y_lt, y_le, y_eq, y_nP, y_nPs, y_ltP, y_ltQ, y_ltPP, y_eqP, y_eqQ, y_eqPP, if_pos, if_neg, ite_true, ite_false, not_true_eq_false, not_false_eq_true, and_true, true_and, and_false, false_and, or_true, true_or, or_false, false_or, yc_ghas hc hs, y_rn, yc_holesOf hc hv hW, tki, y_shl]
    unfold y_jo
    by_cases a : y_sd g i h = 0 ∨ J (10 + i) / y_sd g i h % 2 = 1
    · rw [if_pos (tt.mpr (ts.mpr a))]
      refine ⟨σ, rfl, ?_, y_fr.refl⟩
      by_cases a0 : y_sd g i h = 0
      · rw [if_pos a0]; exact hJ
      · rw [if_neg a0, if_pos (by omega)]; exact hJ
    · have a0 : y_sd g i h ≠ 0 := fun y => a (Or.inl y)
      have a1 : ¬ J (10 + i) / y_sd g i h % 2 = 1 := fun y => a (Or.inr y)
      rw [if_neg (fun y => a (ts.mp (tt.mp y))), if_neg a0, if_neg a1]
      have tkn := y_tkn (g := g) (i := i) ji.1 a0 a1
      simp (disch := omega) only [j_r_ne, j_r_eq, j_r_nj, y_lit, y_n1, nI_add, pk_mul, j_lt, j_b1_s, j_b2_s, j_b3_s, j_b0_s, y_bo, y_bo1, y_bo0, y_i0, y_i1, Classical.not_not, nI_clamp, y_ix, y_lt, y_le, y_eq, y_nP, y_nPs, y_ltP, y_ltQ, y_ltPP, y_eqP, y_eqQ, y_eqPP, if_pos, if_neg, ite_true, ite_false, not_true_eq_false, not_false_eq_true, and_true, true_and, and_false, false_and, or_true, true_or, or_false, false_or, y_or, tkn, ci, hJ.1, hJ.2.1, hJ.2.2.1]
      by_cases r : g (3 * i + 2) = 0
      · simp (disch := omega) only [j_r_ne, j_r_eq, j_r_nj, y_lit, y_n1, nI_add, pk_mul, j_lt, j_b1_s, j_b2_s, j_b3_s, j_b0_s, y_bo, y_bo1, y_bo0, y_i0, y_i1, Classical.not_not, nI_clamp, y_ix, y_lt, y_le, y_eq, y_nP, y_nPs, y_ltP, y_ltQ, y_ltPP, y_eqP, y_eqQ, y_eqPP, if_pos, if_neg, ite_true, ite_false, not_true_eq_false, not_false_eq_true, and_true, true_and, and_false, false_and, or_true, true_or, or_false, false_or, ci, pk_sub, hJ.2.2.1]
        by_cases so : t - y_from b i < lag
        · simp (disch := omega) only [y_lit, y_n1, nI_add, pk_mul, j_lt, j_b1_s, j_b2_s, j_b3_s, j_b0_s, y_bo, y_bo1, y_bo0, y_i0, y_i1, Classical.not_not, nI_clamp, y_ix, y_lt, y_le, y_eq, y_nP, y_nPs, y_ltP, y_ltQ, y_ltPP, y_eqP, y_eqQ, y_eqPP, if_pos, if_neg, ite_true, ite_false, not_true_eq_false, not_false_eq_true, and_true, true_and, and_false, false_and, or_true, true_or, or_false, false_or, j_r_ne, j_r_eq, j_r_nj]
          refine ⟨_, rfl, ⟨?_, ?_, ?_, fun k hk => ?_⟩, ((y_fr.refl.si (by omega) (by omega)).si (by omega) (by omega)).si (by omega) (by omega)⟩
          · unfold y_ju; simp (disch := omega) only [j_r_ne, j_r_eq, j_r_nj, y_ue, y_un, r]
          · unfold y_ju; simp (disch := omega) only [j_r_ne, j_r_eq, j_r_nj, y_ue, y_un, r, Nat.add_zero]; exact hJ.2.1
          · unfold y_ju; simp (disch := omega) only [j_r_ne, j_r_eq, j_r_nj, y_ue, y_un, y_lit, y_n1, nI_add, pk_mul, j_lt, j_b1_s, j_b2_s, j_b3_s, j_b0_s, y_bo, y_bo1, y_bo0, y_i0, y_i1, Classical.not_not, nI_clamp, y_ix, y_lt, y_le, y_eq, y_nP, y_nPs, y_ltP, y_ltQ, y_ltPP, y_eqP, y_eqQ, y_eqPP, if_pos, if_neg, ite_true, ite_false, not_true_eq_false, not_false_eq_true, and_true, true_and, and_false, false_and, or_true, true_or, or_false, false_or]
          · unfold y_ju
            by_cases e : k = i
            · subst e; simp (disch := omega) only [j_r_ne, j_r_eq, j_r_nj, y_ue, y_un]
            · simp (disch := omega) only [j_r_ne, j_r_eq, j_r_nj, y_ue, y_un]; exact hJ.2.2.2 k hk
        · simp (disch := omega) only [y_lit, y_n1, nI_add, pk_mul, j_lt, j_b1_s, j_b2_s, j_b3_s, j_b0_s, y_bo, y_bo1, y_bo0, y_i0, y_i1, Classical.not_not, nI_clamp, y_ix, y_lt, y_le, y_eq, y_nP, y_nPs, y_ltP, y_ltQ, y_ltPP, y_eqP, y_eqQ, y_eqPP, if_pos, if_neg, ite_true, ite_false, not_true_eq_false, not_false_eq_true, and_true, true_and, and_false, false_and, or_true, true_or, or_false, false_or, j_r_ne, j_r_eq, j_r_nj]
          refine ⟨_, rfl, ⟨?_, ?_, ?_, fun k hk => ?_⟩, (y_fr.refl.si (by omega) (by omega)).si (by omega) (by omega)⟩
          · unfold y_ju; simp (disch := omega) only [j_r_ne, j_r_eq, j_r_nj, y_ue, y_un, r]
          · unfold y_ju; simp (disch := omega) only [j_r_ne, j_r_eq, j_r_nj, y_ue, y_un, r, Nat.add_zero]; exact hJ.2.1
          · unfold y_ju; simp (disch := omega) only [j_r_ne, j_r_eq, j_r_nj, y_ue, y_un, y_lit, y_n1, nI_add, pk_mul, j_lt, j_b1_s, j_b2_s, j_b3_s, j_b0_s, y_bo, y_bo1, y_bo0, y_i0, y_i1, Classical.not_not, nI_clamp, y_ix, y_lt, y_le, y_eq, y_nP, y_nPs, y_ltP, y_ltQ, y_ltPP, y_eqP, y_eqQ, y_eqPP, if_pos, if_neg, ite_true, ite_false, not_true_eq_false, not_false_eq_true, and_true, true_and, and_false, false_and, or_true, true_or, or_false, false_or, Nat.add_zero]; exact hJ.2.2.1
          · unfold y_ju
            by_cases e : k = i
            · subst e; simp (disch := omega) only [j_r_ne, j_r_eq, j_r_nj, y_ue, y_un]
            · simp (disch := omega) only [j_r_ne, j_r_eq, j_r_nj, y_ue, y_un]; exact hJ.2.2.2 k hk
      · have r1 : g (3 * i + 2) = 1 := by omega
        simp (disch := omega) only [j_r_ne, j_r_eq, j_r_nj, y_lit, y_n1, nI_add, pk_mul, j_lt, j_b1_s, j_b2_s, j_b3_s, j_b0_s, y_bo, y_bo1, y_bo0, y_i0, y_i1, Classical.not_not, nI_clamp, y_ix, y_lt, y_le, y_eq, y_nP, y_nPs, y_ltP, y_ltQ, y_ltPP, y_eqP, y_eqQ, y_eqPP, if_pos, if_neg, ite_true, ite_false, not_true_eq_false, not_false_eq_true, and_true, true_and, and_false, false_and, or_true, true_or, or_false, false_or, ci, pk_sub, hJ.2.2.1]
        by_cases so : t - y_from b i < lag
        · simp (disch := omega) only [y_lit, y_n1, nI_add, pk_mul, j_lt, j_b1_s, j_b2_s, j_b3_s, j_b0_s, y_bo, y_bo1, y_bo0, y_i0, y_i1, Classical.not_not, nI_clamp, y_ix, y_lt, y_le, y_eq, y_nP, y_nPs, y_ltP, y_ltQ, y_ltPP, y_eqP, y_eqQ, y_eqPP, if_pos, if_neg, ite_true, ite_false, not_true_eq_false, not_false_eq_true, and_true, true_and, and_false, false_and, or_true, true_or, or_false, false_or, j_r_ne, j_r_eq, j_r_nj]
          refine ⟨_, rfl, ⟨?_, ?_, ?_, fun k hk => ?_⟩, ((y_fr.refl.si (by omega) (by omega)).si (by omega) (by omega)).si (by omega) (by omega)⟩
          · unfold y_ju; simp (disch := omega) only [j_r_ne, j_r_eq, j_r_nj, y_ue, y_un, r1, Nat.sub_self, Nat.add_zero]; exact hJ.1
          · unfold y_ju; simp (disch := omega) only [j_r_ne, j_r_eq, j_r_nj, y_ue, y_un, r1]
          · unfold y_ju; simp (disch := omega) only [j_r_ne, j_r_eq, j_r_nj, y_ue, y_un, y_lit, y_n1, nI_add, pk_mul, j_lt, j_b1_s, j_b2_s, j_b3_s, j_b0_s, y_bo, y_bo1, y_bo0, y_i0, y_i1, Classical.not_not, nI_clamp, y_ix, y_lt, y_le, y_eq, y_nP, y_nPs, y_ltP, y_ltQ, y_ltPP, y_eqP, y_eqQ, y_eqPP, if_pos, if_neg, ite_true, ite_false, not_true_eq_false, not_false_eq_true, and_true, true_and, and_false, false_and, or_true, true_or, or_false, false_or]
          · unfold y_ju
            by_cases e : k = i
            · subst e; simp (disch := omega) only [j_r_ne, j_r_eq, j_r_nj, y_ue, y_un]
            · simp (disch := omega) only [j_r_ne, j_r_eq, j_r_nj, y_ue, y_un]; exact hJ.2.2.2 k hk
        · simp (disch := omega) only [y_lit, y_n1, nI_add, pk_mul, j_lt, j_b1_s, j_b2_s, j_b3_s, j_b0_s, y_bo, y_bo1, y_bo0, y_i0, y_i1, Classical.not_not, nI_clamp, y_ix, y_lt, y_le, y_eq, y_nP, y_nPs, y_ltP, y_ltQ, y_ltPP, y_eqP, y_eqQ, y_eqPP, if_pos, if_neg, ite_true, ite_false, not_true_eq_false, not_false_eq_true, and_true, true_and, and_false, false_and, or_true, true_or, or_false, false_or, j_r_ne, j_r_eq, j_r_nj]
          refine ⟨_, rfl, ⟨?_, ?_, ?_, fun k hk => ?_⟩, (y_fr.refl.si (by omega) (by omega)).si (by omega) (by omega)⟩
          · unfold y_ju; simp (disch := omega) only [j_r_ne, j_r_eq, j_r_nj, y_ue, y_un, r1, Nat.sub_self, Nat.add_zero]; exact hJ.1
          · unfold y_ju; simp (disch := omega) only [j_r_ne, j_r_eq, j_r_nj, y_ue, y_un, r1]
          · unfold y_ju; simp (disch := omega) only [j_r_ne, j_r_eq, j_r_nj, y_ue, y_un, y_lit, y_n1, nI_add, pk_mul, j_lt, j_b1_s, j_b2_s, j_b3_s, j_b0_s, y_bo, y_bo1, y_bo0, y_i0, y_i1, Classical.not_not, nI_clamp, y_ix, y_lt, y_le, y_eq, y_nP, y_nPs, y_ltP, y_ltQ, y_ltPP, y_eqP, y_eqQ, y_eqPP, if_pos, if_neg, ite_true, ite_false, not_true_eq_false, not_false_eq_true, and_true, true_and, and_false, false_and, or_true, true_or, or_false, false_or, Nat.add_zero]; exact hJ.2.2.1
          · unfold y_ju
            by_cases e : k = i
            · subst e; simp (disch := omega) only [j_r_ne, j_r_eq, j_r_nj, y_ue, y_un]
            · simp (disch := omega) only [j_r_ne, j_r_eq, j_r_nj, y_ue, y_un]; exact hJ.2.2.2 k hk
end C
/-! ===== blows judged: the reference, and the three questions ===== -/
section M
variable {τ : j_G} {b g J : Nat → Nat} {s h t lag : Nat}
theorem y_mg.fr2 {τ τ' : j_G} {b g : Nat → Nat} {s : Nat} (hg : y_mg τ b s g) (e18 : τ'.1 75 18 = τ.1 75 18) (e82 : τ'.1 82 = τ.1 82) (e83 : τ'.1 83 = τ.1 83) (e84 : τ'.1 84 = τ.1 84) : y_mg τ' b s g := by
  unfold y_mg at *; rw [e18, e82, e83, e84]; exact hg
theorem ym_strike (hW : y_W b) (hg : y_mg τ b s g) (hv : y_vg b s g) (hj : y_jv g J s) (hJ : y_mj τ J s) (hh : h < 12) (ht : t < 300) (hlag : lag ≤ 20) : ∃ τ', f_X12_strike (nI h) (nI t) (nI lag) τ = some τ' ∧ y_mj τ' (y_j1 b g s h t lag J) s ∧ y_fm 39 41 93 93 τ τ' := by
  have hs := hv.1
  have h2 := hW.b2
  have h4 := hW.ho
  have side : ∀ i, i < s → (j_b1 (f_X12_inGame (nI i) (nI 0) τ) fun v1 => j_b1 (if v1 = nI h then (some (nI 1)) else (j_b1 (f_X12_inGame (nI i) (nI 1) τ) fun v3 => if v3 = nI h then (some (nI 2)) else (some (nI 0)))) fun v2 => some v2) = some (nI (y_sd g i h)) := by
    intro i hi
    have gi := hg.2 i hi
    have vi := hv.2 i hi
    unfold f_X12_inGame y_sd
    simp (disch := omega) only [y_lit, y_n1, nI_add, pk_mul, j_lt, j_b1_s, j_b2_s, j_b3_s, j_b0_s, y_bo, y_bo1, y_bo0, y_i0, y_i1, Classical.not_not, nI_clamp, y_ix, y_lt, y_le, y_eq, y_nP, y_nPs, y_ltP, y_ltQ, y_ltPP, y_eqP, y_eqQ, y_eqPP, if_pos, if_neg, ite_true, ite_false, not_true_eq_false, not_false_eq_true, and_true, true_and, and_false, false_and, or_true, true_or, or_false, false_or, Nat.add_zero, gi]
    by_cases c1 : g (3 * i) = h
    · simp (disch := omega) only [y_lit, y_n1, nI_add, pk_mul, j_lt, j_b1_s, j_b2_s, j_b3_s, j_b0_s, y_bo, y_bo1, y_bo0, y_i0, y_i1, Classical.not_not, nI_clamp, y_ix, y_lt, y_le, y_eq, y_nP, y_nPs, y_ltP, y_ltQ, y_ltPP, y_eqP, y_eqQ, y_eqPP, if_pos, if_neg, ite_true, ite_false, not_true_eq_false, not_false_eq_true, and_true, true_and, and_false, false_and, or_true, true_or, or_false, false_or]
    · by_cases c2 : g (3 * i + 1) = h + 1
      · simp (disch := omega) only [y_lit, y_n1, nI_add, pk_mul, j_lt, j_b1_s, j_b2_s, j_b3_s, j_b0_s, y_bo, y_bo1, y_bo0, y_i0, y_i1, Classical.not_not, nI_clamp, y_ix, y_lt, y_le, y_eq, y_nP, y_nPs, y_ltP, y_ltQ, y_ltPP, y_eqP, y_eqQ, y_eqPP, if_pos, if_neg, ite_true, ite_false, not_true_eq_false, not_false_eq_true, and_true, true_and, and_false, false_and, or_true, true_or, or_false, false_or]
      · simp (disch := omega) only [y_lit, y_n1, nI_add, pk_mul, j_lt, j_b1_s, j_b2_s, j_b3_s, j_b0_s, y_bo, y_bo1, y_bo0, y_i0, y_i1, Classical.not_not, nI_clamp, y_ix, y_lt, y_le, y_eq, y_nP, y_nPs, y_ltP, y_ltQ, y_ltPP, y_eqP, y_eqQ, y_eqPP, if_pos, if_neg, ite_true, ite_false, not_true_eq_false, not_false_eq_true, and_true, true_and, and_false, false_and, or_true, true_or, or_false, false_or]
  have stp : ∀ i n, i < s → p_X12_strike_3 (nI h) (nI t) (nI lag) τ (n + 1) (nI i) = (if ¬ nI (y_sd g i h) = nI 0 then (if ¬ (if y_from b i ≤ t ∧ t ≤ y_last b i then nI 1 else nI 0) = nI 0 then (if ¬ (nI (J (10 + i)) &&& nI (y_sd g i h)) = nI 0 then p_X12_strike_3 (nI h) (nI t) (nI lag) τ n (nI (i + 1)) else (some (j_si (j_si (j_si (j_si τ 93 i (nI (J (10 + i)) ||| nI (y_sd g i h))) 75 39 (nI (J 0) + (nI 1 - nI (g (3 * i + 2))))) 75 40 (nI (J 1) + nI (g (3 * i + 2)))) 75 41 (nI (J 2) + (if nI t - nI (y_from b i) < nI lag then nI 1 else nI 0))))) else p_X12_strike_3 (nI h) (nI t) (nI lag) τ n (nI (i + 1))) else p_X12_strike_3 (nI h) (nI t) (nI lag) τ n (nI (i + 1))) := by
    intro i n hi
    have gi := hg.2 i hi
    have vi := hv.2 i hi
    have ji := hj i hi
    have le := y_last_le hW i
    have hlt : nI i < nI s := (y_lt (by omega) (by omega)).mpr hi
    have ein : f_X12_in (nI t).toInt64 (nI (y_from b i)).toInt64 (nI (y_last b i)).toInt64 = if y_from b i ≤ t ∧ t ≤ y_last b i then nI 1 else nI 0 := by
      rw [y_in]
      by_cases q : y_from b i ≤ t ∧ t ≤ y_last b i
      · rw [if_pos q, if_pos ⟨by rw [y_lt (by omega) (by omega)]; omega, by rw [y_lt (by omega) (by omega)]; omega⟩]
      · rw [if_neg q, if_neg]
        rw [y_lt (by omega) (by omega), y_lt (by omega) (by omega)]; omega
    have sd := side i hi
    have ig0 : f_X12_inGame (nI i) (nI 0) τ = some (nI (g (3 * i))) := by unfold f_X12_inGame; simp (disch := omega) only [y_lit, y_n1, nI_add, pk_mul, j_lt, j_b1_s, j_b2_s, j_b3_s, j_b0_s, y_bo, y_bo1, y_bo0, y_i0, y_i1, Classical.not_not, nI_clamp, y_ix, y_lt, y_le, y_eq, y_nP, y_nPs, y_ltP, y_ltQ, y_ltPP, y_eqP, y_eqQ, y_eqPP, if_pos, if_neg, ite_true, ite_false, not_true_eq_false, not_false_eq_true, and_true, true_and, and_false, false_and, or_true, true_or, or_false, false_or, Nat.add_zero, gi]
    have ig1 : f_X12_inGame (nI i) (nI 1) τ = some (nP (g (3 * i + 1))) := by unfold f_X12_inGame; simp (disch := omega) only [y_lit, y_n1, nI_add, pk_mul, j_lt, j_b1_s, j_b2_s, j_b3_s, j_b0_s, y_bo, y_bo1, y_bo0, y_i0, y_i1, Classical.not_not, nI_clamp, y_ix, y_lt, y_le, y_eq, y_nP, y_nPs, y_ltP, y_ltQ, y_ltPP, y_eqP, y_eqQ, y_eqPP, if_pos, if_neg, ite_true, ite_false, not_true_eq_false, not_false_eq_true, and_true, true_and, and_false, false_and, or_true, true_or, or_false, false_or, gi]
    have ig2 : ∀ τ' : j_G, τ'.1 82 = τ.1 82 → f_X12_inGame (nI i) (nI 2) τ' = some (nI (g (3 * i + 2))) := by
      intro τ' e; unfold f_X12_inGame; simp (disch := omega) only [y_lit, y_n1, nI_add, pk_mul, j_lt, j_b1_s, j_b2_s, j_b3_s, j_b0_s, y_bo, y_bo1, y_bo0, y_i0, y_i1, Classical.not_not, nI_clamp, y_ix, y_lt, y_le, y_eq, y_nP, y_nPs, y_ltP, y_ltQ, y_ltPP, y_eqP, y_eqQ, y_eqPP, if_pos, if_neg, ite_true, ite_false, not_true_eq_false, not_false_eq_true, and_true, true_and, and_false, false_and, or_true, true_or, or_false, false_or, e, gi]
    have sdv : (if nI (g (3 * i)) = nI h then some (nI 1) else (j_b1 (some (nP (g (3 * i + 1)))) fun v3 => if v3 = nI h then (some (nI 2)) else (some (nI 0)))) = some (nI (y_sd g i h)) := by
      unfold y_sd
      by_cases c1 : g (3 * i) = h
      · simp (disch := omega) only [y_lit, y_n1, nI_add, pk_mul, j_lt, j_b1_s, j_b2_s, j_b3_s, j_b0_s, y_bo, y_bo1, y_bo0, y_i0, y_i1, Classical.not_not, nI_clamp, y_ix, y_lt, y_le, y_eq, y_nP, y_nPs, y_ltP, y_ltQ, y_ltPP, y_eqP, y_eqQ, y_eqPP, if_pos, if_neg, ite_true, ite_false, not_true_eq_false, not_false_eq_true, and_true, true_and, and_false, false_and, or_true, true_or, or_false, false_or]
      · by_cases c2 : g (3 * i + 1) = h + 1
        · simp (disch := omega) only [y_lit, y_n1, nI_add, pk_mul, j_lt, j_b1_s, j_b2_s, j_b3_s, j_b0_s, y_bo, y_bo1, y_bo0, y_i0, y_i1, Classical.not_not, nI_clamp, y_ix, y_lt, y_le, y_eq, y_nP, y_nPs, y_ltP, y_ltQ, y_ltPP, y_eqP, y_eqQ, y_eqPP, if_pos, if_neg, ite_true, ite_false, not_true_eq_false, not_false_eq_true, and_true, true_and, and_false, false_and, or_true, true_or, or_false, false_or]
        · simp (disch := omega) only [y_lit, y_n1, nI_add, pk_mul, j_lt, j_b1_s, j_b2_s, j_b3_s, j_b0_s, y_bo, y_bo1, y_bo0, y_i0, y_i1, Classical.not_not, nI_clamp, y_ix, y_lt, y_le, y_eq, y_nP, y_nPs, y_ltP, y_ltQ, y_ltPP, y_eqP, y_eqQ, y_eqPP, if_pos, if_neg, ite_true, ite_false, not_true_eq_false, not_false_eq_true, and_true, true_and, and_false, false_and, or_true, true_or, or_false, false_or]
    rw [p_X12_strike_3, hg.1, if_pos hlt, show (0 : Int32) = nI 0 from rfl, show (1 : Int32) = nI 1 from rfl, show (2 : Int32) = nI 2 from rfl, ig0, j_b1_s, ig1, sdv, j_b1_s]
    simp only [j_lt]
    simp (disch := omega) only [y_ix, nI_clamp, gi, ein, hJ.2.2.2 i hi, nI_add]
    rw [ig2 _ (by funext j; simp (disch := omega) only [j_r_ne, j_r_eq, j_r_nj]), j_b1_s, ig2 _ (by funext j; simp (disch := omega) only [j_r_ne, j_r_eq, j_r_nj]), j_b1_s]
    simp (disch := omega) only [j_r_ne, j_r_eq, j_r_nj, hJ.1, hJ.2.1, hJ.2.2.1, gi, nI_add]
  have skip : ∀ m i n, i + m = s → m < n → (∀ j, i ≤ j → j < s → t < y_from b j) → p_X12_strike_3 (nI h) (nI t) (nI lag) τ n (nI i) = some τ := by
    intro m
    induction m with
    | zero =>
      intro i n hh hn _
      obtain ⟨n, rfl⟩ := y_pos hn
      unfold p_X12_strike_3; simp (disch := omega) only [y_lit, y_n1, nI_add, pk_mul, j_lt, j_b1_s, j_b2_s, j_b3_s, j_b0_s, y_bo, y_bo1, y_bo0, y_i0, y_i1, Classical.not_not, nI_clamp, y_ix, y_lt, y_le, y_eq, y_nP, y_nPs, y_ltP, y_ltQ, y_ltPP, y_eqP, y_eqQ, y_eqPP, if_pos, if_neg, ite_true, ite_false, not_true_eq_false, not_false_eq_true, and_true, true_and, and_false, false_and, or_true, true_or, or_false, false_or, hg.1]
    | succ m ih =>
      intro i n hh hn hl
      obtain ⟨n, rfl⟩ := y_pos hn
      have i1 := ih (i + 1) n (by omega) (by omega) (fun j a c => hl j (by omega) c)
      have := hl i (by omega) (by omega)
      rw [stp i n (by omega), i1, if_neg (fun q : y_from b i ≤ t ∧ t ≤ y_last b i => by omega), if_neg (show ¬ ¬ nI 0 = nI 0 from fun q => q rfl)]
      split <;> rfl
  have key : ∀ m i n, i + m = s → m < n → ∃ τ', p_X12_strike_3 (nI h) (nI t) (nI lag) τ n (nI i) = some τ' ∧ y_mj τ' (if y_ui b t m i = 0 then J else y_jo b g (y_ui b t m i - 1) h t lag J) s ∧ y_fm 39 41 93 93 τ τ' := by
    intro m
    induction m with
    | zero =>
      intro i n hh hn
      obtain ⟨n, rfl⟩ := y_pos hn
      refine ⟨τ, ?_, hJ, y_fm.refl⟩
      unfold p_X12_strike_3; simp (disch := omega) only [y_lit, y_n1, nI_add, pk_mul, j_lt, j_b1_s, j_b2_s, j_b3_s, j_b0_s, y_bo, y_bo1, y_bo0, y_i0, y_i1, Classical.not_not, nI_clamp, y_ix, y_lt, y_le, y_eq, y_nP, y_nPs, y_ltP, y_ltQ, y_ltPP, y_eqP, y_eqQ, y_eqPP, if_pos, if_neg, ite_true, ite_false, not_true_eq_false, not_false_eq_true, and_true, true_and, and_false, false_and, or_true, true_or, or_false, false_or, hg.1]
    | succ m ih =>
      intro i n hh hn
      obtain ⟨n, rfl⟩ := y_pos hn
      have vi := hv.2 i (by omega)
      have ji := hj i (by omega)
      have le := y_last_le hW i
      rw [stp i n (by omega)]
      unfold y_ui
      by_cases c : y_from b i ≤ t ∧ t ≤ y_last b i
      · have sk := skip m (i + 1) n (by omega) (by omega) (fun j a d => by have := y_apart2 hW (show i < j by omega); omega)
        rw [if_pos c, if_pos c, if_neg (Nat.succ_ne_zero i), Nat.add_sub_cancel, sk]
        unfold y_jo
        rw [if_pos (show ¬ nI 1 = nI 0 from by decide)]
        by_cases a0 : y_sd g i h = 0
        · rw [if_pos a0, a0, if_neg (fun q => q rfl)]
          exact ⟨τ, rfl, hJ, y_fm.refl⟩
        · have scs := y_sd_c g i h
          have n0 : ¬ nI (y_sd g i h) = nI 0 := by rw [y_eq (by omega) (by omega)]; exact a0
          rw [if_neg a0, if_pos n0, y_and]
          have vs := y_vs (J (10 + i)) (by omega) (y_sd g i h) (by omega) a0
          have al : J (10 + i) &&& y_sd g i h < 4 := Nat.and_lt_two_pow (n := 2) _ (by omega)
          by_cases a1 : J (10 + i) / y_sd g i h % 2 = 1
          · rw [if_pos a1, if_pos (by rw [y_eq (by omega) (by omega)]; exact fun q => vs.1.mp q a1)]
            exact ⟨τ, rfl, hJ, y_fm.refl⟩
          · rw [if_neg a1, if_neg (by rw [y_eq (by omega) (by omega)]; exact fun q => q (vs.1.mpr a1))]
            refine ⟨_, rfl, ⟨?_, ?_, ?_, fun k hk => ?_⟩, (((y_fm.refl.si (by omega) (by omega) (by omega)).so (by omega) (by omega)).so (by omega) (by omega)).so (by omega) (by omega)⟩
            · unfold y_ju; simp (disch := omega) only [j_r_ne, j_r_eq, j_r_nj, y_ue, y_un, pk_sub, nI_add]
            · unfold y_ju; simp (disch := omega) only [j_r_ne, j_r_eq, j_r_nj, y_ue, y_un, nI_add]
            · unfold y_ju; simp (disch := omega) only [j_r_ne, j_r_eq, j_r_nj, y_ue, y_un, pk_sub, y_lt, y_pI, nI_add]
            · unfold y_ju
              by_cases e : k = i
              · subst e; simp (disch := omega) only [j_r_ne, j_r_eq, j_r_nj, y_ue, y_un, y_or, (vs.2 a1).1]
              · simp (disch := omega) only [j_r_ne, j_r_eq, j_r_nj, y_ue, y_un]; exact hJ.2.2.2 k hk
      · rw [if_neg c, if_neg c, if_neg (show ¬ ¬ nI 0 = nI 0 from fun q => q rfl)]
        obtain ⟨τ', e1, e2, e3⟩ := ih (i + 1) n (by omega) (by omega)
        refine ⟨τ', ?_, e2, e3⟩
        rw [e1]
        split <;> rfl
  have k := key s 0 j_F (by omega) (y_F (by omega))
  unfold f_X12_strike y_j1
  exact k
end M
section B
variable {b g e : Nat → Nat} {s lag n : Nat}
theorem y_tk0 {i : Nat} : y_tk g i 0 = 0 := by
  unfold y_tk; rw [if_neg (by decide), if_neg (by decide)]; rfl
theorem y_jv0 : y_jv g (fun _ => 0) s := fun i _ => ⟨Nat.zero_le _, fun z => absurd (show 0 / 2 = 1 from z) (by decide)⟩
theorem y_j1_v {J : Nat → Nat} {h t : Nat} (hv : y_vg b s g) (hj : y_jv g J s) : y_jv g (y_j1 b g s h t lag J) s := by
  have ul := y_ui_le (b := b) (t := t) s 0
  unfold y_j1
  split
  · exact hj
  · exact y_jo_v hv.1 hj (by omega)
theorem yc_jl {σ0 τ0 : j_G} {sl c d : Nat} (hW : y_W b) (hv : y_vg b s g) (hlag : lag ≤ 20) (hd : y_hd σ0 τ0 sl c d n e) (hee : ∀ i, 2 * i < n → e (2 * i) < y_ho b ∧ e (2 * i + 1) < b 2) (hev : n % 2 = 0) : ∀ m i f J σ, 2 * i + 2 * m = n → m < f → y_cg σ b s g → y_jv g J s → y_cj σ g J s → (∀ j, σ.1 c j = σ0.1 c j) → (∀ j, σ.2 d j = σ0.2 d j) → ∃ σ', p_X1_judge_44 c d (nI lag) f (nI (2 * i)) σ = some σ' ∧ y_cj σ' g (y_jl b g s e lag m (2 * i) J) s ∧ y_fr 40 41 σ σ' := by
  have h2 := hW.b2
  have h4 := hW.ho
  have hcd : c ≠ 40 ∧ c ≠ 41 ∧ 41 < c ∧ 41 < d := by have := hd.1; unfold y_sc at this; omega
  have hn := hd.2.1
  intro m
  induction m with
  | zero =>
    intro i f J σ hh hf hc hj hJ e1 e2
    obtain ⟨f, rfl⟩ := y_pos hf
    refine ⟨σ, ?_, hJ, y_fr.refl⟩
    unfold p_X1_judge_44; simp (disch := omega) only [y_lit, y_n1, nI_add, pk_mul, j_lt, j_b1_s, j_b2_s, j_b3_s, j_b0_s, y_bo, y_bo1, y_bo0, y_i0, y_i1, Classical.not_not, nI_clamp, y_ix, y_lt, y_le, y_eq, y_nP, y_nPs, y_ltP, y_ltQ, y_ltPP, y_eqP, y_eqQ, y_eqPP, if_pos, if_neg, ite_true, ite_false, not_true_eq_false, not_false_eq_true, and_true, true_and, and_false, false_and, or_true, true_or, or_false, false_or, e1, hd.2.2.1]
  | succ m ih =>
    intro i f J σ hh hf hc hj hJ e1 e2
    obtain ⟨f, rfl⟩ := y_pos hf
    have x1 := (hd.2.2.2.2 (2 * i) (by omega)).2.1
    have x2 := (hd.2.2.2.2 (2 * i + 1) (by omega)).2.1
    have bd := hee i (by omega)
    obtain ⟨σ1, k1, k2, k3⟩ := yc_judge1 (h := e (2 * i)) (t := e (2 * i + 1)) hW hc hv hj hJ (by omega) (by omega) hlag
    have hc1 := hc.fr k3 (by omega)
    obtain ⟨σ2, g1, g2, g3⟩ := ih (i + 1) f _ σ1 (by omega) (by omega) hc1 (y_j1_v hv hj) k2 (fun j => by rw [k3.i c j (by omega), e1]) (fun j => by rw [k3.l d j (by omega), e2])
    refine ⟨σ2, ?_, g2, k3.trans g3⟩
    unfold p_X1_judge_44; simp (disch := omega) only [y_lit, y_n1, nI_add, pk_mul, j_lt, j_b1_s, j_b2_s, j_b3_s, j_b0_s, y_bo, y_bo1, y_bo0, y_i0, y_i1, Classical.not_not, nI_clamp, y_ix, y_lt, y_le, y_eq, y_nP, y_nPs, y_ltP, y_ltQ, y_ltPP, y_eqP, y_eqQ, y_eqPP, if_pos, if_neg, ite_true, ite_false, not_true_eq_false, not_false_eq_true, and_true, true_and, and_false, false_and, or_true, true_or, or_false, false_or, e1, hd.2.2.1, e2, x1, x2, lN_i, k1]
    rw [show 2 * i + 2 = 2 * (i + 1) from by omega]
    exact g1
theorem ym_jl {σ0 τ0 : j_G} {sl c d : Nat} (hW : y_W b) (hv : y_vg b s g) (hlag : lag ≤ 20) (hd : y_hd σ0 τ0 sl c d n e) (hee : ∀ i, 2 * i < n → e (2 * i) < y_ho b ∧ e (2 * i + 1) < b 2) (hev : n % 2 = 0) : ∀ m i f J τ, 2 * i + 2 * m = n → m < f → y_mg τ b s g → y_jv g J s → y_mj τ J s → (∀ j, τ.1 94 j = τ0.1 94 j) → (∀ j, τ.2 96 j = τ0.2 96 j) → ∃ τ', p_X12_layBlows_44 (nI sl) (nI lag) f (nI (2 * i)) τ = some τ' ∧ y_mj τ' (y_jl b g s e lag m (2 * i) J) s ∧ y_fm 39 41 93 93 τ τ' := by
  have h2 := hW.b2
  have h4 := hW.ho
  have hs4 := hd.s4
  have hn := hd.2.1
  intro m
  induction m with
  | zero =>
    intro i f J τ hh hf hc hj hJ e1 e2
    obtain ⟨f, rfl⟩ := y_pos hf
    refine ⟨τ, ?_, hJ, y_fm.refl⟩
    unfold p_X12_layBlows_44; simp (disch := omega) only [y_lit, y_n1, nI_add, pk_mul, j_lt, j_b1_s, j_b2_s, j_b3_s, j_b0_s, y_bo, y_bo1, y_bo0, y_i0, y_i1, Classical.not_not, nI_clamp, y_ix, y_lt, y_le, y_eq, y_nP, y_nPs, y_ltP, y_ltQ, y_ltPP, y_eqP, y_eqQ, y_eqPP, if_pos, if_neg, ite_true, ite_false, not_true_eq_false, not_false_eq_true, and_true, true_and, and_false, false_and, or_true, true_or, or_false, false_or, e1, hd.2.2.2.1]
  | succ m ih =>
    intro i f J τ hh hf hc hj hJ e1 e2
    obtain ⟨f, rfl⟩ := y_pos hf
    have x1 := (hd.2.2.2.2 (2 * i) (by omega)).2.2
    have x2 := (hd.2.2.2.2 (2 * i + 1) (by omega)).2.2
    rw [← Nat.add_assoc] at x2
    have bd := hee i (by omega)
    obtain ⟨τ1, k1, k2, k3⟩ := ym_strike (h := e (2 * i)) (t := e (2 * i + 1)) hW hc hv hj hJ (by omega) (by omega) hlag
    have hc1 := hc.fr k3 (by omega) (by omega)
    obtain ⟨τ2, g1, g2, g3⟩ := ih (i + 1) f _ τ1 (by omega) (by omega) hc1 (y_j1_v hv hj) k2 (fun j => by rw [k3.i 94 j (by omega) (by omega), e1]) (fun j => by rw [k3.l 96 j (by omega) (by omega), e2])
    refine ⟨τ2, ?_, g2, k3.trans g3⟩
    unfold p_X12_layBlows_44 f_X12_numberAt; simp (disch := omega) only [y_lit, y_n1, nI_add, pk_mul, j_lt, j_b1_s, j_b2_s, j_b3_s, j_b0_s, y_bo, y_bo1, y_bo0, y_i0, y_i1, Classical.not_not, nI_clamp, y_ix, y_lt, y_le, y_eq, y_nP, y_nPs, y_ltP, y_ltQ, y_ltPP, y_eqP, y_eqQ, y_eqPP, if_pos, if_neg, ite_true, ite_false, not_true_eq_false, not_false_eq_true, and_true, true_and, and_false, false_and, or_true, true_or, or_false, false_or, e1, hd.2.2.2.1, e2, x1, x2, lN_i, k1, ← Nat.add_assoc]
    rw [show 2 * i + 2 = 2 * (i + 1) from by omega]
    exact g1
theorem yc_clr : ∀ (m i n : Nat) (σ : j_G) (x : Int32), i + m = s → s ≤ 60 → m < n → σ.1 22 0 = nI s → (∀ j, j < i → σ.1 41 j = nI 0) → ∃ σ', p_X1_judge_18 22 41 x n (nI i) σ = some σ' ∧ (∀ j, j < s → σ'.1 41 j = nI 0) ∧ y_fr 41 41 σ σ' := by
  intro m
  induction m with
  | zero =>
    intro i n σ x hh hs hn h0 hj
    obtain ⟨n, rfl⟩ := y_pos hn
    refine ⟨σ, ?_, fun j hj' => hj j (by omega), y_fr.refl⟩
    unfold p_X1_judge_18; simp (disch := omega) only [y_lit, y_n1, nI_add, pk_mul, j_lt, j_b1_s, j_b2_s, j_b3_s, j_b0_s, y_bo, y_bo1, y_bo0, y_i0, y_i1, Classical.not_not, nI_clamp, y_ix, y_lt, y_le, y_eq, y_nP, y_nPs, y_ltP, y_ltQ, y_ltPP, y_eqP, y_eqQ, y_eqPP, if_pos, if_neg, ite_true, ite_false, not_true_eq_false, not_false_eq_true, and_true, true_and, and_false, false_and, or_true, true_or, or_false, false_or, h0]
  | succ m ih =>
    intro i n σ x hh hs hn h0 hj
    obtain ⟨n, rfl⟩ := y_pos hn
    have f : y_fr 41 41 σ (j_si σ 41 i (nI 0)) := y_fr.refl.si (by omega) (by omega)
    obtain ⟨σ1, k1, k2, k3⟩ := ih (i + 1) n (j_si σ 41 i (nI 0)) x (by omega) hs (by omega) (by simp (disch := omega) only [j_r_ne, j_r_eq, j_r_nj, h0]) (fun j hj' => by
      by_cases e : j = i
      · subst e; simp (disch := omega) only [j_r_ne, j_r_eq, j_r_nj]
      · simp (disch := omega) only [j_r_ne, j_r_eq, j_r_nj]; exact hj j (by omega))
    refine ⟨σ1, ?_, k2, f.trans k3⟩
    unfold p_X1_judge_18; simp (disch := omega) only [y_lit, y_n1, nI_add, pk_mul, j_lt, j_b1_s, j_b2_s, j_b3_s, j_b0_s, y_bo, y_bo1, y_bo0, y_i0, y_i1, Classical.not_not, nI_clamp, y_ix, y_lt, y_le, y_eq, y_nP, y_nPs, y_ltP, y_ltQ, y_ltPP, y_eqP, y_eqQ, y_eqPP, if_pos, if_neg, ite_true, ite_false, not_true_eq_false, not_false_eq_true, and_true, true_and, and_false, false_and, or_true, true_or, or_false, false_or, h0]; exact k1
theorem ym_clr : ∀ (m i n : Nat) (τ : j_G) (x y : Int32), i + m = s → s ≤ 60 → m < n → τ.1 75 18 = nI s → (∀ j, j < i → τ.1 93 j = nI 0) → ∃ τ', p_X12_layBlows_21 x y n (nI i) τ = some τ' ∧ (∀ j, j < s → τ'.1 93 j = nI 0) ∧ y_fm 40 39 93 93 τ τ' := by
  intro m
  induction m with
  | zero =>
    intro i n τ x y hh hs hn h0 hj
    obtain ⟨n, rfl⟩ := y_pos hn
    refine ⟨τ, ?_, fun j hj' => hj j (by omega), y_fm.refl⟩
    unfold p_X12_layBlows_21; simp (disch := omega) only [y_lit, y_n1, nI_add, pk_mul, j_lt, j_b1_s, j_b2_s, j_b3_s, j_b0_s, y_bo, y_bo1, y_bo0, y_i0, y_i1, Classical.not_not, nI_clamp, y_ix, y_lt, y_le, y_eq, y_nP, y_nPs, y_ltP, y_ltQ, y_ltPP, y_eqP, y_eqQ, y_eqPP, if_pos, if_neg, ite_true, ite_false, not_true_eq_false, not_false_eq_true, and_true, true_and, and_false, false_and, or_true, true_or, or_false, false_or, h0]
  | succ m ih =>
    intro i n τ x y hh hs hn h0 hj
    obtain ⟨n, rfl⟩ := y_pos hn
    have f : y_fm 40 39 93 93 τ (j_si τ 93 i (nI 0)) := y_fm.refl.si (by omega) (by omega) (by omega)
    obtain ⟨σ1, k1, k2, k3⟩ := ih (i + 1) n (j_si τ 93 i (nI 0)) x y (by omega) hs (by omega) (by simp (disch := omega) only [j_r_ne, j_r_eq, j_r_nj, h0]) (fun j hj' => by
      by_cases e : j = i
      · subst e; simp (disch := omega) only [j_r_ne, j_r_eq, j_r_nj]
      · simp (disch := omega) only [j_r_ne, j_r_eq, j_r_nj]; exact hj j (by omega))
    refine ⟨σ1, ?_, k2, f.trans k3⟩
    unfold p_X12_layBlows_21; simp (disch := omega) only [y_lit, y_n1, nI_add, pk_mul, j_lt, j_b1_s, j_b2_s, j_b3_s, j_b0_s, y_bo, y_bo1, y_bo0, y_i0, y_i1, Classical.not_not, nI_clamp, y_ix, y_lt, y_le, y_eq, y_nP, y_nPs, y_ltP, y_ltQ, y_ltPP, y_eqP, y_eqQ, y_eqPP, if_pos, if_neg, ite_true, ite_false, not_true_eq_false, not_false_eq_true, and_true, true_and, and_false, false_and, or_true, true_or, or_false, false_or, h0]; exact k1
/-- the counts -/
noncomputable def y_J (b g : Nat → Nat) (s : Nat) (e : Nat → Nat) (n lag : Nat) : Nat → Nat := y_jl b g s e lag (n / 2) 0 (fun _ => 0)
theorem yc_judge {σ σ0 τ0 : j_G} {sl c d : Nat} (hW : y_W b) (hc : y_cg σ b s g) (hv : y_vg b s g) (hlag : lag ≤ 20) (hd : y_hd σ0 τ0 sl c d n e) (hee : ∀ i, 2 * i < n → e (2 * i) < y_ho b ∧ e (2 * i + 1) < b 2) (hev : n % 2 = 0) (h1 : ∀ j, σ.1 c j = σ0.1 c j) (h2 : ∀ j, σ.2 d j = σ0.2 d j) : ∃ σ', f_X1_judge 40 22 41 c d (nI lag) σ = some σ' ∧ σ'.1 40 0 = nI (y_J b g s e n lag 0) ∧ σ'.1 40 1 = nI (y_J b g s e n lag 1) ∧ σ'.1 40 2 = nI (y_J b g s e n lag 2) ∧ y_fr 40 41 σ σ' := by
  have hs := hv.1
  have hn := hd.2.1
  have hcd : 41 < c ∧ 41 < d := by have := hd.1; unfold y_sc at this; omega
  unfold f_X1_judge
  simp only [j_lt, y_lit]
  have f : y_fr 40 41 σ (j_si (j_si (j_si σ 40 0 (nI 0)) 40 1 (nI 0)) 40 2 (nI 0)) := ((y_fr.refl.si (by omega) (by omega)).si (by omega) (by omega)).si (by omega) (by omega)
  obtain ⟨σ1, k1, k2, k3⟩ := yc_clr s 0 j_F (j_si (j_si (j_si σ 40 0 (nI 0)) 40 1 (nI 0)) 40 2 (nI 0)) (nI lag) (by omega) hs (y_F (by omega)) (by simp (disch := omega) only [j_r_ne, j_r_eq, j_r_nj]; exact hc.1) (fun j hj => absurd hj (by omega))
  have k3' := k3.wide (lo' := 40) (hi' := 41) (by omega) (by omega)
  have hc1 := (hc.fr f (by omega)).fr k3 (by omega)
  have cj : y_cj σ1 g (fun _ => 0) s := by
    refine ⟨?_, ?_, ?_, fun i hi => ?_⟩
    · rw [k3.i 40 0 (by omega)]; simp (disch := omega) only [j_r_ne, j_r_eq, j_r_nj]
    · rw [k3.i 40 1 (by omega)]; simp (disch := omega) only [j_r_ne, j_r_eq, j_r_nj]
    · rw [k3.i 40 2 (by omega)]; simp (disch := omega) only [j_r_ne, j_r_eq, j_r_nj]
    · rw [k2 i hi]; show nI 0 = nI (y_tk g i 0); rw [y_tk0]
  obtain ⟨σ2, g1, g2, g3⟩ := yc_jl hW hv hlag hd hee hev (n / 2) 0 j_F (fun _ => 0) σ1 (by omega) (y_F (by omega)) hc1 y_jv0 cj (fun j => by rw [k3.i c j (by omega), f.i c j (by omega), h1]) (fun j => by rw [k3.l d j (by omega), f.l d j (by omega), h2])
  rw [k1, j_b1_s]
  rw [Nat.mul_zero] at g1 g2
  rw [g1]
  exact ⟨σ2, rfl, g2.1, g2.2.1, g2.2.2.1, f.trans (k3'.trans g3)⟩
theorem ym_judge {τ σ0 : j_G} {sl c d : Nat} (hM : y_M τ b) (hW : y_W b) (hlag : lag ≤ 20) (hd : y_hd σ0 τ sl c d n e) (hee : ∀ i, 2 * i < n → e (2 * i) < y_ho b ∧ e (2 * i + 1) < b 2) (hev : n % 2 = 0) : ∃ τ', f_X12_layBlows (nI sl) (nI lag) τ = some τ' ∧ τ'.1 75 39 = nI (y_J b (y_dg b (b 8)) (y_gs b) e n lag 0) ∧ τ'.1 75 40 = nI (y_J b (y_dg b (b 8)) (y_gs b) e n lag 1) ∧ τ'.1 75 41 = nI (y_J b (y_dg b (b 8)) (y_gs b) e n lag 2) ∧ y_fm 18 42 80 93 τ τ' := by
  have hv := y_dg_vg hW (b 8)
  have hs := hv.1
  have hn := hd.2.1
  obtain ⟨τ1, e1, e2, e3⟩ := ym_laid hM hW
  unfold f_X12_layBlows
  rw [e1, j_b1_s]
  simp only [j_lt, y_lit]
  have f : y_fm 39 41 93 93 τ1 (j_si (j_si (j_si τ1 75 39 (nI 0)) 75 40 (nI 0)) 75 41 (nI 0)) := ((y_fm.refl.so (by omega) (by omega)).so (by omega) (by omega)).so (by omega) (by omega)
  obtain ⟨τ2, k1, k2, k3⟩ := ym_clr (s := y_gs b) (y_gs b) 0 j_F (j_si (j_si (j_si τ1 75 39 (nI 0)) 75 40 (nI 0)) 75 41 (nI 0)) (nI sl) (nI lag) (by omega) hs (y_F (by omega)) (by simp (disch := omega) only [j_r_ne, j_r_eq, j_r_nj]; exact e2.2.1) (fun j hj => absurd hj (by omega))
  have fk := f.trans (k3.wide (f' := 39) (g' := 41) (lo' := 93) (hi' := 93) (by omega) (by omega) (by omega) (by omega))
  have hg2 := e2.2.fr fk (by omega) (by omega)
  have cj : y_mj τ2 (fun _ => 0) (y_gs b) := by
    refine ⟨?_, ?_, ?_, fun i hi => k2 i hi⟩
    · rw [k3.1 39 (by omega)]; simp (disch := omega) only [j_r_ne, j_r_eq, j_r_nj]
    · rw [k3.1 40 (by omega)]; simp (disch := omega) only [j_r_ne, j_r_eq, j_r_nj]
    · rw [k3.1 41 (by omega)]; simp (disch := omega) only [j_r_ne, j_r_eq, j_r_nj]
  obtain ⟨τ3, g1, g2, g3⟩ := ym_jl hW hv hlag hd hee hev (n / 2) 0 j_F (fun _ => 0) τ2 (by omega) (y_F (by omega)) hg2 y_jv0 cj (fun j => by rw [fk.i 94 j (by omega) (by omega), e3.i 94 j (by omega) (by omega)]) (fun j => by rw [fk.l 96 j (by omega) (by omega), e3.l 96 j (by omega) (by omega)])
  rw [k1, j_b1_s]
  rw [Nat.mul_zero] at g1 g2
  rw [g1]
  exact ⟨τ3, rfl, g2.1, g2.2.1, g2.2.2.1, e3.trans ((fk.trans g3).wide (by omega) (by omega) (by omega) (by omega))⟩
end B
/-! ===== counted, scored, early ===== -/
theorem y_k1000 {k : Int32} : k * nI 1000 = nI 1000 * k := Int32.mul_comm _ _
section Z
variable {σ τ : j_G}
theorem y_blows {b : Nat → Nat} (hR : j_Rel σ τ) (hW : y_W b) (hN : y_N σ b) (hM : y_M τ b) (hK : y_K σ τ) {a1 : Int32} {lag : Nat} (hlag : lag ≤ 20) : (∃ k : Int32, k < 0 ∧ ¬ k = 0 ∧ f_X11_whyNoBlows a1 σ = some (k, σ) ∧ f_X12_asksBlows a1 τ = some k) ∨ (∃ σ1 σ2 τ2 s c d x y z, y_sc s c d ∧ a1 = nI s ∧ f_X11_whyNoBlows a1 σ = some (nI 0, σ1) ∧ f_X1_judge 40 22 41 c d (nI lag) σ1 = some σ2 ∧ σ2.1 40 0 = nI x ∧ σ2.1 40 1 = nI y ∧ σ2.1 40 2 = nI z ∧ f_X12_asksBlows a1 τ = some (nI 0) ∧ f_X12_layBlows a1 (nI lag) τ = some τ2 ∧ τ2.1 75 39 = nI x ∧ τ2.1 75 40 = nI y ∧ τ2.1 75 41 = nI z ∧ j_Rel σ2 τ2) := by
  rcases y_whyB hW hN hM hK a1 with ⟨k, k1, k2, k3, k4⟩ | ⟨k4, h9, σ1, s, c, d, n, e, e1, e2, e3, rfl, ev, h, he⟩
  · exact Or.inl ⟨k, k1, k2, k3, k4⟩
  · have hcd : 41 < c ∧ 41 < d := by have := h.1; unfold y_sc at this; omega
    obtain ⟨σ2, g1, g2, g3, g4, g5⟩ := yc_judge (lag := lag) hW e2 (y_dg_vg hW _) hlag h he ev (fun j => e3.i c j (by omega)) (fun j => e3.l d j (by omega))
    obtain ⟨τ2, f1, f2, f3, f4, f5⟩ := ym_judge (lag := lag) hM hW hlag h he ev
    exact Or.inr ⟨σ1, σ2, τ2, s, c, d, _, _, _, h.1, rfl, e1, g1, g2, g3, g4, k4, f1, f2, f3, f4, y_done hR ((e3.wide (by omega) (by omega)).trans (g5.wide (by omega) (by omega))) f5⟩
theorem z_counted (hR : j_Rel σ τ) (a1 : Int32) : ∃ v σ1 τ1, f_X11_counted a1 σ = some (v, σ1) ∧ f_X12_counted a1 τ = some (v, τ1) ∧ j_Rel σ1 τ1 := by
  obtain ⟨b, hW, hN, hM, hK⟩ := id hR
  rcases y_blows (a1 := a1) (lag := 0) hR hW hN hM hK (by omega) with ⟨k, k1, k2, k3, k4⟩ | ⟨σ1, σ2, τ2, s, c, d, x, y, z, hc, rfl, e1, g1, g2, g3, g4, k4, f1, f2, f3, f4, hr⟩
  · refine ⟨k, σ, τ, ?_, ?_, hR⟩
    · unfold f_X11_counted; rw [k3, j_b2_s, if_pos k2]
    · unfold f_X12_counted; rw [k4, j_b1_s, if_pos k1]
  · refine ⟨nI x, σ2, τ2, ?_, ?_, hr⟩
    · unfold f_X11_counted
      rcases hc with ⟨rfl, rfl, rfl⟩ | ⟨rfl, rfl, rfl⟩ | ⟨rfl, rfl, rfl⟩ | ⟨rfl, rfl, rfl⟩
      · simp (disch := omega) only [y_lit, y_n1, nI_add, pk_mul, j_lt, j_b1_s, j_b2_s, j_b3_s, j_b0_s, y_bo, y_bo1, y_bo0, y_i0, y_i1, Classical.not_not, nI_clamp, y_ix, y_lt, y_le, y_eq, y_nP, y_nPs, y_ltP, y_ltQ, y_ltPP, y_eqP, y_eqQ, y_eqPP, if_pos, if_neg, ite_true, ite_false, not_true_eq_false, not_false_eq_true, and_true, true_and, and_false, false_and, or_true, true_or, or_false, false_or, e1, g1, g2]
      · simp (disch := omega) only [y_lit, y_n1, nI_add, pk_mul, j_lt, j_b1_s, j_b2_s, j_b3_s, j_b0_s, y_bo, y_bo1, y_bo0, y_i0, y_i1, Classical.not_not, nI_clamp, y_ix, y_lt, y_le, y_eq, y_nP, y_nPs, y_ltP, y_ltQ, y_ltPP, y_eqP, y_eqQ, y_eqPP, if_pos, if_neg, ite_true, ite_false, not_true_eq_false, not_false_eq_true, and_true, true_and, and_false, false_and, or_true, true_or, or_false, false_or, e1, g1, g2]
      · simp (disch := omega) only [y_lit, y_n1, nI_add, pk_mul, j_lt, j_b1_s, j_b2_s, j_b3_s, j_b0_s, y_bo, y_bo1, y_bo0, y_i0, y_i1, Classical.not_not, nI_clamp, y_ix, y_lt, y_le, y_eq, y_nP, y_nPs, y_ltP, y_ltQ, y_ltPP, y_eqP, y_eqQ, y_eqPP, if_pos, if_neg, ite_true, ite_false, not_true_eq_false, not_false_eq_true, and_true, true_and, and_false, false_and, or_true, true_or, or_false, false_or, e1, g1, g2]
      · simp (disch := omega) only [y_lit, y_n1, nI_add, pk_mul, j_lt, j_b1_s, j_b2_s, j_b3_s, j_b0_s, y_bo, y_bo1, y_bo0, y_i0, y_i1, Classical.not_not, nI_clamp, y_ix, y_lt, y_le, y_eq, y_nP, y_nPs, y_ltP, y_ltQ, y_ltPP, y_eqP, y_eqQ, y_eqPP, if_pos, if_neg, ite_true, ite_false, not_true_eq_false, not_false_eq_true, and_true, true_and, and_false, false_and, or_true, true_or, or_false, false_or, e1, g1, g2]
    · unfold f_X12_counted; simp (disch := omega) only [y_lit, y_n1, nI_add, pk_mul, j_lt, j_b1_s, j_b2_s, j_b3_s, j_b0_s, y_bo, y_bo1, y_bo0, y_i0, y_i1, Classical.not_not, nI_clamp, y_ix, y_lt, y_le, y_eq, y_nP, y_nPs, y_ltP, y_ltQ, y_ltPP, y_eqP, y_eqQ, y_eqPP, if_pos, if_neg, ite_true, ite_false, not_true_eq_false, not_false_eq_true, and_true, true_and, and_false, false_and, or_true, true_or, or_false, false_or, k4, f1, f2]
theorem z_scored (hR : j_Rel σ τ) (a1 : Int32) : ∃ v σ1 τ1, f_X11_scored a1 σ = some (v, σ1) ∧ f_X12_scored a1 τ = some (v, τ1) ∧ j_Rel σ1 τ1 := by
  obtain ⟨b, hW, hN, hM, hK⟩ := id hR
  rcases y_blows (a1 := a1) (lag := 0) hR hW hN hM hK (by omega) with ⟨k, k1, k2, k3, k4⟩ | ⟨σ1, σ2, τ2, s, c, d, x, y, z, hc, rfl, e1, g1, g2, g3, g4, k4, f1, f2, f3, f4, hr⟩
  · refine ⟨1000 * k, σ, τ, ?_, ?_, hR⟩
    · unfold f_X11_scored; rw [k3, j_b2_s, if_pos k2, Int32.mul_comm]
    · unfold f_X12_scored; rw [k4, j_b1_s, if_pos k1]
  · refine ⟨nI 10 * nI x - nI 20 * nI y, σ2, τ2, ?_, ?_, hr⟩
    · unfold f_X11_scored
      rcases hc with ⟨rfl, rfl, rfl⟩ | ⟨rfl, rfl, rfl⟩ | ⟨rfl, rfl, rfl⟩ | ⟨rfl, rfl, rfl⟩
      · simp (disch := omega) only [y_lit, y_n1, nI_add, pk_mul, j_lt, j_b1_s, j_b2_s, j_b3_s, j_b0_s, y_bo, y_bo1, y_bo0, y_i0, y_i1, Classical.not_not, nI_clamp, y_ix, y_lt, y_le, y_eq, y_nP, y_nPs, y_ltP, y_ltQ, y_ltPP, y_eqP, y_eqQ, y_eqPP, if_pos, if_neg, ite_true, ite_false, not_true_eq_false, not_false_eq_true, and_true, true_and, and_false, false_and, or_true, true_or, or_false, false_or, e1, g1, g2, g3]
      · simp (disch := omega) only [y_lit, y_n1, nI_add, pk_mul, j_lt, j_b1_s, j_b2_s, j_b3_s, j_b0_s, y_bo, y_bo1, y_bo0, y_i0, y_i1, Classical.not_not, nI_clamp, y_ix, y_lt, y_le, y_eq, y_nP, y_nPs, y_ltP, y_ltQ, y_ltPP, y_eqP, y_eqQ, y_eqPP, if_pos, if_neg, ite_true, ite_false, not_true_eq_false, not_false_eq_true, and_true, true_and, and_false, false_and, or_true, true_or, or_false, false_or, e1, g1, g2, g3]
      · simp (disch := omega) only [y_lit, y_n1, nI_add, pk_mul, j_lt, j_b1_s, j_b2_s, j_b3_s, j_b0_s, y_bo, y_bo1, y_bo0, y_i0, y_i1, Classical.not_not, nI_clamp, y_ix, y_lt, y_le, y_eq, y_nP, y_nPs, y_ltP, y_ltQ, y_ltPP, y_eqP, y_eqQ, y_eqPP, if_pos, if_neg, ite_true, ite_false, not_true_eq_false, not_false_eq_true, and_true, true_and, and_false, false_and, or_true, true_or, or_false, false_or, e1, g1, g2, g3]
      · simp (disch := omega) only [y_lit, y_n1, nI_add, pk_mul, j_lt, j_b1_s, j_b2_s, j_b3_s, j_b0_s, y_bo, y_bo1, y_bo0, y_i0, y_i1, Classical.not_not, nI_clamp, y_ix, y_lt, y_le, y_eq, y_nP, y_nPs, y_ltP, y_ltQ, y_ltPP, y_eqP, y_eqQ, y_eqPP, if_pos, if_neg, ite_true, ite_false, not_true_eq_false, not_false_eq_true, and_true, true_and, and_false, false_and, or_true, true_or, or_false, false_or, e1, g1, g2, g3]
    · unfold f_X12_scored; simp (disch := omega) only [y_lit, y_n1, nI_add, pk_mul, j_lt, j_b1_s, j_b2_s, j_b3_s, j_b0_s, y_bo, y_bo1, y_bo0, y_i0, y_i1, Classical.not_not, nI_clamp, y_ix, y_lt, y_le, y_eq, y_nP, y_nPs, y_ltP, y_ltQ, y_ltPP, y_eqP, y_eqQ, y_eqPP, if_pos, if_neg, ite_true, ite_false, not_true_eq_false, not_false_eq_true, and_true, true_and, and_false, false_and, or_true, true_or, or_false, false_or, k4, f1, f2, f3]
theorem z_early (hR : j_Rel σ τ) (a1 a2 : Int32) : ∃ v σ1 τ1, f_X11_early a1 a2 σ = some (v, σ1) ∧ f_X12_early a1 a2 τ = some (v, τ1) ∧ j_Rel σ1 τ1 := by
  obtain ⟨b, hW, hN, hM, hK⟩ := id hR
  by_cases h : y_rg a2 21
  · obtain ⟨lag, hlag, rfl⟩ := y_of _ _ h.1 h.2
    rcases y_blows (a1 := a1) (lag := lag) hR hW hN hM hK (by omega) with ⟨k, k1, k2, k3, k4⟩ | ⟨σ1, σ2, τ2, s, c, d, x, y, z, hc, rfl, e1, g1, g2, g3, g4, k4, f1, f2, f3, f4, hr⟩
    · refine ⟨k, σ, τ, ?_, ?_, hR⟩
      · have k2' : ¬ k = nI 0 := k2
        unfold f_X11_early; simp (disch := omega) only [y_lit, y_n1, nI_add, pk_mul, j_lt, j_b1_s, j_b2_s, j_b3_s, j_b0_s, y_bo, y_bo1, y_bo0, y_i0, y_i1, Classical.not_not, nI_clamp, y_ix, y_lt, y_le, y_eq, y_nP, y_nPs, y_ltP, y_ltQ, y_ltPP, y_eqP, y_eqQ, y_eqPP, if_pos, if_neg, ite_true, ite_false, not_true_eq_false, not_false_eq_true, and_true, true_and, and_false, false_and, or_true, true_or, or_false, false_or, k3, k2']
      · have k1' : k < nI 0 := k1
        unfold f_X12_early; simp (disch := omega) only [y_lit, y_n1, nI_add, pk_mul, j_lt, j_b1_s, j_b2_s, j_b3_s, j_b0_s, y_bo, y_bo1, y_bo0, y_i0, y_i1, Classical.not_not, nI_clamp, y_ix, y_lt, y_le, y_eq, y_nP, y_nPs, y_ltP, y_ltQ, y_ltPP, y_eqP, y_eqQ, y_eqPP, if_pos, if_neg, ite_true, ite_false, not_true_eq_false, not_false_eq_true, and_true, true_and, and_false, false_and, or_true, true_or, or_false, false_or, y_lit64, y_in, k4, k1']
    · refine ⟨nI z, σ2, τ2, ?_, ?_, hr⟩
      · unfold f_X11_early
        rcases hc with ⟨rfl, rfl, rfl⟩ | ⟨rfl, rfl, rfl⟩ | ⟨rfl, rfl, rfl⟩ | ⟨rfl, rfl, rfl⟩
        · simp (disch := omega) only [y_lit, y_n1, nI_add, pk_mul, j_lt, j_b1_s, j_b2_s, j_b3_s, j_b0_s, y_bo, y_bo1, y_bo0, y_i0, y_i1, Classical.not_not, nI_clamp, y_ix, y_lt, y_le, y_eq, y_nP, y_nPs, y_ltP, y_ltQ, y_ltPP, y_eqP, y_eqQ, y_eqPP, if_pos, if_neg, ite_true, ite_false, not_true_eq_false, not_false_eq_true, and_true, true_and, and_false, false_and, or_true, true_or, or_false, false_or, y_c5, h, e1, g1, g4]
        · simp (disch := omega) only [y_lit, y_n1, nI_add, pk_mul, j_lt, j_b1_s, j_b2_s, j_b3_s, j_b0_s, y_bo, y_bo1, y_bo0, y_i0, y_i1, Classical.not_not, nI_clamp, y_ix, y_lt, y_le, y_eq, y_nP, y_nPs, y_ltP, y_ltQ, y_ltPP, y_eqP, y_eqQ, y_eqPP, if_pos, if_neg, ite_true, ite_false, not_true_eq_false, not_false_eq_true, and_true, true_and, and_false, false_and, or_true, true_or, or_false, false_or, y_c5, h, e1, g1, g4]
        · simp (disch := omega) only [y_lit, y_n1, nI_add, pk_mul, j_lt, j_b1_s, j_b2_s, j_b3_s, j_b0_s, y_bo, y_bo1, y_bo0, y_i0, y_i1, Classical.not_not, nI_clamp, y_ix, y_lt, y_le, y_eq, y_nP, y_nPs, y_ltP, y_ltQ, y_ltPP, y_eqP, y_eqQ, y_eqPP, if_pos, if_neg, ite_true, ite_false, not_true_eq_false, not_false_eq_true, and_true, true_and, and_false, false_and, or_true, true_or, or_false, false_or, y_c5, h, e1, g1, g4]
        · simp (disch := omega) only [y_lit, y_n1, nI_add, pk_mul, j_lt, j_b1_s, j_b2_s, j_b3_s, j_b0_s, y_bo, y_bo1, y_bo0, y_i0, y_i1, Classical.not_not, nI_clamp, y_ix, y_lt, y_le, y_eq, y_nP, y_nPs, y_ltP, y_ltQ, y_ltPP, y_eqP, y_eqQ, y_eqPP, if_pos, if_neg, ite_true, ite_false, not_true_eq_false, not_false_eq_true, and_true, true_and, and_false, false_and, or_true, true_or, or_false, false_or, y_c5, h, e1, g1, g4]
      · unfold f_X12_early; simp (disch := omega) only [y_lit, y_n1, nI_add, pk_mul, j_lt, j_b1_s, j_b2_s, j_b3_s, j_b0_s, y_bo, y_bo1, y_bo0, y_i0, y_i1, Classical.not_not, nI_clamp, y_ix, y_lt, y_le, y_eq, y_nP, y_nPs, y_ltP, y_ltQ, y_ltPP, y_eqP, y_eqQ, y_eqPP, if_pos, if_neg, ite_true, ite_false, not_true_eq_false, not_false_eq_true, and_true, true_and, and_false, false_and, or_true, true_or, or_false, false_or, y_lit64, y_in, k4, f1, f4]
  · refine ⟨-2, σ, τ, ?_, ?_, hR⟩
    · unfold f_X11_early; simp (disch := omega) only [y_lit, y_n1, nI_add, pk_mul, j_lt, j_b1_s, j_b2_s, j_b3_s, j_b0_s, y_bo, y_bo1, y_bo0, y_i0, y_i1, Classical.not_not, nI_clamp, y_ix, y_lt, y_le, y_eq, y_nP, y_nPs, y_ltP, y_ltQ, y_ltPP, y_eqP, y_eqQ, y_eqPP, if_pos, if_neg, ite_true, ite_false, not_true_eq_false, not_false_eq_true, and_true, true_and, and_false, false_and, or_true, true_or, or_false, false_or, y_c5, h]
    · unfold f_X12_early; simp (disch := omega) only [y_lit, y_n1, nI_add, pk_mul, j_lt, j_b1_s, j_b2_s, j_b3_s, j_b0_s, y_bo, y_bo1, y_bo0, y_i0, y_i1, Classical.not_not, nI_clamp, y_ix, y_lt, y_le, y_eq, y_nP, y_nPs, y_ltP, y_ltQ, y_ltPP, y_eqP, y_eqQ, y_eqPP, if_pos, if_neg, ite_true, ite_false, not_true_eq_false, not_false_eq_true, and_true, true_and, and_false, false_and, or_true, true_or, or_false, false_or, y_lit64, y_in, y_c3, h]
end Z
/-! ===== count, row, write, paste ===== -/
/-- one slot's cells may be others -/
def y_ks (σ σ' τ τ' : j_G) (s c d : Nat) : Prop := (∀ x, x ≠ c → σ'.1 x = σ.1 x) ∧ (∀ x, x ≠ d → σ'.2 x = σ.2 x) ∧ (∀ x, x ≠ 94 → x ≠ 95 → τ'.1 x = τ.1 x) ∧ (∀ x, x ≠ 96 → x ≠ 97 → τ'.2 x = τ.2 x) ∧ (∀ j, j ≠ s → τ'.1 94 j = τ.1 94 j ∧ τ'.1 95 j = τ.1 95 j) ∧ ∀ j, j < 60 * s ∨ 60 * s + 60 ≤ j → τ'.2 96 j = τ.2 96 j
theorem y_sl.fr2 {σ τ σ' τ' : j_G} {s c d : Nat} (h : y_sl σ τ s c d) (e : σ'.1 c = σ.1 c) (e' : σ'.2 d = σ.2 d) (e1 : τ'.1 94 s = τ.1 94 s) (e2 : τ'.1 95 s = τ.1 95 s) (e3 : ∀ j, 60 * s ≤ j → j < 60 * s + 60 → τ'.2 96 j = τ.2 96 j) : y_sl σ' τ' s c d := by
  rcases h with ⟨h1, h2⟩ | ⟨n, w, h1, h2, h3, h4, h5, h6, h7⟩
  · exact Or.inl ⟨by rw [e]; exact h1, by rw [e1]; exact h2⟩
  · refine Or.inr ⟨n, w, h1, h2, by rw [e]; exact h3, by rw [e1]; exact h4, by rw [e]; exact h5, by rw [e2]; exact h6, fun i hi => ?_⟩
    rw [e', e3 _ (by omega) (by omega)]; exact h7 i hi
theorem y_K.slots {σ τ σ' τ' : j_G} {s c d : Nat} (h : y_K σ τ) (hc : y_sc s c d) (k : y_ks σ σ' τ τ' s c d) (hl : y_sl σ' τ' s c d) : y_K σ' τ' := by
  obtain ⟨⟨i0, i1, i2⟩, ⟨s0, s1, s2, s3⟩, ht, hf⟩ := h
  obtain ⟨k1, k2, k3, k4, k5, k6⟩ := k
  have hcc : 67 ≤ c ∧ c ≤ 73 := by unfold y_sc at hc; omega
  have e77 := k3 77 (by omega) (by omega)
  have e78 := k3 78 (by omega) (by omega)
  refine ⟨⟨i0.fr (fun x hx => k1 x (by omega)) e77 e78, i1.fr (fun x hx => k1 x (by omega)) e77 e78, i2.fr (fun x hx => k1 x (by omega)) e77 e78⟩, ⟨?_, ?_, ?_, ?_⟩, ?_, ?_⟩
  · by_cases e : s = 0
    · obtain ⟨rfl, rfl, rfl⟩ : s = 0 ∧ c = 67 ∧ d = 68 := by unfold y_sc at hc; omega
      exact hl
    · exact s0.fr2 (k1 67 (by unfold y_sc at hc; omega)) (k2 68 (by unfold y_sc at hc; omega)) (k5 0 (by omega)).1 (k5 0 (by omega)).2 (fun j a b => k6 j (by omega))
  · by_cases e : s = 1
    · obtain ⟨rfl, rfl, rfl⟩ : s = 1 ∧ c = 69 ∧ d = 70 := by unfold y_sc at hc; omega
      exact hl
    · exact s1.fr2 (k1 69 (by unfold y_sc at hc; omega)) (k2 70 (by unfold y_sc at hc; omega)) (k5 1 (by omega)).1 (k5 1 (by omega)).2 (fun j a b => k6 j (by omega))
  · by_cases e : s = 2
    · obtain ⟨rfl, rfl, rfl⟩ : s = 2 ∧ c = 71 ∧ d = 72 := by unfold y_sc at hc; omega
      exact hl
    · exact s2.fr2 (k1 71 (by unfold y_sc at hc; omega)) (k2 72 (by unfold y_sc at hc; omega)) (k5 2 (by omega)).1 (k5 2 (by omega)).2 (fun j a b => k6 j (by omega))
  · by_cases e : s = 3
    · obtain ⟨rfl, rfl, rfl⟩ : s = 3 ∧ c = 73 ∧ d = 74 := by unfold y_sc at hc; omega
      exact hl
    · exact s3.fr2 (k1 73 (by unfold y_sc at hc; omega)) (k2 74 (by unfold y_sc at hc; omega)) (k5 3 (by omega)).1 (k5 3 (by omega)).2 (fun j a b => k6 j (by omega))
  · unfold y_tp at *
    rw [k1 19 (by omega), k1 20 (by omega), k3 75 (by omega) (by omega), k3 79 (by omega) (by omega)]
    exact ht
  · unfold y_ft at *
    rw [k1 10 (by omega), k3 75 (by omega) (by omega)]
    exact hf
theorem y_slots {σ τ σ' τ' : j_G} {s c d : Nat} (hR : j_Rel σ τ) (hc : y_sc s c d) (k : y_ks σ σ' τ τ' s c d) (hl : y_sl σ' τ' s c d) : j_Rel σ' τ' := by
  obtain ⟨b, hW, hN, hM, hK⟩ := hR
  have hcc : 67 ≤ c ∧ c ≤ 73 := by unfold y_sc at hc; omega
  refine ⟨b, hW, ?_, ?_, hK.slots hc k hl⟩
  · unfold y_N y_cb at *
    rw [k.1 1 (by omega), k.1 2 (by omega), k.1 3 (by omega), k.1 4 (by omega), k.1 5 (by omega), k.1 6 (by omega), k.1 7 (by omega), k.1 8 (by omega)]
    exact hN
  · unfold y_M; rw [k.2.2.1 76 (by omega) (by omega)]; exact hM
section Z
variable {σ τ : j_G}
theorem z_count (hR : j_Rel σ τ) (a1 : Int32) : ∃ v, f_X11_count a1 σ = some v ∧ f_X12_count a1 τ = some v := by
  obtain ⟨b, hW, hN, hM, hK⟩ := id hR
  obtain ⟨n, hn, t1, t2, t3⟩ := hK.2.2.1
  have mk : ∀ s, s < 4 → ∃ c v, v ≤ 1 ∧ (∃ d, y_sc s c d) ∧ f_X8_isMade c σ = nI v ∧ (if τ.1 94 s = nP 0 then nI 0 else nI 1) = nI v := by
    intro s hs
    obtain ⟨c, d, hc, hk⟩ := hK.slot s hs
    rcases hk with ⟨k1, k2⟩ | ⟨m, w, hr⟩
    · refine ⟨c, 0, by omega, ⟨d, hc⟩, ?_, ?_⟩
      · unfold f_X8_isMade; simp (disch := omega) only [y_lit, y_n1, nI_add, pk_mul, j_lt, j_b1_s, j_b2_s, j_b3_s, j_b0_s, y_bo, y_bo1, y_bo0, y_i0, y_i1, Classical.not_not, nI_clamp, y_ix, y_lt, y_le, y_eq, y_nP, y_nPs, y_ltP, y_ltQ, y_ltPP, y_eqP, y_eqQ, y_eqPP, if_pos, if_neg, ite_true, ite_false, not_true_eq_false, not_false_eq_true, and_true, true_and, and_false, false_and, or_true, true_or, or_false, false_or, k1]
      · rw [k2, if_pos rfl]
    · obtain ⟨_, h1, h2, h3, h4, _⟩ := hr
      refine ⟨c, 1, by omega, ⟨d, hc⟩, ?_, ?_⟩
      · unfold f_X8_isMade; simp (disch := omega) only [y_lit, y_n1, nI_add, pk_mul, j_lt, j_b1_s, j_b2_s, j_b3_s, j_b0_s, y_bo, y_bo1, y_bo0, y_i0, y_i1, Classical.not_not, nI_clamp, y_ix, y_lt, y_le, y_eq, y_nP, y_nPs, y_ltP, y_ltQ, y_ltPP, y_eqP, y_eqQ, y_eqPP, if_pos, if_neg, ite_true, ite_false, not_true_eq_false, not_false_eq_true, and_true, true_and, and_false, false_and, or_true, true_or, or_false, false_or, h3]
      · rw [h4, if_neg (by rw [y_eqQ (by omega) (by omega)]; omega)]
  obtain ⟨c0, v0, l0, ⟨d0, q0⟩, x0, y0⟩ := mk 0 (by omega)
  obtain ⟨c1, v1, l1, ⟨d1, q1⟩, x1, y1⟩ := mk 1 (by omega)
  obtain ⟨c2, v2, l2, ⟨d2, q2⟩, x2, y2⟩ := mk 2 (by omega)
  obtain ⟨c3, v3, l3, ⟨d3, q3⟩, x3, y3⟩ := mk 3 (by omega)
  obtain rfl : c0 = 67 := by unfold y_sc at q0; omega
  obtain rfl : c1 = 69 := by unfold y_sc at q1; omega
  obtain rfl : c2 = 71 := by unfold y_sc at q2; omega
  obtain rfl : c3 = 73 := by unfold y_sc at q3; omega
  have st : ∀ v a, v ≤ 1 → (if ¬ nI v = nI 0 then nI a + nI 1 else nI a) = nI (a + v) := by
    intro v a hv
    by_cases z : v = 0
    · subst z; rw [if_neg (fun q => q rfl)]; rfl
    · obtain rfl : v = 1 := by omega
      rw [if_pos (by decide), nI_add]
  have rk : f_X11_rowsKept σ = some (nI (0 + v0 + v1 + v2 + v3)) := by
    have s0 : ∀ n a, p_X11_rowsKept_4 σ (n + 1) (nI a) (nI 0) = p_X11_rowsKept_4 σ n (nI (a + v0)) (nI 1) := by
      intro n a
      rw [← st v0 a l0, p_X11_rowsKept_4]; simp (disch := omega) only [y_lit, y_n1, nI_add, pk_mul, j_lt, j_b1_s, j_b2_s, j_b3_s, j_b0_s, y_bo, y_bo1, y_bo0, y_i0, y_i1, Classical.not_not, nI_clamp, y_ix, y_lt, y_le, y_eq, y_nP, y_nPs, y_ltP, y_ltQ, y_ltPP, y_eqP, y_eqQ, y_eqPP, if_pos, if_neg, ite_true, ite_false, not_true_eq_false, not_false_eq_true, and_true, true_and, and_false, false_and, or_true, true_or, or_false, false_or, x0]
    have s1 : ∀ n a, p_X11_rowsKept_4 σ (n + 1) (nI a) (nI 1) = p_X11_rowsKept_4 σ n (nI (a + v1)) (nI 2) := by
      intro n a
      rw [← st v1 a l1, p_X11_rowsKept_4]; simp (disch := omega) only [y_lit, y_n1, nI_add, pk_mul, j_lt, j_b1_s, j_b2_s, j_b3_s, j_b0_s, y_bo, y_bo1, y_bo0, y_i0, y_i1, Classical.not_not, nI_clamp, y_ix, y_lt, y_le, y_eq, y_nP, y_nPs, y_ltP, y_ltQ, y_ltPP, y_eqP, y_eqQ, y_eqPP, if_pos, if_neg, ite_true, ite_false, not_true_eq_false, not_false_eq_true, and_true, true_and, and_false, false_and, or_true, true_or, or_false, false_or, x1]
    have s2 : ∀ n a, p_X11_rowsKept_4 σ (n + 1) (nI a) (nI 2) = p_X11_rowsKept_4 σ n (nI (a + v2)) (nI 3) := by
      intro n a
      rw [← st v2 a l2, p_X11_rowsKept_4]; simp (disch := omega) only [y_lit, y_n1, nI_add, pk_mul, j_lt, j_b1_s, j_b2_s, j_b3_s, j_b0_s, y_bo, y_bo1, y_bo0, y_i0, y_i1, Classical.not_not, nI_clamp, y_ix, y_lt, y_le, y_eq, y_nP, y_nPs, y_ltP, y_ltQ, y_ltPP, y_eqP, y_eqQ, y_eqPP, if_pos, if_neg, ite_true, ite_false, not_true_eq_false, not_false_eq_true, and_true, true_and, and_false, false_and, or_true, true_or, or_false, false_or, x2]
    have s3 : ∀ n a, p_X11_rowsKept_4 σ (n + 1) (nI a) (nI 3) = p_X11_rowsKept_4 σ n (nI (a + v3)) (nI 4) := by
      intro n a
      rw [← st v3 a l3, p_X11_rowsKept_4]; simp (disch := omega) only [y_lit, y_n1, nI_add, pk_mul, j_lt, j_b1_s, j_b2_s, j_b3_s, j_b0_s, y_bo, y_bo1, y_bo0, y_i0, y_i1, Classical.not_not, nI_clamp, y_ix, y_lt, y_le, y_eq, y_nP, y_nPs, y_ltP, y_ltQ, y_ltPP, y_eqP, y_eqQ, y_eqPP, if_pos, if_neg, ite_true, ite_false, not_true_eq_false, not_false_eq_true, and_true, true_and, and_false, false_and, or_true, true_or, or_false, false_or, x3]
    have s4 : ∀ n a, p_X11_rowsKept_4 σ (n + 1) (nI a) (nI 4) = some (nI a) := by
      intro n a
      rw [p_X11_rowsKept_4]; simp (disch := omega) only [y_lit, y_n1, nI_add, pk_mul, j_lt, j_b1_s, j_b2_s, j_b3_s, j_b0_s, y_bo, y_bo1, y_bo0, y_i0, y_i1, Classical.not_not, nI_clamp, y_ix, y_lt, y_le, y_eq, y_nP, y_nPs, y_ltP, y_ltQ, y_ltPP, y_eqP, y_eqQ, y_eqPP, if_pos, if_neg, ite_true, ite_false, not_true_eq_false, not_false_eq_true, and_true, true_and, and_false, false_and, or_true, true_or, or_false, false_or]
    unfold f_X11_rowsKept
    rw [show j_F = 4995 + 1 + 1 + 1 + 1 + 1 from rfl, show (0 : Int32) = nI 0 from rfl, s0, s1, s2, s3, s4, j_b1_s]
  have mm : p_X12_count_134 τ j_F (nI 0) (nI 0) = some (nI (0 + v0 + v1 + v2 + v3)) := by
    rw [show j_F = 4995 + 1 + 1 + 1 + 1 + 1 from rfl]
    have stp : ∀ n a i v, i < 4 → (if τ.1 94 i = nP 0 then nI 0 else nI 1) = nI v → p_X12_count_134 τ (n + 1) (nI a) (nI i) = p_X12_count_134 τ n (nI (a + v)) (nI (i + 1)) := by
      intro n a i v hi hv
      rw [p_X12_count_134, show (4 : Int32) = nI 4 from rfl, if_pos ((y_lt (by omega) (by omega)).mpr hi), y_ix (by omega) (by omega), nI_clamp (by omega), y_m1, show (0 : Int32) = nI 0 from rfl, show (1 : Int32) = nI 1 from rfl]
      simp only [j_lt]
      rw [hv, nI_add, nI_add]
    rw [stp _ _ _ _ (by omega) y0, stp _ _ _ _ (by omega) y1, stp _ _ _ _ (by omega) y2, stp _ _ _ _ (by omega) y3]
    rw [p_X12_count_134, if_neg (by decide)]
  unfold f_X11_count f_X12_count
  rw [rk]
  have ee : ∀ j, j < 24 → j_ix (nI j) 116 (some (τ.1 76 (nI j).toNatClampNeg)) = some (nI (b j)) := fun j hj => by
    rw [y_ix (by omega) (by omega), nI_clamp (by omega), hM.f hj]
  have r0 : j_ix (0 : Int32) 116 (some (τ.1 76 ((0 : Int32)).toNatClampNeg)) = some (nI (b 0)) := ee 0 (by omega)
  have r1 : j_ix (1 : Int32) 116 (some (τ.1 76 ((1 : Int32)).toNatClampNeg)) = some (nI (b 1)) := ee 1 (by omega)
  have r2 : j_ix (2 : Int32) 116 (some (τ.1 76 ((2 : Int32)).toNatClampNeg)) = some (nI (b 2)) := ee 2 (by omega)
  have r3 : j_ix (3 : Int32) 116 (some (τ.1 76 ((3 : Int32)).toNatClampNeg)) = some (nI (b 3)) := ee 3 (by omega)
  have r5 : j_ix (5 : Int32) 116 (some (τ.1 76 ((5 : Int32)).toNatClampNeg)) = some (nI (b 5)) := ee 5 (by omega)
  have r6 : j_ix (6 : Int32) 116 (some (τ.1 76 ((6 : Int32)).toNatClampNeg)) = some (nI (b 6)) := ee 6 (by omega)
  have r7 : j_ix (7 : Int32) 116 (some (τ.1 76 ((7 : Int32)).toNatClampNeg)) = some (nI (b 7)) := ee 7 (by omega)
  have r8 : j_ix (8 : Int32) 116 (some (τ.1 76 ((8 : Int32)).toNatClampNeg)) = some (nI (b 8)) := ee 8 (by omega)
  have r9 : j_ix (9 : Int32) 116 (some (τ.1 76 ((9 : Int32)).toNatClampNeg)) = some (nI (b 9)) := ee 9 (by omega)
  have mm' : p_X12_count_134 τ j_F (0 : Int32) (0 : Int32) = some (nI (0 + v0 + v1 + v2 + v3)) := by rw [show (0 : Int32) = nI 0 from rfl]; exact mm
  rw [r0, r1, r2, r3, r5, r6, r7, r8, r9, mm', hN.f2, hN.f3, hN.f4, hN.f5, hN.f7, hN.f6, hN.d0, hN.d1, hN.f1, t1, t2]
  have go : ∀ (p : Prop) [Decidable p] (A B : Option Int32), (∃ v, A = some v) → (∃ v, B = some v) → ∃ v, (if p then A else B) = some v := by
    intro p _ A B hA hB
    by_cases h : p
    · rw [if_pos h]; exact hA
    · rw [if_neg h]; exact hB
  refine (fun (E : Option Int32) (h : ∃ v, E = some v) => (⟨h.choose, h.choose_spec, h.choose_spec⟩ : ∃ v, E = some v ∧ E = some v)) _ ?_
  refine go _ _ _ ⟨_, rfl⟩ ?_
  refine go _ _ _ ⟨_, rfl⟩ ?_
  refine go _ _ _ ⟨_, rfl⟩ ?_
  refine go _ _ _ ⟨_, rfl⟩ ?_
  refine go _ _ _ ⟨_, rfl⟩ ?_
  refine go _ _ _ ⟨_, rfl⟩ ?_
  refine go _ _ _ ⟨_, rfl⟩ ?_
  refine go _ _ _ ⟨_, rfl⟩ ?_
  refine go _ _ _ ⟨_, rfl⟩ ?_
  refine go _ _ _ ⟨_, rfl⟩ ?_
  exact go _ _ _ ⟨_, rfl⟩ ⟨_, rfl⟩
end Z
section R
theorem yc_zero {d : Nat} : ∀ (m i n : Nat) (σ : j_G), i + m = 60 → m < n → ∃ σ', p_X8_make_23 d n (nI i) σ = some σ' ∧ σ'.1 = σ.1 ∧ (∀ x, x ≠ d → σ'.2 x = σ.2 x) ∧ (∀ j, j < i → σ'.2 d j = σ.2 d j) ∧ ∀ j, i ≤ j → j < 60 → σ'.2 d j = 0 := by
  intro m
  induction m with
  | zero =>
    intro i n σ h hn
    obtain ⟨n, rfl⟩ := y_pos hn
    refine ⟨σ, ?_, rfl, fun _ _ => rfl, fun _ _ => rfl, fun j a c => by omega⟩
    unfold p_X8_make_23; simp (disch := omega) only [y_lit, y_n1, nI_add, pk_mul, j_lt, j_b1_s, j_b2_s, j_b3_s, j_b0_s, y_bo, y_bo1, y_bo0, y_i0, y_i1, Classical.not_not, nI_clamp, y_ix, y_lt, y_le, y_eq, y_nP, y_nPs, y_ltP, y_ltQ, y_ltPP, y_eqP, y_eqQ, y_eqPP, if_pos, if_neg, ite_true, ite_false, not_true_eq_false, not_false_eq_true, and_true, true_and, and_false, false_and, or_true, true_or, or_false, false_or]
  | succ m ih =>
    intro i n σ h hn
    obtain ⟨n, rfl⟩ := y_pos hn
    obtain ⟨σ', e1, e2, e3, e4, e5⟩ := ih (i + 1) n (j_sl σ d i 0) (by omega) (by omega)
    refine ⟨σ', ?_, e2, fun x hx => ?_, fun j hj => ?_, fun j a c => ?_⟩
    · unfold p_X8_make_23; simp (disch := omega) only [y_lit, y_n1, nI_add, pk_mul, j_lt, j_b1_s, j_b2_s, j_b3_s, j_b0_s, y_bo, y_bo1, y_bo0, y_i0, y_i1, Classical.not_not, nI_clamp, y_ix, y_lt, y_le, y_eq, y_nP, y_nPs, y_ltP, y_ltQ, y_ltPP, y_eqP, y_eqQ, y_eqPP, if_pos, if_neg, ite_true, ite_false, not_true_eq_false, not_false_eq_true, and_true, true_and, and_false, false_and, or_true, true_or, or_false, false_or]; exact e1
    · rw [e3 x hx]; funext j; exact j_l_ne hx
    · rw [e4 j (by omega), j_l_nj (by omega)]
    · by_cases e : j = i
      · subst e; rw [e4 j (by omega), j_l_eq]
      · exact e5 j (by omega) c
theorem ym_zero {s : Nat} (hs : s < 4) : ∀ (m i n : Nat) (τ : j_G), i + m = 60 → m < n → ∃ τ', p_X12_row_52 (nI s) n (nI i) τ = some τ' ∧ τ'.1 = τ.1 ∧ (∀ x, x ≠ 96 → τ'.2 x = τ.2 x) ∧ (∀ j, j < 60 * s + i ∨ 60 * s + 60 ≤ j → τ'.2 96 j = τ.2 96 j) ∧ ∀ j, i ≤ j → j < 60 → τ'.2 96 (60 * s + j) = 0 := by
  intro m
  induction m with
  | zero =>
    intro i n τ h hn
    obtain ⟨n, rfl⟩ := y_pos hn
    refine ⟨τ, ?_, rfl, fun _ _ => rfl, fun _ _ => rfl, fun j a c => by omega⟩
    unfold p_X12_row_52; simp (disch := omega) only [y_lit, y_n1, nI_add, pk_mul, j_lt, j_b1_s, j_b2_s, j_b3_s, j_b0_s, y_bo, y_bo1, y_bo0, y_i0, y_i1, Classical.not_not, nI_clamp, y_ix, y_lt, y_le, y_eq, y_nP, y_nPs, y_ltP, y_ltQ, y_ltPP, y_eqP, y_eqQ, y_eqPP, if_pos, if_neg, ite_true, ite_false, not_true_eq_false, not_false_eq_true, and_true, true_and, and_false, false_and, or_true, true_or, or_false, false_or]
  | succ m ih =>
    intro i n τ h hn
    obtain ⟨n, rfl⟩ := y_pos hn
    obtain ⟨τ', e1, e2, e3, e4, e5⟩ := ih (i + 1) n (j_sl τ 96 (60 * s + i) 0) (by omega) (by omega)
    refine ⟨τ', ?_, e2, fun x hx => ?_, fun j hj => ?_, fun j a c => ?_⟩
    · unfold p_X12_row_52; simp (disch := omega) only [y_lit, y_n1, nI_add, pk_mul, j_lt, j_b1_s, j_b2_s, j_b3_s, j_b0_s, y_bo, y_bo1, y_bo0, y_i0, y_i1, Classical.not_not, nI_clamp, y_ix, y_lt, y_le, y_eq, y_nP, y_nPs, y_ltP, y_ltQ, y_ltPP, y_eqP, y_eqQ, y_eqPP, if_pos, if_neg, ite_true, ite_false, not_true_eq_false, not_false_eq_true, and_true, true_and, and_false, false_and, or_true, true_or, or_false, false_or]; exact e1
    · rw [e3 x hx]; funext j; exact j_l_ne hx
    · rw [e4 j (by omega), j_l_nj (by omega)]
    · by_cases e : j = i
      · subst e; rw [e4 _ (by omega), j_l_eq]
      · exact e5 j (by omega) c
variable {σ τ : j_G}
theorem z_row (hR : j_Rel σ τ) (a1 a2 a3 : Int32) : ∃ v σ1 τ1, f_X11_row a1 a2 a3 σ = some (v, σ1) ∧ f_X12_row a1 a2 a3 τ = some (v, τ1) ∧ j_Rel σ1 τ1 := by
  have c60 : ∀ x : Int32, nI 60 < x ↔ 60 < x.toInt := fun x => by rw [j_ltI, nI_toInt (by omega)]; rfl
  have c0 : ∀ x : Int32, x < nI 0 ↔ x.toInt < 0 := fun x => by rw [j_ltI, nI_toInt (by omega)]; rfl
  have c3 : ∀ x : Int32, (¬ x < nI 0 ∧ ¬ nI 3 < x) ↔ y_rg x 4 := fun x => y_c3 (by omega)
  have c3' : ∀ x : Int32, ∀ P : Prop, (x < nI 0 ∨ nI 3 < x ∨ P) ↔ (¬ y_rg x 4 ∨ P) := fun x P => by
    rw [← or_assoc, y_c5 (by omega)]
  by_cases h : y_rg a1 4
  · by_cases h2 : y_rg a2 4
    · by_cases h3 : 60 < a3.toInt
      · refine ⟨-2, σ, τ, ?_, ?_, hR⟩
        · unfold f_X11_row; simp (disch := omega) only [y_lit, y_n1, nI_add, pk_mul, j_lt, j_b1_s, j_b2_s, j_b3_s, j_b0_s, y_bo, y_bo1, y_bo0, y_i0, y_i1, Classical.not_not, nI_clamp, y_ix, y_lt, y_le, y_eq, y_nP, y_nPs, y_ltP, y_ltQ, y_ltPP, y_eqP, y_eqQ, y_eqPP, if_pos, if_neg, ite_true, ite_false, not_true_eq_false, not_false_eq_true, and_true, true_and, and_false, false_and, or_true, true_or, or_false, false_or, yc_isSlot, c3', h, h2, c60 a3, h3]
        · unfold f_X12_row; simp (disch := omega) only [y_lit, y_n1, nI_add, pk_mul, j_lt, j_b1_s, j_b2_s, j_b3_s, j_b0_s, y_bo, y_bo1, y_bo0, y_i0, y_i1, Classical.not_not, nI_clamp, y_ix, y_lt, y_le, y_eq, y_nP, y_nPs, y_ltP, y_ltQ, y_ltPP, y_eqP, y_eqQ, y_eqPP, if_pos, if_neg, ite_true, ite_false, not_true_eq_false, not_false_eq_true, and_true, true_and, and_false, false_and, or_true, true_or, or_false, false_or, ym_isSlot, y_lit64, y_in, c3, h, h2, c60 a3, h3]
      · by_cases h4 : a3.toInt < 0
        · refine ⟨-3, σ, τ, ?_, ?_, hR⟩
          · unfold f_X11_row; simp (disch := omega) only [y_lit, y_n1, nI_add, pk_mul, j_lt, j_b1_s, j_b2_s, j_b3_s, j_b0_s, y_bo, y_bo1, y_bo0, y_i0, y_i1, Classical.not_not, nI_clamp, y_ix, y_lt, y_le, y_eq, y_nP, y_nPs, y_ltP, y_ltQ, y_ltPP, y_eqP, y_eqQ, y_eqPP, if_pos, if_neg, ite_true, ite_false, not_true_eq_false, not_false_eq_true, and_true, true_and, and_false, false_and, or_true, true_or, or_false, false_or, yc_isSlot, c3', y_c5, h, h2, c60 a3, h3, c0 a3, h4]
          · unfold f_X12_row; simp (disch := omega) only [y_lit, y_n1, nI_add, pk_mul, j_lt, j_b1_s, j_b2_s, j_b3_s, j_b0_s, y_bo, y_bo1, y_bo0, y_i0, y_i1, Classical.not_not, nI_clamp, y_ix, y_lt, y_le, y_eq, y_nP, y_nPs, y_ltP, y_ltQ, y_ltPP, y_eqP, y_eqQ, y_eqPP, if_pos, if_neg, ite_true, ite_false, not_true_eq_false, not_false_eq_true, and_true, true_and, and_false, false_and, or_true, true_or, or_false, false_or, ym_isSlot, y_lit64, y_in, c3, h, h2, c60 a3, h3, c0 a3, h4]
        · obtain ⟨s, hs, rfl⟩ := y_of _ _ h.1 h.2
          obtain ⟨w, hw, rfl⟩ := y_of _ _ h2.1 h2.2
          obtain ⟨n, hn, rfl⟩ := y_of a3 61 (by omega) (by omega)
          obtain ⟨b, hW, hN, hM, hK⟩ := id hR
          obtain ⟨c, d, hc, _⟩ := hK.slot s hs
          have hcd : c ≠ d := by unfold y_sc at hc; omega
          obtain ⟨σ1, e1, e2, e3, e4, e5⟩ := yc_zero (d := d) 60 0 j_F (j_si (j_si σ c 1 (nI w)) c 0 (nI n)) (by omega) (y_F (by omega))
          obtain ⟨τ1, f1, f2, f3, f4, f5⟩ := ym_zero hs 60 0 j_F (j_si (j_si τ 94 s (nI n)) 95 s (nI w)) (by omega) (y_F (by omega))
          refine ⟨0, σ1, τ1, ?_, ?_, y_slots hR hc ⟨fun x hx => ?_, fun x hx => ?_, fun x h1 h2 => ?_, fun x h1 h2 => ?_, fun j hj => ?_, fun j hj => ?_⟩ (Or.inr ⟨n, w, by omega, by omega, ?_, ?_, ?_, ?_, fun i hi => ?_⟩)⟩
          · unfold f_X11_row f_X8_make
            rcases hc with ⟨rfl, rfl, rfl⟩ | ⟨rfl, rfl, rfl⟩ | ⟨rfl, rfl, rfl⟩ | ⟨rfl, rfl, rfl⟩
            · simp (disch := omega) only [y_lit, y_n1, nI_add, pk_mul, j_lt, j_b1_s, j_b2_s, j_b3_s, j_b0_s, y_bo, y_bo1, y_bo0, y_i0, y_i1, Classical.not_not, nI_clamp, y_ix, y_lt, y_le, y_eq, y_nP, y_nPs, y_ltP, y_ltQ, y_ltPP, y_eqP, y_eqQ, y_eqPP, if_pos, if_neg, ite_true, ite_false, not_true_eq_false, not_false_eq_true, and_true, true_and, and_false, false_and, or_true, true_or, or_false, false_or, yc_isSlot, y_rn, e1]
            · simp (disch := omega) only [y_lit, y_n1, nI_add, pk_mul, j_lt, j_b1_s, j_b2_s, j_b3_s, j_b0_s, y_bo, y_bo1, y_bo0, y_i0, y_i1, Classical.not_not, nI_clamp, y_ix, y_lt, y_le, y_eq, y_nP, y_nPs, y_ltP, y_ltQ, y_ltPP, y_eqP, y_eqQ, y_eqPP, if_pos, if_neg, ite_true, ite_false, not_true_eq_false, not_false_eq_true, and_true, true_and, and_false, false_and, or_true, true_or, or_false, false_or, yc_isSlot, y_rn, e1]
            · simp (disch := omega) only [y_lit, y_n1, nI_add, pk_mul, j_lt, j_b1_s, j_b2_s, j_b3_s, j_b0_s, y_bo, y_bo1, y_bo0, y_i0, y_i1, Classical.not_not, nI_clamp, y_ix, y_lt, y_le, y_eq, y_nP, y_nPs, y_ltP, y_ltQ, y_ltPP, y_eqP, y_eqQ, y_eqPP, if_pos, if_neg, ite_true, ite_false, not_true_eq_false, not_false_eq_true, and_true, true_and, and_false, false_and, or_true, true_or, or_false, false_or, yc_isSlot, y_rn, e1]
            · simp (disch := omega) only [y_lit, y_n1, nI_add, pk_mul, j_lt, j_b1_s, j_b2_s, j_b3_s, j_b0_s, y_bo, y_bo1, y_bo0, y_i0, y_i1, Classical.not_not, nI_clamp, y_ix, y_lt, y_le, y_eq, y_nP, y_nPs, y_ltP, y_ltQ, y_ltPP, y_eqP, y_eqQ, y_eqPP, if_pos, if_neg, ite_true, ite_false, not_true_eq_false, not_false_eq_true, and_true, true_and, and_false, false_and, or_true, true_or, or_false, false_or, yc_isSlot, y_rn, e1]
          · unfold f_X12_row; simp (disch := omega) only [y_lit, y_n1, nI_add, pk_mul, j_lt, j_b1_s, j_b2_s, j_b3_s, j_b0_s, y_bo, y_bo1, y_bo0, y_i0, y_i1, Classical.not_not, nI_clamp, y_ix, y_lt, y_le, y_eq, y_nP, y_nPs, y_ltP, y_ltQ, y_ltPP, y_eqP, y_eqQ, y_eqPP, if_pos, if_neg, ite_true, ite_false, not_true_eq_false, not_false_eq_true, and_true, true_and, and_false, false_and, or_true, true_or, or_false, false_or, ym_isSlot, y_rn, y_lit64, y_in, f1]
          · rw [e2]; funext j; rw [j_r_ne hx, j_r_ne hx]
          · rw [e3 x hx]; rfl
          · rw [f2]; funext j; rw [j_r_ne h2, j_r_ne h1]
          · rw [f3 x h1]; rfl
          · rw [f2]; exact ⟨by rw [j_r_ne (by omega), j_r_nj hj], by rw [j_r_nj hj, j_r_ne (by omega)]⟩
          · rw [f4 j (by omega)]; rfl
          · rw [e2, j_r_eq]
          · rw [f2, j_r_ne (by omega), j_r_eq]
          · rw [e2, j_r_nj (by omega), j_r_eq]
          · rw [f2, j_r_eq]
          · rw [e5 i (by omega) (by omega), f5 i (by omega) (by omega)]
    · refine ⟨-2, σ, τ, ?_, ?_, hR⟩
      · unfold f_X11_row; simp (disch := omega) only [y_lit, y_n1, nI_add, pk_mul, j_lt, j_b1_s, j_b2_s, j_b3_s, j_b0_s, y_bo, y_bo1, y_bo0, y_i0, y_i1, Classical.not_not, nI_clamp, y_ix, y_lt, y_le, y_eq, y_nP, y_nPs, y_ltP, y_ltQ, y_ltPP, y_eqP, y_eqQ, y_eqPP, if_pos, if_neg, ite_true, ite_false, not_true_eq_false, not_false_eq_true, and_true, true_and, and_false, false_and, or_true, true_or, or_false, false_or, yc_isSlot, c3', h2]
      · unfold f_X12_row; simp (disch := omega) only [y_lit, y_n1, nI_add, pk_mul, j_lt, j_b1_s, j_b2_s, j_b3_s, j_b0_s, y_bo, y_bo1, y_bo0, y_i0, y_i1, Classical.not_not, nI_clamp, y_ix, y_lt, y_le, y_eq, y_nP, y_nPs, y_ltP, y_ltQ, y_ltPP, y_eqP, y_eqQ, y_eqPP, if_pos, if_neg, ite_true, ite_false, not_true_eq_false, not_false_eq_true, and_true, true_and, and_false, false_and, or_true, true_or, or_false, false_or, ym_isSlot, y_lit64, y_in, c3, h2]
  · refine ⟨-2, σ, τ, ?_, ?_, hR⟩
    · unfold f_X11_row; simp (disch := omega) only [y_lit, y_n1, nI_add, pk_mul, j_lt, j_b1_s, j_b2_s, j_b3_s, j_b0_s, y_bo, y_bo1, y_bo0, y_i0, y_i1, Classical.not_not, nI_clamp, y_ix, y_lt, y_le, y_eq, y_nP, y_nPs, y_ltP, y_ltQ, y_ltPP, y_eqP, y_eqQ, y_eqPP, if_pos, if_neg, ite_true, ite_false, not_true_eq_false, not_false_eq_true, and_true, true_and, and_false, false_and, or_true, true_or, or_false, false_or, yc_isSlot, h]
    · unfold f_X12_row; simp (disch := omega) only [y_lit, y_n1, nI_add, pk_mul, j_lt, j_b1_s, j_b2_s, j_b3_s, j_b0_s, y_bo, y_bo1, y_bo0, y_i0, y_i1, Classical.not_not, nI_clamp, y_ix, y_lt, y_le, y_eq, y_nP, y_nPs, y_ltP, y_ltQ, y_ltPP, y_eqP, y_eqQ, y_eqPP, if_pos, if_neg, ite_true, ite_false, not_true_eq_false, not_false_eq_true, and_true, true_and, and_false, false_and, or_true, true_or, or_false, false_or, ym_isSlot, h]
end R
