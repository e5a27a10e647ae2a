/-! ===== lots: how many rows, as numbers ===== -/
noncomputable def nL (k : Nat) : Int64 := Int64.ofNat k
theorem nL_add {a c : Nat} : nL a + nL c = nL (a + c) := (Int64.ofNat_add a c).symm
theorem nL_t {a : Nat} (h : a < 2 ^ 63) : (nL a).toInt = a := Int64.toInt_ofNat_of_lt h
theorem nL_eq {a c : Nat} (ha : a < 2 ^ 63) (hc : c < 2 ^ 63) : nL a = nL c ↔ a = c := by
  constructor
  · intro h
    have := congrArg Int64.toInt h
    rw [nL_t ha, nL_t hc] at this
    omega
  · intro h; rw [h]
theorem nL_lt {a c : Nat} (ha : a < 2 ^ 63) (hc : c < 2 ^ 63) : nL a < nL c ↔ a < c := by
  rw [Int64.lt_iff_toInt_lt, nL_t ha, nL_t hc]; omega
theorem nL_m1 {a : Nat} (ha : a < 2 ^ 63) : nL a ≠ (-1 : Int64) := by
  intro h
  have := congrArg Int64.toInt h
  rw [nL_t ha, show (-1 : Int64).toInt = -1 from by decide] at this
  omega
theorem y_su_mul {f : Nat → Nat} {c : Nat} : ∀ m i, y_su (fun j => c * f j) m i 0 = c * y_su f m i 0 := by
  intro m
  induction m with
  | zero => intro i; rfl
  | succ m ih => intro i; rw [y_su_s, y_su_s, ih (i + 1), Nat.mul_add]
theorem y_su_sh {f : Nat → Nat} : ∀ m i, y_su (fun j => f (j + 1)) m i 0 = y_su f m (i + 1) 0 := by
  intro m
  induction m with
  | zero => intro i; rfl
  | succ m ih => intro i; rw [y_su_s, y_su_s, ih (i + 1)]
theorem y_su_ap {f : Nat → Nat} {c : Nat} : ∀ a i, y_su f (a + c) i 0 = y_su f a i 0 + y_su f c (i + a) 0 := by
  intro a
  induction a with
  | zero => intro i; rw [Nat.zero_add, Nat.add_zero]; exact (Nat.zero_add _).symm
  | succ a ih =>
    intro i
    rw [show a + 1 + c = a + c + 1 by omega, y_su_s, y_su_s, ih (i + 1), show i + 1 + a = i + (a + 1) by omega]; omega
theorem y_su_acc {f : Nat → Nat} {m i s : Nat} : y_su f m i s = s + y_su f m i 0 := by
  have := y_su_add (f := f) m i 0 s
  rw [Nat.zero_add] at this
  omega
/-- rows of n: the last one and 1, the one ahead of it and 1 -/
noncomputable def y_U (b : Nat → Nat) (l : Nat) : Nat → Nat → Nat → Nat
  | 0, p, q => if p = 0 ∧ q = 0 then 1 else 0
  | n + 1, p, q => if 1 ≤ p ∧ p ≤ y_ho b ∧ q ≤ y_ho b then y_su (fun two => y_ok b l q two (p - 1) * y_U b l n q two) (y_ho b + 1) 0 0 else 0
noncomputable def y_E (b : Nat → Nat) (l n h : Nat) : Nat := y_su (y_U b l n (h + 1)) 13 0 0
noncomputable def y_V (b : Nat → Nat) (l n o h : Nat) : Nat := if h < y_ho b then (if l = 3 then y_U b l n (h + 1) o else if o = 0 then y_E b l n h else 0) else 0
section U
variable {b : Nat → Nat} {l : Nat}
theorem y_U_s {n p q : Nat} : y_U b l (n + 1) p q = if 1 ≤ p ∧ p ≤ y_ho b ∧ q ≤ y_ho b then y_su (fun two => y_ok b l q two (p - 1) * y_U b l n q two) (y_ho b + 1) 0 0 else 0 := rfl
theorem y_U_bd (ho : y_ho b ≤ 12) : ∀ n p q, y_U b l n p q ≤ 13 ^ n := by
  intro n
  induction n with
  | zero => intro p q; unfold y_U; split <;> decide
  | succ n ih =>
    intro p q
    rw [y_U_s]
    split
    · have h1 := y_su_bd (f := fun two => y_ok b l q two (p - 1) * y_U b l n q two) (c := 13 ^ n) (y_ho b + 1) 0 (fun j _ _ => by
        have a := y_ok_le b l q j (p - 1)
        have c := ih q j
        calc y_ok b l q j (p - 1) * y_U b l n q j ≤ 1 * 13 ^ n := Nat.mul_le_mul a c
          _ = 13 ^ n := Nat.one_mul _)
      have h2 : 13 ^ n * (y_ho b + 1) ≤ 13 ^ n * 13 := Nat.mul_le_mul (Nat.le_refl _) (by omega)
      rw [Nat.pow_succ]; omega
    · exact Nat.zero_le _
theorem y_p13 {n : Nat} (hn : n ≤ 12) : 13 ^ n ≤ 13 ^ 12 := Nat.pow_le_pow_right (by omega) hn
theorem y_U_63 (ho : y_ho b ≤ 12) {n p q : Nat} (hn : n ≤ 12) : y_U b l n p q < 2 ^ 50 := by
  have := y_U_bd (l := l) ho n p q
  have := y_p13 hn
  have e : (13 : Nat) ^ 12 < 2 ^ 50 := by decide
  omega
theorem y_E_63 (ho : y_ho b ≤ 12) {n h : Nat} (hn : n ≤ 12) : y_E b l n h < 2 ^ 54 := by
  have := y_su_bd (f := y_U b l n (h + 1)) (c := 2 ^ 50) 13 0 (fun j _ _ => Nat.le_of_lt (y_U_63 ho hn))
  unfold y_E
  have e : (2 : Nat) ^ 50 * 13 < 2 ^ 54 := by decide
  omega
theorem y_V_63 (ho : y_ho b ≤ 12) {n o h : Nat} (hn : n ≤ 12) : y_V b l n o h < 2 ^ 54 := by
  have e : (2 : Nat) ^ 50 < 2 ^ 54 := by decide
  unfold y_V
  split
  · split
    · have := y_U_63 (l := l) ho (n := n) (p := h + 1) (q := o) hn; omega
    · split
      · exact y_E_63 ho hn
      · decide
  · decide
theorem y_U_0 {n q : Nat} : y_U b l (n + 1) 0 q = 0 := by rw [y_U_s, if_neg (by omega)]
theorem y_U_far {n p q : Nat} (h : y_ho b < q) : y_U b l (n + 1) p q = 0 := by rw [y_U_s, if_neg (by omega)]
theorem y_E_ho (ho : y_ho b ≤ 12) {n h : Nat} : y_E b l (n + 1) h = y_su (y_U b l (n + 1) (h + 1)) (y_ho b + 1) 0 0 := by
  unfold y_E
  have e := y_su_ap (f := y_U b l (n + 1) (h + 1)) (c := 12 - y_ho b) (y_ho b + 1) 0
  rw [show y_ho b + 1 + (12 - y_ho b) = 13 by omega] at e
  rw [e, y_su_z (12 - y_ho b) (0 + (y_ho b + 1)) (fun j h1 _ => y_U_far (by omega)), Nat.add_zero]
theorem y_U1 {h q : Nat} (hh : h < y_ho b) : y_U b l 1 (h + 1) q = if q = 0 then (if y_sh b h = 1 then 0 else 1) else 0 := by
  rw [show y_U b l 1 (h + 1) q = _ from y_U_s (n := 0)]
  by_cases c : q = 0
  · subst c
    rw [if_pos (by omega), if_pos rfl, y_su_k (k := 0) (y_ho b + 1) 0 (by omega) (by omega) (fun j _ _ hj => by
      show _ * y_U b l 0 0 j = 0
      rw [show y_U b l 0 0 j = 0 from if_neg (fun z => hj z.2), Nat.mul_zero])]
    rw [show y_U b l 0 0 0 = 1 from rfl, Nat.mul_one, Nat.add_sub_cancel]
    unfold y_ok
    by_cases s : y_sh b h = 1
    · rw [if_pos s, if_pos s]
    · rw [if_neg s, if_neg s]
      unfold y_lz
      by_cases l0 : l = 0
      · rw [if_pos l0]
      · rw [if_neg l0]
        by_cases l1 : l = 1
        · rw [if_pos l1, if_neg (by omega)]
        · rw [if_neg l1]
          by_cases l2 : l = 2
          · rw [if_pos l2, if_pos rfl]
          · rw [if_neg l2, if_neg (by omega), if_neg (by omega)]
  · rw [if_neg c]
    split
    · exact y_su_z _ _ (fun j _ _ => by
        show _ * y_U b l 0 q j = 0
        rw [show y_U b l 0 q j = 0 from if_neg (fun z => c z.1), Nat.mul_zero])
    · rfl
theorem y_V1 {o h : Nat} : y_V b l 1 o h = if o = 0 ∧ h < y_ho b ∧ y_sh b h ≠ 1 then 1 else 0 := by
  unfold y_V
  by_cases hh : h < y_ho b
  · rw [if_pos hh]
    have e : y_E b l 1 h = if y_sh b h = 1 then 0 else 1 := by
      unfold y_E
      rw [y_su_k (k := 0) 13 0 (by omega) (by omega) (fun j _ _ hj => by rw [y_U1 hh, if_neg hj]), y_U1 hh, if_pos rfl]
    by_cases l3 : l = 3
    · rw [if_pos l3, y_U1 hh]
      by_cases c : o = 0
      · rw [if_pos c]
        by_cases s : y_sh b h = 1
        · rw [if_pos s, if_neg (fun z => z.2.2 s)]
        · rw [if_neg s, if_pos ⟨c, hh, s⟩]
      · rw [if_neg c, if_neg (fun z => c z.1)]
    · rw [if_neg l3]
      by_cases c : o = 0
      · rw [if_pos c, e]
        by_cases s : y_sh b h = 1
        · rw [if_pos s, if_neg (fun z => z.2.2 s)]
        · rw [if_neg s, if_pos ⟨c, hh, s⟩]
      · rw [if_neg c, if_neg (fun z => c z.1)]
  · rw [if_neg hh, if_neg (fun z => hh z.2.1)]
theorem y_ok_two {one two h : Nat} (l3 : l ≠ 3) (hl : l < 4) : y_ok b l one two h = y_ok b l one 0 h := by
  unfold y_ok y_lz
  by_cases s : y_sh b h = 1
  · rw [if_pos s, if_pos s]
  · rw [if_neg s, if_neg s]
    by_cases l0 : l = 0
    · rw [if_pos l0, if_pos l0]
    · rw [if_neg l0, if_neg l0]
      by_cases l1 : l = 1
      · rw [if_pos l1, if_pos l1]
      · have l2 : l = 2 := by omega
        rw [if_neg l1, if_neg l1, if_pos l2, if_pos l2]
noncomputable def y_kp (l one : Nat) : Nat := if l = 3 then one + 1 else 0
theorem y_V_s (ho : y_ho b ≤ 12) (hl : l < 4) {n o h : Nat} (hh : h < y_ho b) : y_su (fun two => y_su (fun one => if o = y_kp l one then y_ok b l (one + 1) two h * y_V b l (n + 1) two one else 0) (y_ho b) 0 0) (y_ho b + 1) 0 0 = y_V b l (n + 2) o h := by
  have rv : y_V b l (n + 2) o h = if l = 3 then y_U b l (n + 2) (h + 1) o else if o = 0 then y_E b l (n + 2) h else 0 := if_pos hh
  rw [rv]
  by_cases l3 : l = 3
  · rw [if_pos l3, show n + 2 = n + 1 + 1 from rfl, y_U_s]
    by_cases c : 1 ≤ o ∧ o ≤ y_ho b
    · rw [if_pos (by omega)]
      refine y_su_congr _ _ _ (fun two _ _ => ?_)
      rw [y_su_k (k := o - 1) (y_ho b) 0 (by omega) (by omega) (fun j _ _ hj => if_neg (by unfold y_kp; rw [if_pos l3]; omega))]
      have e1 : o = y_kp l (o - 1) := by unfold y_kp; rw [if_pos l3]; omega
      have e2 : y_V b l (n + 1) two (o - 1) = y_U b l (n + 1) o two := by
        unfold y_V
        rw [if_pos (by omega), if_pos l3, show o - 1 + 1 = o by omega]
      rw [if_pos e1, e2, show o - 1 + 1 = o by omega, Nat.add_sub_cancel]
    · rw [y_su_z _ _ (fun two _ _ => y_su_z _ _ (fun j _ hj => if_neg (by unfold y_kp; rw [if_pos l3]; omega)))]
      by_cases d : o = 0
      · subst d
        rw [if_pos (by omega)]
        exact (y_su_z _ _ (fun two _ _ => by rw [y_U_0, Nat.mul_zero])).symm
      · rw [if_neg (by omega)]
  · rw [if_neg l3]
    have kp : ∀ one, y_kp l one = 0 := fun one => if_neg l3
    by_cases d : o = 0
    · subst d
      rw [if_pos rfl]
      have s1 : y_su (fun two => y_su (fun one => if 0 = y_kp l one then y_ok b l (one + 1) two h * y_V b l (n + 1) two one else 0) (y_ho b) 0 0) (y_ho b + 1) 0 0 = y_su (fun one => y_ok b l (one + 1) 0 h * y_E b l (n + 1) one) (y_ho b) 0 0 := by
        rw [y_su_k (k := 0) (y_ho b + 1) 0 (by omega) (by omega) (fun two _ _ ht => y_su_z _ _ (fun one _ ho1 => by
          have : y_V b l (n + 1) two one = 0 := by
            unfold y_V
            rw [if_pos (by omega), if_neg l3, if_neg ht]
          rw [this, Nat.mul_zero]; split <;> rfl))]
        refine y_su_congr _ _ _ (fun one _ ho1 => ?_)
        have : y_V b l (n + 1) 0 one = y_E b l (n + 1) one := by
          unfold y_V
          rw [if_pos (by omega), if_neg l3, if_pos rfl]
        rw [if_pos (kp one).symm, this]
      rw [s1, show n + 2 = n + 1 + 1 from rfl, y_E_ho ho, y_su_s, y_U_s, if_pos (by omega)]
      rw [y_su_z (y_ho b + 1) 0 (f := fun two => y_ok b l 0 two (h + 1 - 1) * y_U b l (n + 1) 0 two) (fun two _ _ => by rw [y_U_0, Nat.mul_zero]), Nat.add_zero]
      rw [← y_su_sh]
      refine y_su_congr _ _ _ (fun one _ ho1 => ?_)
      rw [y_U_s, if_pos (by omega), Nat.add_sub_cancel, y_E_ho ho, ← y_su_mul]
      refine y_su_congr _ _ _ (fun two _ _ => ?_)
      rw [y_ok_two (two := two) l3 hl]
    · rw [if_neg d]
      exact y_su_z _ _ (fun two _ _ => y_su_z _ _ (fun one _ _ => if_neg (by rw [kp]; exact d)))
theorem y_V_row (ho : y_ho b ≤ 12) {n h : Nat} (hh : h < y_ho b) : y_su (fun o => y_V b l (n + 1) o h) (y_ho b + 1) 0 0 = y_E b l (n + 1) h := by
  by_cases l3 : l = 3
  · rw [y_E_ho ho]
    refine y_su_congr _ _ _ (fun o _ _ => ?_)
    show y_V b l (n + 1) o h = _
    unfold y_V
    rw [if_pos hh, if_pos l3]
  · have e : ∀ o, y_V b l (n + 1) o h = if o = 0 then y_E b l (n + 1) h else 0 := fun o => by
      unfold y_V
      rw [if_pos hh, if_neg l3]
    rw [y_su_k (k := 0) (y_ho b + 1) 0 (by omega) (by omega) (fun o _ _ h0 => by show y_V b l (n + 1) o h = 0; rw [e, if_neg h0])]
    rw [e, if_pos rfl]
end U
/-! ===== lots: the class's numbers ===== -/
def y_L1 (σ : j_G) (c : Nat) (A : Nat → Nat → Nat) : Prop := ∀ o h, o ≤ 12 → h < 12 → σ.2 c (12 * o + h) = nL (A o h)
section C
variable {σ : j_G} {b : Nat → Nat}
theorem y_L1.fr {σ' : j_G} {c lo hi : Nat} {A : Nat → Nat → Nat} (h : y_L1 σ c A) (hf : y_fr lo hi σ σ') (hc : c < lo ∨ hi < c) : y_L1 σ' c A := fun o x ho hx => by
  rw [hf.l c _ hc]; exact h o x ho hx
theorem y_L1.ext {c : Nat} {A A' : Nat → Nat → Nat} (h : y_L1 σ c A) (e : ∀ o x, o ≤ 12 → x < 12 → A o x = A' o x) : y_L1 σ c A' := fun o x ho hx => by
  rw [h o x ho hx, e o x ho hx]
theorem y_L1.add {c k i w : Nat} {A : Nat → Nat → Nat} (h : y_L1 σ c A) (hk : k ≤ 12) (hi : i < 12) : y_L1 (j_sl σ c (12 * k + i) (σ.2 c (12 * k + i) + nL w)) c (fun o x => A o x + if o = k ∧ x = i then w else 0) := by
  intro o x ho hx
  show _ = nL (A o x + if o = k ∧ x = i then w else 0)
  by_cases e : o = k ∧ x = i
  · obtain ⟨rfl, rfl⟩ := e
    rw [j_l_eq, h o x ho hx, nL_add, if_pos ⟨rfl, rfl⟩]
  · rw [j_l_nj (by omega), h o x ho hx, if_neg e, Nat.add_zero]
theorem tl_b2v : ∀ m i n (σ : j_G), i + m = 156 → m < n → ∃ σ', p_X5_begin_2 n (nI i) σ = some σ' ∧ y_fr 38 39 σ σ' ∧ (∀ j, i ≤ j → j < 156 → σ'.2 38 j = nL 0) ∧ ∀ j, j < i → σ'.2 38 j = σ.2 38 j := by
  intro m
  induction m with
  | zero =>
    intro i n σ h hn
    obtain ⟨n, rfl⟩ := y_pos hn
    refine ⟨σ, ?_, y_fr.refl, fun j a c => by omega, fun _ _ => rfl⟩
    unfold p_X5_begin_2; simp (disch := omega) only [y_lit, y_n1, nI_add, pk_mul, j_lt, j_b1_s, j_b2_s, j_b3_s, j_b0_s, y_bo, y_bo1, y_bo0, y_i0, y_i1, Classical.not_not, nI_clamp, y_ix, y_lt, y_le, y_eq, y_nP, y_nPs, y_ltP, y_ltQ, y_ltPP, y_eqP, y_eqQ, y_eqPP, if_pos, if_neg, ite_true, ite_false, not_true_eq_false, not_false_eq_true, and_true, true_and, and_false, false_and, or_true, true_or, or_false, false_or]
  | succ m ih =>
    intro i n σ h hn
    obtain ⟨n, rfl⟩ := y_pos hn
    obtain ⟨σ', e1, e2, e3, e4⟩ := ih (i + 1) n (j_sl σ 38 i (0 : Int64)) (by omega) (by omega)
    refine ⟨σ', ?_, (y_fr.refl.sl (by omega) (by omega)).trans e2, fun j a c => ?_, fun j hj => ?_⟩
    · unfold p_X5_begin_2; simp (disch := omega) only [y_lit, y_n1, nI_add, pk_mul, j_lt, j_b1_s, j_b2_s, j_b3_s, j_b0_s, y_bo, y_bo1, y_bo0, y_i0, y_i1, Classical.not_not, nI_clamp, y_ix, y_lt, y_le, y_eq, y_nP, y_nPs, y_ltP, y_ltQ, y_ltPP, y_eqP, y_eqQ, y_eqPP, if_pos, if_neg, ite_true, ite_false, not_true_eq_false, not_false_eq_true, and_true, true_and, and_false, false_and, or_true, true_or, or_false, false_or]; exact e1
    · by_cases e : j = i
      · subst e; rw [e4 j (by omega), j_l_eq]; rfl
      · exact e3 j (by omega) c
    · rw [e4 j (by omega), j_l_nj (by omega)]
theorem tl_b24v (hW : y_W b) : ∀ m i n (σ : j_G) (A : Nat → Nat → Nat), i + m = y_ho b → m < n → y_N σ b → y_L1 σ 38 A → ∃ σ', p_X5_begin_24 n (nI i) σ = some σ' ∧ y_fr 38 39 σ σ' ∧ y_L1 σ' 38 (fun o h => A o h + if o = 0 ∧ i ≤ h ∧ h < y_ho b ∧ y_sh b h ≠ 1 then 1 else 0) := by
  have ho := hW.ho
  intro m
  induction m with
  | zero =>
    intro i n σ A h hn hN hA
    obtain ⟨n, rfl⟩ := y_pos hn
    refine ⟨σ, ?_, y_fr.refl, hA.ext (fun o x _ _ => by rw [if_neg (by omega), Nat.add_zero])⟩
    unfold p_X5_begin_24; simp (disch := omega) only [y_lit, y_n1, nI_add, pk_mul, j_lt, j_b1_s, j_b2_s, j_b3_s, j_b0_s, y_bo, y_bo1, y_bo0, y_i0, y_i1, Classical.not_not, nI_clamp, y_ix, y_lt, y_le, y_eq, y_nP, y_nPs, y_ltP, y_ltQ, y_ltPP, y_eqP, y_eqQ, y_eqPP, if_pos, if_neg, ite_true, ite_false, not_true_eq_false, not_false_eq_true, and_true, true_and, and_false, false_and, or_true, true_or, or_false, false_or, yc_holes hN]
  | succ m ih =>
    intro i n σ A h hn hN hA
    obtain ⟨n, rfl⟩ := y_pos hn
    unfold p_X5_begin_24
    rw [yc_holes hN, if_pos ((y_lt (by omega) (by omega)).mpr (by omega)), yc_isShut hN hW (by omega), show nI i + (1 : Int32) = nI (i + 1) by simp (disch := omega) only [y_lit, nI_add]]
    by_cases c : y_sh b i = 1
    · rw [if_pos c, if_neg (show ¬ nI 1 = (0 : Int32) by decide), j_b1_s]
      obtain ⟨σ', e1, e2, e3⟩ := ih (i + 1) n σ A (by omega) (by omega) hN hA
      refine ⟨σ', e1, e2, e3.ext (fun o x _ _ => ?_)⟩
      by_cases e : x = i
      · subst e; rw [if_neg (by omega), if_neg (fun z => z.2.2.2 c)]
      · congr 1
        by_cases d : o = 0 ∧ i + 1 ≤ x ∧ x < y_ho b ∧ y_sh b x ≠ 1
        · rw [if_pos d, if_pos ⟨d.1, by omega, d.2.2⟩]
        · rw [if_neg d, if_neg (fun z => d ⟨z.1, by omega, z.2.2⟩)]
    · have fr : y_fr 38 39 σ (j_sl σ 38 (12 * 0 + i) (σ.2 38 (12 * 0 + i) + nL 1)) := y_fr.refl.sl (by omega) (by omega)
      obtain ⟨σ', e1, e2, e3⟩ := ih (i + 1) n _ _ (by omega) (by omega) (hN.fr fr (by omega)) (hA.add (w := 1) (k := 0) (i := i) (by omega) (by omega))
      rw [if_neg c, if_pos (show nI 0 = (0 : Int32) from rfl), y_m1, tl_add (by omega) (by omega), j_b1_s, j_b1_s]
      refine ⟨σ', e1, fr.trans e2, e3.ext (fun o x _ _ => ?_)⟩
      show A o x + (if o = 0 ∧ x = i then 1 else 0) + (if o = 0 ∧ i + 1 ≤ x ∧ x < y_ho b ∧ y_sh b x ≠ 1 then 1 else 0) = _
      by_cases e : o = 0 ∧ x = i
      · obtain ⟨rfl, rfl⟩ := e
        rw [if_pos ⟨rfl, rfl⟩, if_neg (by omega), if_pos ⟨rfl, by omega, by omega, c⟩]
      · rw [if_neg e, Nat.add_zero]
        congr 1
        by_cases d : o = 0 ∧ i + 1 ≤ x ∧ x < y_ho b ∧ y_sh b x ≠ 1
        · rw [if_pos d, if_pos ⟨d.1, by omega, d.2.2⟩]
        · rw [if_neg d, if_neg (fun z => d ⟨z.1, by omega, z.2.2⟩)]
theorem tl_beginv {l : Nat} (hN : y_N σ b) (hW : y_W b) : ∃ σ', f_X5_begin σ = some σ' ∧ y_fr 38 39 σ σ' ∧ y_L1 σ' 38 (y_V b l 1) := by
  have ho := hW.ho
  obtain ⟨σ1, a1, a2, a3, _⟩ := tl_b2v 156 0 j_F σ (by omega) (y_F (by omega))
  obtain ⟨σ2, b1, b2, b3⟩ := tl_b24v hW (y_ho b) 0 j_F σ1 (fun _ _ => 0) (by omega) (y_F (by omega)) (hN.fr a2 (by omega)) (fun o x _ _ => a3 _ (by omega) (by omega))
  refine ⟨σ2, ?_, a2.trans b2, b3.ext (fun o x _ _ => ?_)⟩
  · unfold f_X5_begin
    rw [show (0 : Int32) = nI 0 from rfl, a1, j_b1_s, b1, j_b1_s]
  · rw [y_V1, Nat.zero_add]
    by_cases d : o = 0 ∧ x < y_ho b ∧ y_sh b x ≠ 1
    · rw [if_pos d, if_pos ⟨d.1, by omega, d.2⟩]
    · rw [if_neg d, if_neg (fun z => d ⟨z.1, z.2.2⟩)]
theorem tl_gfv (hW : y_W b) (h9 : 0 < b 9) {l two one k : Nat} {V : Nat → Nat → Nat} (hl : l < 4) (h2 : two ≤ 12) (h1 : one < 12) (hk : k ≤ 12) : ∀ m i n (σ : j_G) (A : Nat → Nat → Nat), i + m = y_ho b → m < n → y_N σ b → y_L1 σ 38 V → y_L1 σ 39 A → ∃ σ', p_X5_growFrom_16 (nI l) (nP two) (nI one) (nP k) n (nI i) σ = some σ' ∧ y_fr 39 39 σ σ' ∧ y_L1 σ' 39 (fun o h => A o h + if o = k ∧ i ≤ h ∧ h < y_ho b then y_ok b l (one + 1) two h * V two one else 0) := by
  have ho := hW.ho
  intro m
  induction m with
  | zero =>
    intro i n σ A h hn hN hV hA
    obtain ⟨n, rfl⟩ := y_pos hn
    refine ⟨σ, ?_, y_fr.refl, hA.ext (fun o x _ _ => by rw [if_neg (by omega), Nat.add_zero])⟩
    unfold p_X5_growFrom_16; simp (disch := omega) only [y_lit, y_n1, nI_add, pk_mul, j_lt, j_b1_s, j_b2_s, j_b3_s, j_b0_s, y_bo, y_bo1, y_bo0, y_i0, y_i1, Classical.not_not, nI_clamp, y_ix, y_lt, y_le, y_eq, y_nP, y_nPs, y_ltP, y_ltQ, y_ltPP, y_eqP, y_eqQ, y_eqPP, if_pos, if_neg, ite_true, ite_false, not_true_eq_false, not_false_eq_true, and_true, true_and, and_false, false_and, or_true, true_or, or_false, false_or, yc_holes hN]
  | succ m ih =>
    intro i n σ A h hn hN hV hA
    obtain ⟨n, rfl⟩ := y_pos hn
    have le := y_lz_le b l i (one + 1) two
    have cl := yc_lets hN hW h9 (l := l) (h := i) (one := one + 1) (two := two) hl (by omega) (by omega) h2 (fun z => by omega) rfl (y_nPs one).symm
    -- without it
    have skip : y_ok b l (one + 1) two i = 0 → ∃ σ', p_X5_growFrom_16 (nI l) (nP two) (nI one) (nP k) n (nI (i + 1)) σ = some σ' ∧ y_fr 39 39 σ σ' ∧ y_L1 σ' 39 (fun o h => A o h + if o = k ∧ i ≤ h ∧ h < y_ho b then y_ok b l (one + 1) two h * V two one else 0) := by
      intro z
      obtain ⟨σ', e1, e2, e3⟩ := ih (i + 1) n σ A (by omega) (by omega) hN hV hA
      refine ⟨σ', e1, e2, e3.ext (fun o x _ _ => ?_)⟩
      congr 1
      by_cases e : x = i
      · subst e; rw [if_neg (by omega), z, Nat.zero_mul]; split <;> rfl
      · by_cases d : o = k ∧ i + 1 ≤ x ∧ x < y_ho b
        · rw [if_pos d, if_pos ⟨d.1, by omega, d.2.2⟩]
        · rw [if_neg d, if_neg (fun z => d ⟨z.1, by omega, z.2.2⟩)]
    unfold p_X5_growFrom_16
    rw [yc_holes hN, if_pos ((y_lt (by omega) (by omega)).mpr (by omega)), yc_isShut hN hW (by omega), show nI i + (1 : Int32) = nI (i + 1) by simp (disch := omega) only [y_lit, nI_add]]
    by_cases c : y_sh b i = 1
    · rw [if_pos c, if_neg (show ¬ nI 1 = (0 : Int32) by decide), j_b1_s]
      exact skip (if_pos c)
    · rw [if_neg c, if_pos (show nI 0 = (0 : Int32) from rfl), cl, j_b1_s]
      have eo : y_ok b l (one + 1) two i = y_lz b l i (one + 1) two := if_neg c
      by_cases d : y_lz b l i (one + 1) two = 0
      · rw [d, if_neg (show ¬ ¬ nI 0 = (0 : Int32) from fun z => z rfl), j_b1_s]
        exact skip (by rw [eo]; exact d)
      · have d1 : y_ok b l (one + 1) two i = 1 := by omega
        rw [if_pos (show ¬ nI (y_lz b l i (one + 1) two) = (0 : Int32) by rw [show (0 : Int32) = nI 0 from rfl, y_eq (by omega) (by omega)]; exact d), tl_ways h2 h1, j_b1_s, tl_add hk (by omega), j_b1_s, j_b1_s, hV two one h2 h1]
        have fr : y_fr 39 39 σ (j_sl σ 39 (12 * k + i) (σ.2 39 (12 * k + i) + nL (V two one))) := y_fr.refl.sl (by omega) (by omega)
        obtain ⟨σ', e1, e2, e3⟩ := ih (i + 1) n _ _ (by omega) (by omega) (hN.fr fr (by omega)) (hV.fr fr (by omega)) (hA.add (w := V two one) hk (by omega))
        refine ⟨σ', e1, fr.trans e2, e3.ext (fun o x _ _ => ?_)⟩
        show A o x + (if o = k ∧ x = i then V two one else 0) + (if o = k ∧ i + 1 ≤ x ∧ x < y_ho b then y_ok b l (one + 1) two x * V two one else 0) = _
        by_cases e : o = k ∧ x = i
        · obtain ⟨rfl, rfl⟩ := e
          rw [if_pos ⟨rfl, rfl⟩, if_neg (by omega), if_pos ⟨rfl, by omega, by omega⟩, d1, Nat.one_mul, Nat.add_zero]
        · rw [if_neg e, Nat.add_zero]
          congr 1
          by_cases q : o = k ∧ i + 1 ≤ x ∧ x < y_ho b
          · rw [if_pos q, if_pos ⟨q.1, by omega, q.2.2⟩]
          · rw [if_neg q, if_neg (fun z => q ⟨z.1, by omega, z.2.2⟩)]
theorem tl_gfromv {l two one : Nat} {V A : Nat → Nat → Nat} (hN : y_N σ b) (hW : y_W b) (h9 : 0 < b 9) (hl : l < 4) (h2 : two ≤ 12) (h1 : one < 12) (hV : y_L1 σ 38 V) (hA : y_L1 σ 39 A) : ∃ σ', f_X5_growFrom (nI l) (nP two) (nI one) σ = some σ' ∧ y_fr 39 39 σ σ' ∧ y_L1 σ' 39 (fun o h => A o h + if h < y_ho b then (if o = y_kp l one then y_ok b l (one + 1) two h * V two one else 0) else 0) := by
  have ho := hW.ho
  unfold f_X5_growFrom
  simp only [j_lt]
  have e : (if nI l = (3 : Int32) then nI one else (-1 : Int32)) = nP (y_kp l one) := by
    unfold y_kp
    by_cases c : l = 3
    · subst c; rw [if_pos (show nI 3 = (3 : Int32) from rfl), if_pos rfl, y_nPs]
    · rw [if_neg (show ¬ nI l = (3 : Int32) by rw [show (3 : Int32) = nI 3 from rfl, y_eq (by omega) (by omega)]; exact c), if_neg c, y_m1]
  have hk : y_kp l one ≤ 12 := by unfold y_kp; split <;> omega
  obtain ⟨σ1, a1, a2, a3⟩ := tl_gfv hW h9 (k := y_kp l one) hl h2 h1 hk (y_ho b) 0 j_F σ A (by omega) (y_F (by omega)) hN hV hA
  rw [e, show (0 : Int32) = nI 0 from rfl, a1, j_b1_s]
  refine ⟨σ1, rfl, a2, a3.ext (fun o x _ _ => ?_)⟩
  congr 1
  by_cases d : x < y_ho b
  · rw [if_pos d]
    by_cases f : o = y_kp l one
    · rw [if_pos f, if_pos ⟨f, by omega, d⟩]
    · rw [if_neg f, if_neg (fun z => f z.1)]
  · rw [if_neg d, if_neg (fun z => d z.2.2)]
theorem tl_g2v {l : Nat} : ∀ m i n (σ : j_G), i + m = 156 → m < n → ∃ σ', p_X5_grow_2 (nI l) n (nI i) σ = some σ' ∧ y_fr 39 39 σ σ' ∧ (∀ j, i ≤ j → j < 156 → σ'.2 39 j = nL 0) ∧ ∀ j, j < i → σ'.2 39 j = σ.2 39 j := by
  intro m
  induction m with
  | zero =>
    intro i n σ h hn
    obtain ⟨n, rfl⟩ := y_pos hn
    refine ⟨σ, ?_, y_fr.refl, fun j a c => by omega, fun _ _ => rfl⟩
    unfold p_X5_grow_2; simp (disch := omega) only [y_lit, y_n1, nI_add, pk_mul, j_lt, j_b1_s, j_b2_s, j_b3_s, j_b0_s, y_bo, y_bo1, y_bo0, y_i0, y_i1, Classical.not_not, nI_clamp, y_ix, y_lt, y_le, y_eq, y_nP, y_nPs, y_ltP, y_ltQ, y_ltPP, y_eqP, y_eqQ, y_eqPP, if_pos, if_neg, ite_true, ite_false, not_true_eq_false, not_false_eq_true, and_true, true_and, and_false, false_and, or_true, true_or, or_false, false_or]
  | succ m ih =>
    intro i n σ h hn
    obtain ⟨n, rfl⟩ := y_pos hn
    obtain ⟨σ', e1, e2, e3, e4⟩ := ih (i + 1) n (j_sl σ 39 i (0 : Int64)) (by omega) (by omega)
    refine ⟨σ', ?_, (y_fr.refl.sl (by omega) (by omega)).trans e2, fun j a c => ?_, fun j hj => ?_⟩
    · unfold p_X5_grow_2; simp (disch := omega) only [y_lit, y_n1, nI_add, pk_mul, j_lt, j_b1_s, j_b2_s, j_b3_s, j_b0_s, y_bo, y_bo1, y_bo0, y_i0, y_i1, Classical.not_not, nI_clamp, y_ix, y_lt, y_le, y_eq, y_nP, y_nPs, y_ltP, y_ltQ, y_ltPP, y_eqP, y_eqQ, y_eqPP, if_pos, if_neg, ite_true, ite_false, not_true_eq_false, not_false_eq_true, and_true, true_and, and_false, false_and, or_true, true_or, or_false, false_or]; exact e1
    · by_cases e : j = i
      · subst e; rw [e4 j (by omega), j_l_eq]; rfl
      · exact e3 j (by omega) c
    · rw [e4 j (by omega), j_l_nj (by omega)]
theorem tl_g35v (hW : y_W b) (h9 : 0 < b 9) {l two : Nat} {V : Nat → Nat → Nat} (hl : l < 4) (h2 : two ≤ 12) (hb : ∀ o h, V o h < 2 ^ 60) : ∀ m i n (σ : j_G) (A : Nat → Nat → Nat), i + m = y_ho b → m < n → y_N σ b → y_L1 σ 38 V → y_L1 σ 39 A → ∃ σ', p_X5_grow_35 (nI l) (nP two) n (nI i) σ = some σ' ∧ y_fr 39 39 σ σ' ∧ y_L1 σ' 39 (fun o h => A o h + if h < y_ho b then y_su (fun one => if o = y_kp l one then y_ok b l (one + 1) two h * V two one else 0) m i 0 else 0) := by
  have ho := hW.ho
  intro m
  induction m with
  | zero =>
    intro i n σ A h hn hN hV hA
    obtain ⟨n, rfl⟩ := y_pos hn
    refine ⟨σ, ?_, y_fr.refl, hA.ext (fun o x _ _ => by show _ = A o x + if x < y_ho b then 0 else 0; split <;> rfl)⟩
    unfold p_X5_grow_35; simp (disch := omega) only [y_lit, y_n1, nI_add, pk_mul, j_lt, j_b1_s, j_b2_s, j_b3_s, j_b0_s, y_bo, y_bo1, y_bo0, y_i0, y_i1, Classical.not_not, nI_clamp, y_ix, y_lt, y_le, y_eq, y_nP, y_nPs, y_ltP, y_ltQ, y_ltPP, y_eqP, y_eqQ, y_eqPP, if_pos, if_neg, ite_true, ite_false, not_true_eq_false, not_false_eq_true, and_true, true_and, and_false, false_and, or_true, true_or, or_false, false_or, yc_holes hN]
  | succ m ih =>
    intro i n σ A h hn hN hV hA
    obtain ⟨n, rfl⟩ := y_pos hn
    unfold p_X5_grow_35
    have b1 := hb two i
    have e63 : (2 : Nat) ^ 60 < 2 ^ 63 := by decide
    rw [yc_holes hN, if_pos ((y_lt (by omega) (by omega)).mpr (by omega)), tl_ways h2 (by omega), j_b1_s, show nI i + (1 : Int32) = nI (i + 1) by simp (disch := omega) only [y_lit, nI_add], hV two i h2 (by omega), show (0 : Int64) = nL 0 from rfl]
    by_cases c : nL 0 < nL (V two i)
    · obtain ⟨σ1, a1, a2, a3⟩ := tl_gfromv hN hW h9 (l := l) (two := two) (one := i) hl h2 (by omega) hV hA
      obtain ⟨σ', e1, e2, e3⟩ := ih (i + 1) n σ1 _ (by omega) (by omega) (hN.fr a2 (by omega)) (hV.fr a2 (by omega)) a3
      rw [if_pos c, a1, j_b1_s, j_b1_s]
      refine ⟨σ', e1, a2.trans e2, e3.ext (fun o x _ _ => ?_)⟩
      show A o x + (if x < y_ho b then (if o = y_kp l i then y_ok b l (i + 1) two x * V two i else 0) else 0) + (if x < y_ho b then y_su _ m (i + 1) 0 else 0) = _
      by_cases d : x < y_ho b
      · rw [if_pos d, if_pos d, if_pos d, y_su_s]; omega
      · rw [if_neg d, if_neg d, if_neg d]
    · rw [if_neg c, j_b1_s]
      obtain ⟨σ', e1, e2, e3⟩ := ih (i + 1) n σ A (by omega) (by omega) hN hV hA
      refine ⟨σ', e1, e2, e3.ext (fun o x _ _ => ?_)⟩
      have v0 : V two i = 0 := by
        rw [nL_lt (by omega) (by omega)] at c; omega
      congr 1
      by_cases d : x < y_ho b
      · rw [if_pos d, if_pos d, y_su_s, v0, Nat.mul_zero]
        split <;> rfl
      · rw [if_neg d, if_neg d]
theorem tl_g24v (hW : y_W b) (h9 : 0 < b 9) {l : Nat} {V : Nat → Nat → Nat} (hl : l < 4) (hb : ∀ o h, V o h < 2 ^ 60) : ∀ m j n (σ : j_G) (A : Nat → Nat → Nat), j + m = y_ho b + 1 → m < n → y_N σ b → y_L1 σ 38 V → y_L1 σ 39 A → ∃ σ', p_X5_grow_24 (nI l) n (nP j) σ = some σ' ∧ y_fr 39 39 σ σ' ∧ y_L1 σ' 39 (fun o h => A o h + if h < y_ho b then y_su (fun two => y_su (fun one => if o = y_kp l one then y_ok b l (one + 1) two h * V two one else 0) (y_ho b) 0 0) m j 0 else 0) := by
  have ho := hW.ho
  intro m
  induction m with
  | zero =>
    intro j n σ A h hn hN hV hA
    obtain ⟨n, rfl⟩ := y_pos hn
    refine ⟨σ, ?_, y_fr.refl, hA.ext (fun o x _ _ => by show _ = A o x + if x < y_ho b then 0 else 0; split <;> rfl)⟩
    unfold p_X5_grow_24
    rw [yc_holes hN, if_neg (by rw [y_ltP (by omega) (by omega)]; omega)]
  | succ m ih =>
    intro j n σ A h hn hN hV hA
    obtain ⟨n, rfl⟩ := y_pos hn
    obtain ⟨σ1, a1, a2, a3⟩ := tl_g35v hW h9 (l := l) (two := j) hl (by omega) hb (y_ho b) 0 j_F σ A (by omega) (y_F (by omega)) hN hV hA
    obtain ⟨σ', e1, e2, e3⟩ := ih (j + 1) n σ1 _ (by omega) (by omega) (hN.fr a2 (by omega)) (hV.fr a2 (by omega)) a3
    refine ⟨σ', ?_, a2.trans e2, e3.ext (fun o x _ _ => ?_)⟩
    · unfold p_X5_grow_24
      rw [yc_holes hN, if_pos (by rw [y_ltP (by omega) (by omega)]; omega), show (0 : Int32) = nI 0 from rfl, a1, j_b1_s, y_pn]
      exact e1
    · show A o x + (if x < y_ho b then y_su _ (y_ho b) 0 0 else 0) + (if x < y_ho b then y_su _ m (j + 1) 0 else 0) = _
      by_cases d : x < y_ho b
      · rw [if_pos d, if_pos d, if_pos d, y_su_s]; omega
      · rw [if_neg d, if_neg d, if_neg d]
theorem tl_growv {l k : Nat} (hN : y_N σ b) (hW : y_W b) (h9 : 0 < b 9) (hl : l < 4) (hk : k < 12) (hV : y_L1 σ 38 (y_V b l (k + 1))) : ∃ σ', f_X5_grow (nI l) σ = some σ' ∧ y_fr 38 39 σ σ' ∧ y_L1 σ' 38 (y_V b l (k + 2)) := by
  have ho := hW.ho
  have hb : ∀ o h, y_V b l (k + 1) o h < 2 ^ 60 := fun o h => by
    have := y_V_63 (b := b) (l := l) ho (n := k + 1) (o := o) (h := h) (by omega)
    have e : (2 : Nat) ^ 54 < 2 ^ 60 := by decide
    omega
  obtain ⟨σ1, a1, a2, a3, _⟩ := tl_g2v (l := l) 156 0 j_F σ (by omega) (y_F (by omega))
  obtain ⟨σ2, b1, b2, b3⟩ := tl_g24v hW h9 hl hb (y_ho b + 1) 0 j_F σ1 (fun _ _ => 0) (by omega) (y_F (by omega)) (hN.fr a2 (by omega)) (hV.fr a2 (by omega)) (fun o x _ _ => a3 _ (by omega) (by omega))
  have cg : ∀ {α : Type} (o : Option α), j_cg (0 : Int32) (0 : Int32) (156 : Int32) 156 156 o = o := by
    intro α o
    have h1 : ¬ ((0 : Int32) < 0 ∨ (0 : Int32) < 0 ∨ (156 : Int32) < 0 ∨ 156 < ((0 : Int32)).toNatClampNeg + ((156 : Int32)).toNatClampNeg ∨ 156 < ((0 : Int32)).toNatClampNeg + ((156 : Int32)).toNatClampNeg) := by decide
    exact if_neg h1
  refine ⟨j_cl σ2 39 0 38 0 156, ?_, ((a2.trans b2).wide (by omega) (by omega)).trans (y_fr.refl.cl (by omega) (by omega)), fun o x hx1 hx2 => ?_⟩
  · unfold f_X5_grow
    rw [show p_X5_grow_2 (nI l) j_F (0 : Int32) σ = _ from a1, j_b1_s, y_m1, b1, j_b1_s, cg]
    rfl
  · have e : (j_cl σ2 39 0 38 0 156).2 38 (12 * o + x) = σ2.2 39 (12 * o + x) := by
      simp (disch := omega) only [j_cl_eq, pk_cpy_in, Nat.zero_add, Nat.sub_zero]
    rw [e, b3 o x hx1 hx2]
    refine congrArg nL ?_
    refine (Nat.zero_add _).trans ?_
    by_cases d : x < y_ho b
    · rw [if_pos d]; exact y_V_s ho hl d
    · rw [if_neg d]; exact (if_neg d).symm
theorem tl_c43v (hW : y_W b) (h9 : 0 < b 9) {l c : Nat} (hl : l < 4) (hc : c ≤ 12) : ∀ m i n (σ : j_G), i + 1 + m = c → m < n → y_N σ b → y_L1 σ 38 (y_V b l (i + 1)) → ∃ σ', p_X11_countLots_43 (nI l) (nI c) n (nI (i + 1)) σ = some σ' ∧ y_fr 38 39 σ σ' ∧ y_L1 σ' 38 (y_V b l c) := by
  intro m
  induction m with
  | zero =>
    intro i n σ h hn hN hV
    obtain ⟨n, rfl⟩ := y_pos hn
    refine ⟨σ, ?_, y_fr.refl, by rw [← h]; exact hV⟩
    unfold p_X11_countLots_43; simp (disch := omega) only [y_lit, y_n1, nI_add, pk_mul, j_lt, j_b1_s, j_b2_s, j_b3_s, j_b0_s, y_bo, y_bo1, y_bo0, y_i0, y_i1, Classical.not_not, nI_clamp, y_ix, y_lt, y_le, y_eq, y_nP, y_nPs, y_ltP, y_ltQ, y_ltPP, y_eqP, y_eqQ, y_eqPP, if_pos, if_neg, ite_true, ite_false, not_true_eq_false, not_false_eq_true, and_true, true_and, and_false, false_and, or_true, true_or, or_false, false_or]
  | succ m ih =>
    intro i n σ h hn hN hV
    obtain ⟨n, rfl⟩ := y_pos hn
    obtain ⟨σ1, a1, a2, a3⟩ := tl_growv hN hW h9 hl (by omega) hV
    obtain ⟨σ', e1, e2, e3⟩ := ih (i + 1) n σ1 (by omega) (by omega) (hN.fr a2 (by omega)) a3
    refine ⟨σ', ?_, a2.trans e2, e3⟩
    unfold p_X11_countLots_43
    rw [if_pos ((y_lt (by omega) (by omega)).mpr (by omega)), a1, j_b1_s, show nI (i + 1) + (1 : Int32) = nI (i + 1 + 1) by simp (disch := omega) only [y_lit, nI_add]]
    exact e1
theorem tl_rowsTov {l k x : Nat} (hN : y_N σ b) (hW : y_W b) (hV : y_L1 σ 38 (y_V b l (k + 1))) (hx : x < y_ho b) : f_X5_rowsTo (nI x) σ = some (nL (y_E b l (k + 1) x)) := by
  have ho := hW.ho
  have key : ∀ m j n s, j + m = y_ho b + 1 → m < n → p_X5_rowsTo_5 (nI x) σ n (nL s) (nP j) = some (nL (y_su (fun o => y_V b l (k + 1) o x) m j s)) := by
    intro m
    induction m with
    | zero =>
      intro j n s h hn
      obtain ⟨n, rfl⟩ := y_pos hn
      unfold p_X5_rowsTo_5
      rw [yc_holes hN, if_neg (by rw [y_ltP (by omega) (by omega)]; omega)]; rfl
    | succ m ih =>
      intro j n s h hn
      obtain ⟨n, rfl⟩ := y_pos hn
      have e1 := ih (j + 1) n (s + y_V b l (k + 1) j x) (by omega) (by omega)
      unfold p_X5_rowsTo_5
      simp only [j_lt]
      rw [yc_holes hN, if_pos (by rw [y_ltP (by omega) (by omega)]; omega), tl_ways (by omega) (by omega), j_b1_s, y_pn, hV j x (by omega) (by omega), nL_add]
      exact e1
  unfold f_X5_rowsTo
  rw [y_m1, show (0 : Int64) = nL 0 from rfl, key (y_ho b + 1) 0 j_F 0 (by omega) (y_F (by omega)), j_b1_s, y_V_row ho hx]
theorem tl_inAllv {l k : Nat} (hN : y_N σ b) (hW : y_W b) (hV : y_L1 σ 38 (y_V b l (k + 1))) : f_X5_rowsInAll σ = some (nL (y_su (y_E b l (k + 1)) (y_ho b) 0 0)) := by
  have ho := hW.ho
  have key : ∀ m i n s, i + m = y_ho b → m < n → p_X5_rowsInAll_5 σ n (nL s) (nI i) = some (nL (y_su (y_E b l (k + 1)) m i s)) := by
    intro m
    induction m with
    | zero =>
      intro i n s h hn
      obtain ⟨n, rfl⟩ := y_pos hn
      unfold p_X5_rowsInAll_5
      rw [yc_holes hN, if_neg (by rw [y_lt (by omega) (by omega)]; omega)]; rfl
    | succ m ih =>
      intro i n s h hn
      obtain ⟨n, rfl⟩ := y_pos hn
      have e1 := ih (i + 1) n (s + y_E b l (k + 1) i) (by omega) (by omega)
      unfold p_X5_rowsInAll_5
      simp only [j_lt]
      rw [yc_holes hN, if_pos ((y_lt (by omega) (by omega)).mpr (by omega)), tl_rowsTov hN hW hV (by omega), j_b1_s, show nI i + (1 : Int32) = nI (i + 1) by simp (disch := omega) only [y_lit, nI_add], nL_add]
      exact e1
  unfold f_X5_rowsInAll
  rw [show (0 : Int32) = nI 0 from rfl, show (0 : Int64) = nL 0 from rfl, key (y_ho b) 0 j_F 0 (by omega) (y_F (by omega)), j_b1_s]
end C
/-! ===== fair ===== -/
noncomputable def y_ev (b : Nat → Nat) (E : Nat → Nat) : Nat → Nat → Nat → Nat
  | 0, _, _ => 1
  | m + 1, i, e => if y_sh b i = 1 then y_ev b E m (i + 1) e else if e ≠ 0 ∧ E i + 1 ≠ e then 0 else y_ev b E m (i + 1) (E i + 1)
noncomputable def y_evn (b : Nat → Nat) (l n : Nat) : Nat := y_ev b (y_E b l n) (y_ho b) 0 0
noncomputable def y_fa (b : Nat → Nat) (l : Nat) : Nat → Nat → Nat
  | 0, _ => 1
  | m + 1, n => if y_evn b l n = 0 then 0 else y_fa b l m (n + 1)
theorem y_ev_le {b : Nat → Nat} {E : Nat → Nat} : ∀ m i e, y_ev b E m i e ≤ 1 := by
  intro m
  induction m with
  | zero => intro i e; exact Nat.le_refl _
  | succ m ih =>
    intro i e
    unfold y_ev
    split
    · exact ih _ _
    · split
      · omega
      · exact ih _ _
theorem y_fa_le {b : Nat → Nat} {l : Nat} : ∀ m n, y_fa b l m n ≤ 1 := by
  intro m
  induction m with
  | zero => intro n; exact Nat.le_refl _
  | succ m ih =>
    intro n
    unfold y_fa
    split
    · omega
    · exact ih _
section C
variable {σ : j_G} {b : Nat → Nat}
noncomputable def y_ch (e : Nat) : Int64 := if e = 0 then -1 else nL (e - 1)
theorem tl_evenv {l k : Nat} (hN : y_N σ b) (hW : y_W b) (hk : k < 12) (hV : y_L1 σ 38 (y_V b l (k + 1))) : f_X5_isEven σ = some (nI (y_evn b l (k + 1))) := by
  have ho := hW.ho
  have e63 : (2 : Nat) ^ 54 < 2 ^ 62 := by decide
  have e62 : (2 : Nat) ^ 62 < 2 ^ 63 := by decide
  have key : ∀ m i n e, i + m = y_ho b → m < n → e < 2 ^ 62 → p_X5_isEven_7 σ n (y_ch e) (nI i) = some (nI (y_ev b (y_E b l (k + 1)) m i e)) := by
    intro m
    induction m with
    | zero =>
      intro i n e h hn he
      obtain ⟨n, rfl⟩ := y_pos hn
      unfold p_X5_isEven_7
      rw [yc_holes hN, if_neg (by rw [y_lt (by omega) (by omega)]; omega)]; rfl
    | succ m ih =>
      intro i n e h hn he
      obtain ⟨n, rfl⟩ := y_pos hn
      have eb := y_E_63 (b := b) (l := l) ho (n := k + 1) (h := i) (by omega)
      have e1 := ih (i + 1) n e (by omega) (by omega) he
      have e2 := ih (i + 1) n (y_E b l (k + 1) i + 1) (by omega) (by omega) (by omega)
      have ec : y_ch (y_E b l (k + 1) i + 1) = nL (y_E b l (k + 1) i) := if_neg (by omega)
      rw [ec] at e2
      unfold p_X5_isEven_7 y_ev
      simp only [j_lt]
      rw [yc_holes hN, if_pos ((y_lt (by omega) (by omega)).mpr (by omega)), yc_isShut hN hW (by omega), show nI i + (1 : Int32) = nI (i + 1) by simp (disch := omega) only [y_lit, nI_add]]
      by_cases c : y_sh b i = 1
      · rw [if_pos c, if_pos c, if_neg (show ¬ nI 1 = (0 : Int32) by decide)]
        exact e1
      · rw [if_neg c, if_neg c, if_pos (show nI 0 = (0 : Int32) from rfl), tl_rowsTov hN hW hV (by omega), j_b1_s]
        by_cases z : e = 0
        · subst z
          have n1 : ¬ (¬ y_ch 0 = (-1 : Int64) ∧ ¬ nL (y_E b l (k + 1) i) = y_ch 0) := fun w => w.1 rfl
          have n2 : ¬ ((0 : Nat) ≠ 0 ∧ y_E b l (k + 1) i + 1 ≠ 0) := fun w => w.1 rfl
          rw [if_neg n1, if_neg n2]
          exact e2
        · have ce : y_ch e = nL (e - 1) := if_neg z
          rw [ce]
          by_cases d : y_E b l (k + 1) i + 1 = e
          · have n1 : ¬ (¬ nL (e - 1) = (-1 : Int64) ∧ ¬ nL (y_E b l (k + 1) i) = nL (e - 1)) := fun w => w.2 (by rw [show e - 1 = y_E b l (k + 1) i by omega])
            have n2 : ¬ (e ≠ 0 ∧ y_E b l (k + 1) i + 1 ≠ e) := fun w => w.2 d
            rw [if_neg n1, if_neg n2]
            exact e2
          · have n1 : ¬ nL (e - 1) = (-1 : Int64) ∧ ¬ nL (y_E b l (k + 1) i) = nL (e - 1) := ⟨nL_m1 (by omega), fun w => d (by rw [nL_eq (by omega) (by omega)] at w; omega)⟩
            have n2 : e ≠ 0 ∧ y_E b l (k + 1) i + 1 ≠ e := ⟨z, d⟩
            rw [if_pos n1, if_pos n2] <;> rfl
  exact key (y_ho b) 0 j_F 0 (by omega) (y_F (by omega)) (by omega)
theorem tl_f45v (hW : y_W b) (h9 : 0 < b 9) {l : Nat} (hl : l < 4) : ∀ m i n (σ : j_G), i + 2 + m = 13 → m < n → y_N σ b → y_L1 σ 38 (y_V b l (i + 1)) → ∃ σ', p_X11_fair_45 (nI l) n (nI (y_evn b l (i + 1))) (nI (i + 2)) σ = some (nI (y_fa b l (m + 1) (i + 1)), σ') ∧ y_fr 38 39 σ σ' := by
  intro m
  induction m with
  | zero =>
    intro i n σ h hn hN hV
    obtain ⟨n, rfl⟩ := y_pos hn
    have le : y_evn b l (i + 1) ≤ 1 := y_ev_le _ _ _
    refine ⟨σ, ?_, y_fr.refl⟩
    unfold p_X11_fair_45 y_fa y_fa
    rw [if_neg (fun z => z.1 (by rw [show (12 : Int32) = nI 12 from rfl, y_lt (by omega) (by omega)]; omega))]
    congr 2
    by_cases c : y_evn b l (i + 1) = 0
    · rw [if_pos c, c]
    · rw [if_neg c]; congr 1; omega
  | succ m ih =>
    intro i n σ h hn hN hV
    obtain ⟨n, rfl⟩ := y_pos hn
    have le : y_evn b l (i + 1) ≤ 1 := y_ev_le _ _ _
    unfold p_X11_fair_45
    rw [show y_fa b l (m + 1 + 1) (i + 1) = if y_evn b l (i + 1) = 0 then 0 else y_fa b l (m + 1) (i + 1 + 1) from rfl]
    by_cases c : y_evn b l (i + 1) = 0
    · rw [if_neg (fun z => z.2 (by rw [c]; rfl)), if_pos c, c]
      exact ⟨σ, rfl, y_fr.refl⟩
    · obtain ⟨σ1, a1, a2, a3⟩ := tl_growv hN hW h9 hl (by omega) hV
      have hN1 : y_N σ1 b := hN.fr a2 (by omega)
      obtain ⟨σ', e1, e2⟩ := ih (i + 1) n σ1 (by omega) (by omega) hN1 a3
      rw [if_neg c, if_pos ⟨by rw [show (12 : Int32) = nI 12 from rfl, y_lt (by omega) (by omega)]; omega, by rw [show (0 : Int32) = nI 0 from rfl, y_eq (by omega) (by omega)]; exact c⟩, a1, j_b1_s, tl_evenv hN1 hW (by omega) a3, j_b1_s, show nI (i + 2) + (1 : Int32) = nI (i + 1 + 2) by rw [show (1 : Int32) = nI 1 from rfl, nI_add]]
      exact ⟨σ', e1, a2.trans e2⟩
end C
/-! ===== lots: the reference's numbers ===== -/
def y_L2 (τ : j_G) (c : Nat) (A : Nat → Nat → Nat) : Prop := ∀ p q, p ≤ 12 → q ≤ 12 → τ.2 c (13 * p + q) = nL (A p q)
section R
variable {τ : j_G} {b : Nat → Nat}
theorem y_L2.ext {c : Nat} {A A' : Nat → Nat → Nat} (h : y_L2 τ c A) (e : ∀ p q, p ≤ 12 → q ≤ 12 → A p q = A' p q) : y_L2 τ c A' := fun p q hp hq => by
  rw [h p q hp hq, e p q hp hq]
theorem y_L2.fr {τ' : j_G} {c : Nat} {A : Nat → Nat → Nat} (h : y_L2 τ c A) (hf : y_fm 43 42 91 91 τ τ') (hc : c = 92) : y_L2 τ' c A := fun p q hp hq => by
  subst hc; rw [hf.l 92 _ (by omega) (by omega)]; exact h p q hp hq
theorem y_M.fr4 {τ τ' : j_G} (h : y_M τ b) (hf : y_fm 43 42 91 91 τ τ') : y_M τ' b := h.fr hf (by omega)
theorem y_L2.add {k i w : Nat} {A : Nat → Nat → Nat} (h : y_L2 τ 91 A) (hk : k ≤ 12) (hi : i ≤ 12) : y_L2 (j_sl τ 91 (13 * k + i) (τ.2 91 (13 * k + i) + nL w)) 91 (fun p q => A p q + if p = k ∧ q = i then w else 0) := by
  intro p q hp hq
  show _ = nL (A p q + if p = k ∧ q = i then w else 0)
  by_cases e : p = k ∧ q = i
  · obtain ⟨rfl, rfl⟩ := e
    rw [j_l_eq, h p q hp hq, nL_add, if_pos ⟨rfl, rfl⟩]
  · rw [j_l_nj (by omega), h p q hp hq, if_neg e, Nat.add_zero]
theorem tm_2v {l : Nat} {c : Int32} : ∀ m i n (τ : j_G), i + m = 169 → m < n → ∃ τ', p_X12_fillRows_2 (nI l) c n (nI i) τ = some τ' ∧ y_fm 43 42 91 92 τ τ' ∧ (∀ j, i ≤ j → j < 169 → τ'.2 91 j = nL (if j = 0 then 1 else 0)) ∧ ∀ j, j < i → τ'.2 91 j = τ.2 91 j := by
  intro m
  induction m with
  | zero =>
    intro i n τ h hn
    obtain ⟨n, rfl⟩ := y_pos hn
    refine ⟨τ, ?_, y_fm.refl, fun j a c => by omega, fun _ _ => rfl⟩
    unfold p_X12_fillRows_2; simp (disch := omega) only [y_lit, y_n1, nI_add, pk_mul, j_lt, j_b1_s, j_b2_s, j_b3_s, j_b0_s, y_bo, y_bo1, y_bo0, y_i0, y_i1, Classical.not_not, nI_clamp, y_ix, y_lt, y_le, y_eq, y_nP, y_nPs, y_ltP, y_ltQ, y_ltPP, y_eqP, y_eqQ, y_eqPP, if_pos, if_neg, ite_true, ite_false, not_true_eq_false, not_false_eq_true, and_true, true_and, and_false, false_and, or_true, true_or, or_false, false_or]
  | succ m ih =>
    intro i n τ h hn
    obtain ⟨n, rfl⟩ := y_pos hn
    have ev : (if nI i = 0 then (1 : Int64) else (0 : Int64)) = nL (if i = 0 then 1 else 0) := by
      by_cases z : i = 0
      · subst z; rw [if_pos (show nI 0 = 0 from rfl), if_pos rfl]; rfl
      · rw [if_neg (by rw [show (0 : Int32) = nI 0 from rfl, y_eq (by omega) (by omega)]; exact z), if_neg z]; rfl
    obtain ⟨τ', e1, e2, e3, e4⟩ := ih (i + 1) n (j_sl τ 91 i (nL (if i = 0 then 1 else 0))) (by omega) (by omega)
    refine ⟨τ', ?_, y_fm.trans (y_fm.refl.sl (by omega) (by omega) (by omega)) e2, fun j a d => ?_, fun j hj => ?_⟩
    · unfold p_X12_fillRows_2
      simp only [j_lt]
      rw [if_pos (show nI i < (169 : Int32) by rw [show (169 : Int32) = nI 169 from rfl, y_lt (by omega) (by omega)]; omega), y_ix (by omega) (by omega), nI_clamp (by omega), show nI i + (1 : Int32) = nI (i + 1) by simp (disch := omega) only [y_lit, nI_add], ev]
      exact e1
    · by_cases e : j = i
      · subst e; rw [e4 j (by omega), j_l_eq]
      · exact e3 j (by omega) d
    · rw [e4 j (by omega), j_l_nj (by omega)]
theorem tm_42v {l i0 : Nat} {c : Int32} : ∀ m i n (τ : j_G), i + m = 169 → m < n → ∃ τ', p_X12_fillRows_42 (nI l) c (nI i0) n (nI i) τ = some τ' ∧ y_fm 43 42 91 92 τ τ' ∧ (∀ j, i ≤ j → j < 169 → τ'.2 92 j = τ.2 91 j ∧ τ'.2 91 j = nL 0) ∧ ∀ j, j < i → τ'.2 91 j = τ.2 91 j ∧ τ'.2 92 j = τ.2 92 j := by
  intro m
  induction m with
  | zero =>
    intro i n τ h hn
    obtain ⟨n, rfl⟩ := y_pos hn
    refine ⟨τ, ?_, y_fm.refl, fun j a c => by omega, fun _ _ => ⟨rfl, rfl⟩⟩
    unfold p_X12_fillRows_42; simp (disch := omega) only [y_lit, y_n1, nI_add, pk_mul, j_lt, j_b1_s, j_b2_s, j_b3_s, j_b0_s, y_bo, y_bo1, y_bo0, y_i0, y_i1, Classical.not_not, nI_clamp, y_ix, y_lt, y_le, y_eq, y_nP, y_nPs, y_ltP, y_ltQ, y_ltPP, y_eqP, y_eqQ, y_eqPP, if_pos, if_neg, ite_true, ite_false, not_true_eq_false, not_false_eq_true, and_true, true_and, and_false, false_and, or_true, true_or, or_false, false_or]
  | succ m ih =>
    intro i n τ h hn
    obtain ⟨n, rfl⟩ := y_pos hn
    obtain ⟨τ', e1, e2, e3, e4⟩ := ih (i + 1) n (j_sl (j_sl τ 92 i (τ.2 91 i)) 91 i (0 : Int64)) (by omega) (by omega)
    refine ⟨τ', ?_, y_fm.trans ((y_fm.refl.sl (by omega) (by omega) (by omega)).sl (by omega) (by omega) (by omega)) e2, fun j a d => ?_, fun j hj => ?_⟩
    · unfold p_X12_fillRows_42; simp (disch := omega) only [y_lit, y_n1, nI_add, pk_mul, j_lt, j_b1_s, j_b2_s, j_b3_s, j_b0_s, y_bo, y_bo1, y_bo0, y_i0, y_i1, Classical.not_not, nI_clamp, y_ix, y_lt, y_le, y_eq, y_nP, y_nPs, y_ltP, y_ltQ, y_ltPP, y_eqP, y_eqQ, y_eqPP, if_pos, if_neg, ite_true, ite_false, not_true_eq_false, not_false_eq_true, and_true, true_and, and_false, false_and, or_true, true_or, or_false, false_or]; exact e1
    · by_cases e : j = i
      · subst e
        obtain ⟨q1, q2⟩ := e4 j (by omega)
        rw [q1, q2, j_l_eq, j_l_ne (by omega), j_l_eq]
        exact ⟨rfl, rfl⟩
      · obtain ⟨q1, q2⟩ := e3 j (by omega) d
        rw [q1, q2, j_l_nj e, j_l_ne (by omega)]
        exact ⟨rfl, rfl⟩
    · obtain ⟨q1, q2⟩ := e4 j (by omega)
      rw [q1, q2, j_l_nj (by omega), j_l_ne (by omega), j_l_ne (by omega), j_l_nj (by omega)]
      exact ⟨rfl, rfl⟩
theorem tm_136v (hW : y_W b) (h9 : 0 < b 9) {l i0 one two w : Nat} {c : Int32} (hl : l < 4) (h1 : one ≤ 12) (h2 : two ≤ 12) : ∀ m i n (τ : j_G) (A : Nat → Nat → Nat), i + m = y_ho b → m < n → y_M τ b → y_L2 τ 91 A → ∃ τ', p_X12_fillRows_136 (nI l) c (nI i0) (nP one) (nP two) (nL w) n (nI i) τ = some τ' ∧ y_fm 43 42 91 91 τ τ' ∧ y_L2 τ' 91 (fun p q => A p q + if q = one ∧ i + 1 ≤ p ∧ p ≤ y_ho b then y_ok b l one two (p - 1) * w else 0) := by
  have ho := hW.ho
  intro m
  induction m with
  | zero =>
    intro i n τ A h hn hM hA
    obtain ⟨n, rfl⟩ := y_pos hn
    refine ⟨τ, ?_, y_fm.refl, hA.ext (fun p q _ _ => by rw [if_neg (by omega), Nat.add_zero])⟩
    unfold p_X12_fillRows_136; simp (disch := omega) only [y_lit, y_n1, nI_add, pk_mul, j_lt, j_b1_s, j_b2_s, j_b3_s, j_b0_s, y_bo, y_bo1, y_bo0, y_i0, y_i1, Classical.not_not, nI_clamp, y_ix, y_lt, y_le, y_eq, y_nP, y_nPs, y_ltP, y_ltQ, y_ltPP, y_eqP, y_eqQ, y_eqPP, if_pos, if_neg, ite_true, ite_false, not_true_eq_false, not_false_eq_true, and_true, true_and, and_false, false_and, or_true, true_or, or_false, false_or, ym_holes hM]
  | succ m ih =>
    intro i n τ A h hn hM hA
    obtain ⟨n, rfl⟩ := y_pos hn
    have le := y_ok_le b l one two i
    have cl : f_X12_lets (nI l) (nI i) (nP one) (nP two) τ = some (nI (y_ok b l one two i)) := ym_lets hM hW h9 (l := l) (h := i) (one := one) (two := two) hl (by omega) h1 h2 rfl rfl
    have ei : (((13 : Int32) * (nI i + (1 : Int32))) + nP one) + (1 : Int32) = nI (13 * (i + 1) + one) := by
      rw [show nI i + (1 : Int32) = nI (i + 1) by simp (disch := omega) only [y_lit, nI_add], show (13 : Int32) = nI 13 from rfl, pk_mul, Int32.add_assoc, y_pn, y_nPs, nI_add]
    unfold p_X12_fillRows_136
    rw [ym_holes hM, j_b1_s, if_pos ((y_lt (by omega) (by omega)).mpr (by omega)), cl, j_b1_s, ei, show nI i + (1 : Int32) = nI (i + 1) by simp (disch := omega) only [y_lit, nI_add]]
    by_cases d : y_ok b l one two i = 0
    · rw [d, if_neg (show ¬ ¬ nI 0 = (0 : Int32) from fun z => z rfl), j_b1_s]
      obtain ⟨τ', e1, e2, e3⟩ := ih (i + 1) n τ A (by omega) (by omega) hM hA
      refine ⟨τ', e1, e2, e3.ext (fun p q _ _ => ?_)⟩
      congr 1
      by_cases e : p = i + 1
      · subst e; rw [if_neg (by omega), Nat.add_sub_cancel, d, Nat.zero_mul]; split <;> rfl
      · by_cases f : q = one ∧ i + 1 + 1 ≤ p ∧ p ≤ y_ho b
        · rw [if_pos f, if_pos ⟨f.1, by omega, f.2.2⟩]
        · rw [if_neg f, if_neg (fun z => f ⟨z.1, by omega, z.2.2⟩)]
    · have d1 : y_ok b l one two i = 1 := by omega
      rw [if_pos (show ¬ nI (y_ok b l one two i) = (0 : Int32) by rw [show (0 : Int32) = nI 0 from rfl, y_eq (by omega) (by omega)]; exact d), y_ix (by omega) (by omega), y_ix (by omega) (by omega), nI_clamp (by omega)]
      have fr : y_fm 43 42 91 91 τ (j_sl τ 91 (13 * (i + 1) + one) (τ.2 91 (13 * (i + 1) + one) + nL w)) := y_fm.refl.sl (by omega) (by omega) (by omega)
      obtain ⟨τ', e1, e2, e3⟩ := ih (i + 1) n _ _ (by omega) (by omega) (hM.fr4 fr) (hA.add (w := w) (k := i + 1) (i := one) (by omega) h1)
      simp only [j_lt]
      rw [j_b1_s]
      refine ⟨τ', e1, y_fm.trans fr e2, e3.ext (fun p q _ _ => ?_)⟩
      show A p q + (if p = i + 1 ∧ q = one then w else 0) + (if q = one ∧ i + 1 + 1 ≤ p ∧ p ≤ y_ho b then y_ok b l one two (p - 1) * w else 0) = _
      by_cases e : p = i + 1 ∧ q = one
      · obtain ⟨rfl, rfl⟩ := e
        rw [if_pos ⟨rfl, rfl⟩, if_neg (by omega), if_pos ⟨rfl, by omega, by omega⟩, Nat.add_sub_cancel, d1, Nat.one_mul, Nat.add_zero]
      · rw [if_neg e, Nat.add_zero]
        congr 1
        by_cases f : q = one ∧ i + 1 + 1 ≤ p ∧ p ≤ y_ho b
        · rw [if_pos f, if_pos ⟨f.1, by omega, f.2.2⟩]
        · rw [if_neg f, if_neg (fun z => f ⟨z.1, by omega, z.2.2⟩)]
theorem tm_95v (hW : y_W b) (h9 : 0 < b 9) {l i0 one k : Nat} {c : Int32} (hl : l < 4) (h1 : one ≤ 12) (hk : k ≤ 12) : ∀ m j n (τ : j_G) (A : Nat → Nat → Nat), j + m = y_ho b + 1 → m < n → y_M τ b → y_L2 τ 91 A → y_L2 τ 92 (y_U b l k) → ∃ τ', p_X12_fillRows_95 (nI l) c (nI i0) (nP one) n (nP j) τ = some τ' ∧ y_fm 43 42 91 91 τ τ' ∧ y_L2 τ' 91 (fun p q => A p q + if q = one ∧ 1 ≤ p ∧ p ≤ y_ho b then y_su (fun two => y_ok b l one two (p - 1) * y_U b l k one two) m j 0 else 0) := by
  have ho := hW.ho
  intro m
  induction m with
  | zero =>
    intro j n τ A h hn hM hA hU
    obtain ⟨n, rfl⟩ := y_pos hn
    refine ⟨τ, ?_, y_fm.refl, hA.ext (fun p q _ _ => by show _ = A p q + if _ then 0 else 0; split <;> rfl)⟩
    unfold p_X12_fillRows_95
    rw [ym_holes hM, j_b1_s, if_neg (by rw [y_ltP (by omega) (by omega)]; omega)]
  | succ m ih =>
    intro j n τ A h hn hM hA hU
    obtain ⟨n, rfl⟩ := y_pos hn
    have e63 : (2 : Nat) ^ 50 < 2 ^ 63 := by decide
    have ub := y_U_63 (b := b) (l := l) ho (n := k) (p := one) (q := j) hk
    have ei : (((13 : Int32) * (nP one + (1 : Int32))) + nP j) + (1 : Int32) = nI (13 * one + j) := by
      rw [y_pn, y_nPs, show (13 : Int32) = nI 13 from rfl, pk_mul, Int32.add_assoc, y_pn, y_nPs, nI_add]
    unfold p_X12_fillRows_95
    simp only [j_lt]
    rw [ym_holes hM, j_b1_s, if_pos (by rw [y_ltP (by omega) (by omega)]; omega), ei, y_ix (by omega) (by omega), nI_clamp (by omega), y_pn, hU one j h1 (by omega), show (0 : Int64) = nL 0 from rfl]
    by_cases z : nL (y_U b l k one j) = nL 0
    · have z0 : y_U b l k one j = 0 := by rw [nL_eq (by omega) (by omega)] at z; exact z
      rw [if_pos z, j_b1_s]
      obtain ⟨τ', e1, e2, e3⟩ := ih (j + 1) n τ A (by omega) (by omega) hM hA hU
      refine ⟨τ', e1, e2, e3.ext (fun p q _ _ => ?_)⟩
      congr 1
      rw [y_su_s, z0, Nat.mul_zero]; simp only [Nat.add_zero]
    · obtain ⟨τ1, a1, a2, a3⟩ := tm_136v hW h9 (l := l) (i0 := i0) (one := one) (two := j) (c := c) (w := y_U b l k one j) hl h1 (by omega) (y_ho b) 0 j_F τ A (by omega) (y_F (by omega)) hM hA
      obtain ⟨τ', e1, e2, e3⟩ := ih (j + 1) n τ1 _ (by omega) (by omega) (hM.fr4 a2) a3 (hU.fr a2 rfl)
      rw [if_neg z, show (0 : Int32) = nI 0 from rfl, a1, j_b1_s, j_b1_s]
      refine ⟨τ', e1, y_fm.trans a2 e2, e3.ext (fun p q _ _ => ?_)⟩
      show A p q + (if q = one ∧ 0 + 1 ≤ p ∧ p ≤ y_ho b then y_ok b l one j (p - 1) * y_U b l k one j else 0) + (if q = one ∧ 1 ≤ p ∧ p ≤ y_ho b then y_su _ m (j + 1) 0 else 0) = _
      by_cases f : q = one ∧ 1 ≤ p ∧ p ≤ y_ho b
      · rw [if_pos f, if_pos (show q = one ∧ 0 + 1 ≤ p ∧ p ≤ y_ho b from f), if_pos f, y_su_s]; omega
      · rw [if_neg f, if_neg (show ¬ (q = one ∧ 0 + 1 ≤ p ∧ p ≤ y_ho b) from f), if_neg f]
theorem tm_83v (hW : y_W b) (h9 : 0 < b 9) {l i0 k : Nat} {c : Int32} (hl : l < 4) (hk : k ≤ 12) : ∀ m j n (τ : j_G) (A : Nat → Nat → Nat), j + m = y_ho b + 1 → m < n → y_M τ b → y_L2 τ 91 A → y_L2 τ 92 (y_U b l k) → ∃ τ', p_X12_fillRows_83 (nI l) c (nI i0) n (nP j) τ = some τ' ∧ y_fm 43 42 91 91 τ τ' ∧ y_L2 τ' 91 (fun p q => A p q + if j ≤ q ∧ q ≤ y_ho b ∧ 1 ≤ p ∧ p ≤ y_ho b then y_su (fun two => y_ok b l q two (p - 1) * y_U b l k q two) (y_ho b + 1) 0 0 else 0) := by
  have ho := hW.ho
  intro m
  induction m with
  | zero =>
    intro j n τ A h hn hM hA hU
    obtain ⟨n, rfl⟩ := y_pos hn
    refine ⟨τ, ?_, y_fm.refl, hA.ext (fun p q _ _ => by rw [if_neg (by omega), Nat.add_zero])⟩
    unfold p_X12_fillRows_83
    rw [ym_holes hM, j_b1_s, if_neg (by rw [y_ltP (by omega) (by omega)]; omega)]
  | succ m ih =>
    intro j n τ A h hn hM hA hU
    obtain ⟨n, rfl⟩ := y_pos hn
    obtain ⟨τ1, a1, a2, a3⟩ := tm_95v hW h9 (l := l) (i0 := i0) (one := j) (c := c) hl (by omega) hk (y_ho b + 1) 0 j_F τ A (by omega) (y_F (by omega)) hM hA hU
    obtain ⟨τ', e1, e2, e3⟩ := ih (j + 1) n τ1 _ (by omega) (by omega) (hM.fr4 a2) a3 (hU.fr a2 rfl)
    refine ⟨τ', ?_, y_fm.trans a2 e2, e3.ext (fun p q _ _ => ?_)⟩
    · unfold p_X12_fillRows_83
      rw [ym_holes hM, j_b1_s, if_pos (by rw [y_ltP (by omega) (by omega)]; omega), y_m1, a1, j_b1_s, y_pn]
      exact e1
    · show A p q + (if q = j ∧ 1 ≤ p ∧ p ≤ y_ho b then y_su (fun two => y_ok b l j two (p - 1) * y_U b l k j two) (y_ho b + 1) 0 0 else 0) + (if j + 1 ≤ q ∧ q ≤ y_ho b ∧ 1 ≤ p ∧ p ≤ y_ho b then y_su (fun two => y_ok b l q two (p - 1) * y_U b l k q two) (y_ho b + 1) 0 0 else 0) = _
      by_cases e : q = j
      · subst e
        rw [if_neg (show ¬ (q + 1 ≤ q ∧ q ≤ y_ho b ∧ 1 ≤ p ∧ p ≤ y_ho b) by omega), Nat.add_zero]
        congr 1
        by_cases f : 1 ≤ p ∧ p ≤ y_ho b
        · rw [if_pos ⟨rfl, f⟩, if_pos ⟨by omega, by omega, f⟩]
        · rw [if_neg (fun z => f z.2), if_neg (fun z => f z.2.2)]
      · rw [if_neg (fun z => e z.1), Nat.add_zero]
        congr 1
        by_cases f : j + 1 ≤ q ∧ q ≤ y_ho b ∧ 1 ≤ p ∧ p ≤ y_ho b
        · rw [if_pos f, if_pos ⟨by omega, f.2⟩]
        · rw [if_neg f, if_neg (fun z => f ⟨by omega, z.2⟩)]
theorem tm_34v (hW : y_W b) (h9 : 0 < b 9) {l c : Nat} (hl : l < 4) (hc : c ≤ 12) : ∀ m i n (τ : j_G), i + m = c → m < n → y_M τ b → y_L2 τ 91 (y_U b l i) → ∃ τ', p_X12_fillRows_34 (nI l) (nI c) n (nI i) τ = some τ' ∧ y_fm 43 42 91 92 τ τ' ∧ y_L2 τ' 91 (y_U b l c) := by
  have ho := hW.ho
  intro m
  induction m with
  | zero =>
    intro i n τ h hn hM hU
    obtain ⟨n, rfl⟩ := y_pos hn
    refine ⟨τ, ?_, y_fm.refl, by rw [← h]; exact hU⟩
    unfold p_X12_fillRows_34; simp (disch := omega) only [y_lit, y_n1, nI_add, pk_mul, j_lt, j_b1_s, j_b2_s, j_b3_s, j_b0_s, y_bo, y_bo1, y_bo0, y_i0, y_i1, Classical.not_not, nI_clamp, y_ix, y_lt, y_le, y_eq, y_nP, y_nPs, y_ltP, y_ltQ, y_ltPP, y_eqP, y_eqQ, y_eqPP, if_pos, if_neg, ite_true, ite_false, not_true_eq_false, not_false_eq_true, and_true, true_and, and_false, false_and, or_true, true_or, or_false, false_or]
  | succ m ih =>
    intro i n τ h hn hM hU
    obtain ⟨n, rfl⟩ := y_pos hn
    obtain ⟨τ1, a1, a2, a3, _⟩ := tm_42v (l := l) (i0 := i) (c := nI c) 169 0 j_F τ (by omega) (y_F (by omega))
    have hU1 : y_L2 τ1 92 (y_U b l i) := fun p q hp hq => by rw [(a3 _ (by omega) (by omega)).1]; exact hU p q hp hq
    obtain ⟨τ2, b1, b2, b3⟩ := tm_83v hW h9 (l := l) (i0 := i) (c := nI c) hl (k := i) (by omega) (y_ho b + 1) 0 j_F τ1 (fun _ _ => 0) (by omega) (y_F (by omega)) (hM.fr2 a2) (fun p q _ _ => (a3 _ (by omega) (by omega)).2) hU1
    have b2' : y_fm 43 42 91 92 τ1 τ2 := b2.wide (by omega) (by omega) (by omega) (by omega)
    obtain ⟨τ', e1, e2, e3⟩ := ih (i + 1) n τ2 (by omega) (by omega) ((hM.fr2 a2).fr2 b2') (b3.ext (fun p q _ _ => by
      rw [Nat.zero_add, y_U_s]
      by_cases f : 1 ≤ p ∧ p ≤ y_ho b ∧ q ≤ y_ho b
      · rw [if_pos f, if_pos ⟨by omega, f.2.2, f.1, f.2.1⟩]
      · rw [if_neg f, if_neg (fun z => f ⟨z.2.2.1, z.2.2.2, z.2.1⟩)]))
    refine ⟨τ', ?_, y_fm.trans (y_fm.trans a2 b2') e2, e3⟩
    unfold p_X12_fillRows_34
    rw [if_pos ((y_lt (by omega) (by omega)).mpr (by omega)), show (0 : Int32) = nI 0 from rfl, a1, j_b1_s, y_m1, b1, j_b1_s, show nI i + (1 : Int32) = nI (i + 1) by simp (disch := omega) only [y_lit, nI_add]]
    exact e1
theorem tm_fillv (hM : y_M τ b) (hW : y_W b) (h9 : 0 < b 9) {l c : Nat} (hl : l < 4) (hc : c ≤ 12) : ∃ τ', f_X12_fillRows (nI l) (nI c) τ = some τ' ∧ y_fm 43 42 91 92 τ τ' ∧ y_L2 τ' 91 (y_U b l c) := by
  obtain ⟨τ1, a1, a2, a3, _⟩ := tm_2v (l := l) (c := nI c) 169 0 j_F τ (by omega) (y_F (by omega))
  obtain ⟨τ2, b1, b2, b3⟩ := tm_34v hW h9 hl hc c 0 j_F τ1 (by omega) (y_F (by omega)) (hM.fr2 a2) (fun p q hp hq => by
    rw [a3 _ (by omega) (by omega)]
    show nL (if 13 * p + q = 0 then 1 else 0) = nL (if p = 0 ∧ q = 0 then 1 else 0)
    by_cases z : p = 0 ∧ q = 0
    · rw [if_pos z, if_pos (by omega)]
    · rw [if_neg z, if_neg (by omega)])
  refine ⟨τ2, ?_, y_fm.trans a2 b2, b3⟩
  unfold f_X12_fillRows
  rw [show (0 : Int32) = nI 0 from rfl, a1, j_b1_s, b1, j_b1_s]
theorem tm_endv {l c x : Nat} (hU : y_L2 τ 91 (y_U b l c)) (hx : x < 12) : f_X12_endingIn (nI x) τ = some (nL (y_E b l c x)) := by
  have key : ∀ m i n s, i + m = 13 → m < n → p_X12_endingIn_5 (nI x) τ n (nL s) (nI i) = some (nL (y_su (y_U b l c (x + 1)) m i s)) := by
    intro m
    induction m with
    | zero =>
      intro i n s h hn
      obtain ⟨n, rfl⟩ := y_pos hn
      unfold p_X12_endingIn_5
      rw [if_neg (by rw [show (13 : Int32) = nI 13 from rfl, y_lt (by omega) (by omega)]; omega)]; rfl
    | succ m ih =>
      intro i n s h hn
      obtain ⟨n, rfl⟩ := y_pos hn
      have e1 := ih (i + 1) n (s + y_U b l c (x + 1) i) (by omega) (by omega)
      unfold p_X12_endingIn_5
      simp only [j_lt]
      rw [if_pos (by rw [show (13 : Int32) = nI 13 from rfl, y_lt (by omega) (by omega)]; omega), show (13 : Int32) * (nI x + (1 : Int32)) + nI i = nI (13 * (x + 1) + i) by rw [show (1 : Int32) = nI 1 from rfl, show (13 : Int32) = nI 13 from rfl, nI_add, pk_mul, nI_add], y_ix (by omega) (by omega), nI_clamp (by omega), hU (x + 1) i (by omega) (by omega), nL_add, show nI i + (1 : Int32) = nI (i + 1) by simp (disch := omega) only [y_lit, nI_add]]
      exact e1
  unfold f_X12_endingIn
  rw [show (0 : Int32) = nI 0 from rfl, show (0 : Int64) = nL 0 from rfl, key 13 0 j_F 0 (by omega) (y_F (by omega)), j_b1_s]
  rfl
theorem tm_rows41 {l c : Nat} (hM : y_M τ b) (hW : y_W b) (hU : y_L2 τ 91 (y_U b l c)) : p_X12_rows_41 τ j_F (0 : Int64) (0 : Int32) = some (nL (y_su (y_E b l c) (y_ho b) 0 0)) := by
  have ho := hW.ho
  have key : ∀ m i n s, i + m = y_ho b → m < n → p_X12_rows_41 τ n (nL s) (nI i) = some (nL (y_su (y_E b l c) m i s)) := by
    intro m
    induction m with
    | zero =>
      intro i n s h hn
      obtain ⟨n, rfl⟩ := y_pos hn
      unfold p_X12_rows_41
      rw [ym_holes hM, j_b1_s, if_neg (by rw [y_lt (by omega) (by omega)]; omega)]; rfl
    | succ m ih =>
      intro i n s h hn
      obtain ⟨n, rfl⟩ := y_pos hn
      have e1 := ih (i + 1) n (s + y_E b l c i) (by omega) (by omega)
      unfold p_X12_rows_41
      simp only [j_lt]
      rw [ym_holes hM, j_b1_s, if_pos ((y_lt (by omega) (by omega)).mpr (by omega)), tm_endv hU (by omega), j_b1_s, nL_add, show nI i + (1 : Int32) = nI (i + 1) by simp (disch := omega) only [y_lit, nI_add]]
      exact e1
  exact key (y_ho b) 0 j_F 0 (by omega) (y_F (by omega))
theorem tm_f36v {l i0 c : Nat} {K : Int32 → j_G → Option (Int32 × j_G)} (hM : y_M τ b) (hW : y_W b) (hc : c ≤ 12) (hU : y_L2 τ 91 (y_U b l c)) : ∀ m i n f, i + m = y_ho b → m < n → f ≤ 12 → p_X12_fair_36 (nI l) (nI i0) τ K n (nP f) (nI i) = if y_ev b (y_E b l c) m i (if f = 0 then 0 else y_E b l c (f - 1) + 1) = 0 then some (0, τ) else K (nI i0 + (1 : Int32)) τ := by
  have ho := hW.ho
  have e63 : (2 : Nat) ^ 54 < 2 ^ 63 := by decide
  intro m
  induction m with
  | zero =>
    intro i n f h hn hf
    obtain ⟨n, rfl⟩ := y_pos hn
    unfold p_X12_fair_36 y_ev
    rw [ym_holes hM, j_b1_s, if_neg (by rw [y_lt (by omega) (by omega)]; omega), if_neg (by omega)]
  | succ m ih =>
    intro i n f h hn hf
    obtain ⟨n, rfl⟩ := y_pos hn
    have b1 := y_E_63 (b := b) (l := l) ho (n := c) (h := i) hc
    have b2 := y_E_63 (b := b) (l := l) ho (n := c) (h := f - 1) hc
    have st : p_X12_fair_36 (nI l) (nI i0) τ K (n + 1) (nP f) (nI i) = (if ¬ (if y_sh b i = 1 then nI 1 else nI 0) = (0 : Int32) then p_X12_fair_36 (nI l) (nI i0) τ K n (nP f) (nI (i + 1)) else (j_b1 (f_X12_endingIn (nI i) τ) fun v5 => j_b1 (f_X12_endingIn (if nP f = (-1 : Int32) then nI i else nP f) τ) fun v6 => if ¬ v5 = v6 then (some ((0 : Int32), τ)) else p_X12_fair_36 (nI l) (nI i0) τ K n (if nP f = (-1 : Int32) then nI i else nP f) (nI (i + 1)))) := by
      rw [p_X12_fair_36.eq_def]
      simp only [j_lt]
      rw [ym_holes hM, j_b1_s, if_pos ((y_lt (by omega) (by omega)).mpr (by omega)), ym_isShut hM hW (by omega), j_b1_s, show nI i + (1 : Int32) = nI (i + 1) by simp (disch := omega) only [y_lit, nI_add]]
    have ev : ∀ e, y_ev b (y_E b l c) (m + 1) i e = if y_sh b i = 1 then y_ev b (y_E b l c) m (i + 1) e else if e ≠ 0 ∧ y_E b l c i + 1 ≠ e then 0 else y_ev b (y_E b l c) m (i + 1) (y_E b l c i + 1) := fun e => rfl
    rw [st, ev]
    by_cases s : y_sh b i = 1
    · rw [if_pos s, if_pos s, if_pos (show ¬ nI 1 = (0 : Int32) by decide)]
      exact ih (i + 1) n f (by omega) (by omega) hf
    · rw [if_neg s, if_neg s, if_neg (show ¬ ¬ nI 0 = (0 : Int32) from fun z => z rfl)]
      by_cases z : f = 0
      · subst z
        have e1 := ih (i + 1) n (i + 1) (by omega) (by omega) (by omega)
        rw [y_nPs, if_neg (show ¬ i + 1 = 0 by omega), Nat.add_sub_cancel] at e1
        rw [if_pos (show nP 0 = (-1 : Int32) from y_m1.symm), tm_endv hU (by omega), j_b1_s, j_b1_s, if_neg (show ¬ ¬ nL (y_E b l c i) = nL (y_E b l c i) from fun w => w rfl)]
        rw [if_pos (show (0 : Nat) = 0 from rfl), if_neg (show ¬ ((0 : Nat) ≠ 0 ∧ y_E b l c i + 1 ≠ 0) from fun w => w.1 rfl)]
        exact e1
      · obtain ⟨g, rfl⟩ : ∃ g, f = g + 1 := ⟨f - 1, by omega⟩
        have e1 := ih (i + 1) n (g + 1) (by omega) (by omega) (by omega)
        rw [y_nPs, if_neg (show ¬ g + 1 = 0 by omega), Nat.add_sub_cancel] at e1
        rw [Nat.add_sub_cancel] at b2
        rw [if_neg (show ¬ nP (g + 1) = (-1 : Int32) by rw [y_m1, y_eqPP (by omega) (by omega)]; exact z), y_nPs, tm_endv hU (by omega), j_b1_s, tm_endv hU (by omega), j_b1_s, if_neg (show ¬ g + 1 = 0 by omega), Nat.add_sub_cancel]
        by_cases d : y_E b l c i = y_E b l c g
        · rw [if_neg (show ¬ ¬ nL (y_E b l c i) = nL (y_E b l c g) from fun w => w (by rw [d])), if_neg (show ¬ (y_E b l c g + 1 ≠ 0 ∧ y_E b l c i + 1 ≠ y_E b l c g + 1) from fun w => w.2 (by rw [d])), d]
          exact e1
        · rw [if_pos (show ¬ nL (y_E b l c i) = nL (y_E b l c g) from fun w => d (by rw [nL_eq (by omega) (by omega)] at w; exact w)), if_pos (show y_E b l c g + 1 ≠ 0 ∧ y_E b l c i + 1 ≠ y_E b l c g + 1 from ⟨by omega, by omega⟩), if_pos (show (0 : Nat) = 0 from rfl)]
theorem tm_f19v (hW : y_W b) (h9 : 0 < b 9) {l : Nat} (hl : l < 4) : ∀ m i n (τ : j_G), i + m = 13 → m < n → y_M τ b → ∃ τ', p_X12_fair_19 (nI l) n (nI i) τ = some (nI (y_fa b l m i), τ') ∧ y_fm 43 42 91 92 τ τ' := by
  have ho := hW.ho
  intro m
  induction m with
  | zero =>
    intro i n τ h hn hM
    obtain ⟨n, rfl⟩ := y_pos hn
    refine ⟨τ, ?_, y_fm.refl⟩
    unfold p_X12_fair_19
    rw [if_neg (fun z => z (by rw [show (12 : Int32) = nI 12 from rfl, y_lt (by omega) (by omega)]; omega))]
    rfl
  | succ m ih =>
    intro i n τ h hn hM
    obtain ⟨n, rfl⟩ := y_pos hn
    obtain ⟨τ1, a1, a2, a3⟩ := tm_fillv hM hW h9 hl (c := i) (by omega)
    have hM1 : y_M τ1 b := hM.fr2 a2
    obtain ⟨τ', e1, e2⟩ := ih (i + 1) n τ1 (by omega) (by omega) hM1
    have k := tm_f36v (l := l) (i0 := i) (K := fun w2 σw => p_X12_fair_19 (nI l) n w2 σw) hM1 hW (c := i) (by omega) a3 (y_ho b) 0 j_F 0 (by omega) (y_F (by omega)) (by omega)
    rw [if_pos rfl] at k
    unfold p_X12_fair_19
    rw [if_pos (show ¬ (12 : Int32) < nI i by rw [show (12 : Int32) = nI 12 from rfl, y_lt (by omega) (by omega)]; omega), a1, j_b1_s, y_m1, show (0 : Int32) = nI 0 from rfl, k, show nI i + (1 : Int32) = nI (i + 1) by simp (disch := omega) only [y_lit, nI_add]]
    unfold y_fa
    by_cases z : y_evn b l i = 0
    · rw [if_pos z, if_pos (show y_ev b (y_E b l i) (y_ho b) 0 0 = 0 from z)]
      exact ⟨τ1, rfl, a2⟩
    · rw [if_neg z, if_neg (show ¬ y_ev b (y_E b l i) (y_ho b) 0 0 = 0 from z)]
      exact ⟨τ', e1, y_fm.trans a2 e2⟩
end R
/-! ===== rows, ends, fair: the same ===== -/
section Z
variable {σ τ : j_G}
theorem z_lots {b : Nat → Nat} (hN : y_N σ b) (hM : y_M τ b) (hW : y_W b) (a1 a2 : Int32) :
    (∃ l c σ1 τ1, l < 4 ∧ c < 12 ∧ 0 < b 9 ∧ a1 = nI l ∧ a2 = nI (c + 1) ∧ f_X11_countLots a1 a2 σ = some (nI 1, σ1) ∧ y_fr 38 39 σ σ1 ∧ y_L1 σ1 38 (y_V b l (c + 1)) ∧ f_X12_fillRows a1 a2 τ = some τ1 ∧ y_fm 43 42 91 92 τ τ1 ∧ y_L2 τ1 91 (y_U b l (c + 1)) ∧ y_rg a1 4 ∧ f_X12_in a2.toInt64 (1 : Int64) (12 : Int64) = nI 1) ∨
    (f_X11_countLots a1 a2 σ = some (nI 0, σ) ∧ (¬ 0 < b 9 ∨ ¬ y_rg a1 4 ∨ f_X12_in a2.toInt64 (1 : Int64) (12 : Int64) = nI 0)) := by
  have F0 : nI 0 = (0 : Int32) := rfl
  have ein : f_X12_in a2.toInt64 (1 : Int64) (12 : Int64) = if ¬ a2 < nI 1 ∧ ¬ nI 12 < a2 then nI 1 else nI 0 := by
    rw [show (1 : Int64) = (nI 1).toInt64 from rfl, show (12 : Int64) = (nI 12).toInt64 from rfl, y_in]
  rw [ein]
  unfold f_X11_countLots
  rw [yc_isTold hN hW, yc_isLaw]
  by_cases h9 : 0 < b 9
  · by_cases hx : y_rg a1 4
    · by_cases hy : ¬ a2 < nI 1 ∧ ¬ nI 12 < a2
      · left
        obtain ⟨l, hl, rfl⟩ := y_of _ _ hx.1 hx.2
        have hy' := hy
        rw [y_ltr (by omega), y_ltl (by omega)] at hy'
        obtain ⟨k, hk, rfl⟩ := y_of a2 13 (by omega) (by omega)
        rw [nI_toInt (by omega)] at hy'
        obtain ⟨c, rfl⟩ : ∃ c, k = c + 1 := ⟨k - 1, by omega⟩
        obtain ⟨σ1, a1, a2, a3⟩ := tl_beginv (l := l) hN hW
        obtain ⟨σ2, b1, b2, b3⟩ := tl_c43v hW h9 hl (c := c + 1) (by omega) c 0 j_F σ1 (by omega) (y_F (by omega)) (hN.fr a2 (by omega)) a3
        obtain ⟨τ1, c1, c2, c3⟩ := tm_fillv hM hW h9 hl (c := c + 1) (by omega)
        refine ⟨l, c, σ2, τ1, hl, by omega, h9, rfl, rfl, ?_, a2.trans b2, b3, c1, c2, c3, hx, if_pos hy⟩
        rw [if_pos h9, if_pos hx, if_neg (fun z => by
          rcases z with z | z | z | z
          · exact absurd z (by decide)
          · exact absurd z (by decide)
          · exact hy.1 z
          · exact hy.2 z), a1, j_b1_s, show p_X11_countLots_43 (nI l) (nI (c + 1)) j_F (1 : Int32) σ1 = some σ2 from b1, j_b1_s] <;> rfl
      · right
        refine ⟨?_, Or.inr (Or.inr (if_neg hy))⟩
        refine (if_pos ?_).trans rfl
        right; right
        by_cases q : a2 < nI 1
        · exact Or.inl q
        · right
          by_cases q2 : nI 12 < a2
          · exact q2
          · exact absurd ⟨q, q2⟩ hy
    · right
      refine ⟨?_, Or.inr (Or.inl hx)⟩
      rw [if_neg hx, if_pos (Or.inr (Or.inl F0))] <;> rfl
  · right
    refine ⟨?_, Or.inl h9⟩
    rw [if_neg h9, if_pos (Or.inl F0)] <;> rfl
theorem z_rows (hR : j_Rel σ τ) (a1 a2 : Int32) : ∃ v σ1 τ1, f_X11_rows a1 a2 σ = some (v, σ1) ∧ f_X12_rows a1 a2 τ = some (v, τ1) ∧ j_Rel σ1 τ1 := by
  obtain ⟨b, hW, hN, hM, hK⟩ := id hR
  have F0 : nI 0 = (0 : Int32) := rfl
  rcases z_lots hN hM hW a1 a2 with ⟨l, c, σ1, τ1, hl, hc, h9, e1, e2, e3, e4, e5, e6, e7, e8, e9, e10⟩ | ⟨e1, e2⟩
  · refine ⟨nL (y_su (y_E b l (c + 1)) (y_ho b) 0 0), σ1, τ1, ?_, ?_, y_donel hR e4 e7⟩
    · unfold f_X11_rows
      rw [e3, j_b2_s, if_pos (show ¬ nI 1 = (0 : Int32) by decide), tl_inAllv (hN.fr e4 (by omega)) hW e5, j_b1_s]
    · unfold f_X12_rows
      rw [ym_isBoard hM hW, j_b1_s, ym_isLaw, e10, if_pos h9, if_pos e9, if_neg (fun z => by
          rcases z with z | z | z
          · exact absurd z (by decide)
          · exact absurd z (by decide)
          · exact absurd z (by decide)), e6, j_b1_s, tm_rows41 (hM.fr2 e7) hW e8, j_b1_s]
  · refine ⟨-2, σ, τ, ?_, ?_, hR⟩
    · unfold f_X11_rows
      rw [e1, j_b2_s, if_neg (show ¬ ¬ nI 0 = (0 : Int32) from fun z => z rfl)]
    · unfold f_X12_rows
      rw [ym_isBoard hM hW, j_b1_s, ym_isLaw, if_pos]
      rcases e2 with z | z | z
      · left; rw [if_neg z]; rfl
      · right; left; rw [if_neg z]; rfl
      · right; right; rw [z]; rfl
theorem z_ends (hR : j_Rel σ τ) (a1 a2 a3 : Int32) : ∃ v σ1 τ1, f_X11_ends a1 a2 a3 σ = some (v, σ1) ∧ f_X12_ends a1 a2 a3 τ = some (v, τ1) ∧ j_Rel σ1 τ1 := by
  obtain ⟨b, hW, hN, hM, hK⟩ := id hR
  have ho := hW.ho
  have F0 : nI 0 = (0 : Int32) := rfl
  by_cases hz : y_rg a3 (y_ho b)
  · obtain ⟨x, hx, rfl⟩ := y_of _ _ hz.1 hz.2
    have h9 := hW.on0 (Or.inr (Or.inr (Or.inr (Or.inr (by omega : 0 < y_ho b)))))
    rcases z_lots hN hM hW a1 a2 with ⟨l, c, σ1, τ1, hl, hc, _, e1, e2, e3, e4, e5, e6, e7, e8, e9, e10⟩ | ⟨e1, e2⟩
    · refine ⟨nL (y_E b l (c + 1) x), σ1, τ1, ?_, ?_, y_donel hR e4 e7⟩
      · unfold f_X11_ends
        rw [yc_isHole hN hW, if_pos hz, if_pos (show ¬ nI 1 = (0 : Int32) by decide), e3, j_b2_s, if_pos (show ¬ nI 1 = (0 : Int32) by decide), tl_rowsTov (hN.fr e4 (by omega)) hW e5 hx, j_b1_s]
      · unfold f_X12_ends
        rw [ym_isHole hM hW, j_b1_s, ym_isLaw, e10, if_pos hz, if_pos e9, if_neg (fun z => by
            rcases z with z | z | z
            · exact absurd z (by decide)
            · exact absurd z (by decide)
            · exact absurd z (by decide)), e6, j_b1_s, tm_endv e8 (by omega), j_b1_s]
    · refine ⟨-2, σ, τ, ?_, ?_, hR⟩
      · unfold f_X11_ends
        rw [yc_isHole hN hW, if_pos hz, if_pos (show ¬ nI 1 = (0 : Int32) by decide), e1, j_b2_s, if_neg (show ¬ ¬ nI 0 = (0 : Int32) from fun z => z rfl)]
      · unfold f_X12_ends
        rw [ym_isHole hM hW, j_b1_s, ym_isLaw, if_pos]
        rcases e2 with z | z | z
        · exact absurd h9 z
        · right; left; rw [if_neg z]; rfl
        · right; right; rw [z]; rfl
  · refine ⟨-2, σ, τ, ?_, ?_, hR⟩
    · unfold f_X11_ends
      rw [yc_isHole hN hW, if_neg hz, if_neg (show ¬ ¬ nI 0 = (0 : Int32) from fun z => z rfl)]
    · unfold f_X12_ends
      rw [ym_isHole hM hW, j_b1_s, if_neg hz, if_pos (Or.inl F0)]
theorem z_fair (hR : j_Rel σ τ) (a1 : Int32) : ∃ v σ1 τ1, f_X11_fair a1 σ = some (v, σ1) ∧ f_X12_fair a1 τ = some (v, τ1) ∧ j_Rel σ1 τ1 := by
  obtain ⟨b, hW, hN, hM, hK⟩ := id hR
  have F0 : nI 0 = (0 : Int32) := rfl
  by_cases h9 : 0 < b 9
  · by_cases hx : y_rg a1 4
    · obtain ⟨l, hl, rfl⟩ := y_of _ _ hx.1 hx.2
      obtain ⟨σ1, c1, c2, c3⟩ := tl_beginv (l := l) hN hW
      have hN1 : y_N σ1 b := hN.fr c2 (by omega)
      obtain ⟨σ2, d1, d2⟩ := tl_f45v hW h9 hl 11 0 j_F σ1 (by omega) (y_F (by omega)) hN1 c3
      obtain ⟨τ1, e1, e2⟩ := tm_f19v hW h9 hl 12 1 j_F τ (by omega) (y_F (by omega)) hM
      have le := y_fa_le (b := b) (l := l) 12 1
      refine ⟨nI (y_fa b l 12 1), σ2, τ1, ?_, ?_, y_donel hR (c2.trans d2) e2⟩
      · have d1' : p_X11_fair_45 (nI l) j_F (nI (y_evn b l 1)) (2 : Int32) σ1 = some (nI (y_fa b l 12 1), σ2) := d1
        unfold f_X11_fair
        rw [yc_isTold hN hW, yc_isLaw, if_pos h9, if_pos hx, if_neg (fun z => by
          rcases z with z | z
          · exact absurd z (by decide)
          · exact absurd z (by decide)), c1, j_b1_s, tl_evenv (k := 0) hN1 hW (by omega) c3, j_b1_s, d1', j_b2_s]
        by_cases z : y_fa b l 12 1 = 0
        · rw [z, if_neg (show ¬ ¬ nI 0 = (0 : Int32) from fun z => z rfl)]; rfl
        · have z1 : y_fa b l 12 1 = 1 := by omega
          rw [z1, if_pos (show ¬ nI 1 = (0 : Int32) by decide)]; rfl
      · unfold f_X12_fair
        rw [ym_isBoard hM hW, j_b1_s, ym_isLaw, if_pos h9, if_pos hx, if_neg (fun z => by
          rcases z with z | z
          · exact absurd z (by decide)
          · exact absurd z (by decide))]
        exact e1
    · refine ⟨-2, σ, τ, ?_, ?_, hR⟩
      · unfold f_X11_fair
        rw [yc_isTold hN hW, yc_isLaw, if_neg hx, if_pos (Or.inr F0)]
      · unfold f_X12_fair
        rw [ym_isBoard hM hW, j_b1_s, ym_isLaw, if_neg hx, if_pos (Or.inr F0)]
  · refine ⟨-2, σ, τ, ?_, ?_, hR⟩
    · unfold f_X11_fair
      rw [yc_isTold hN hW, if_neg h9, if_pos (Or.inl F0)]
    · unfold f_X12_fair
      rw [ym_isBoard hM hW, j_b1_s, if_neg h9, if_pos (Or.inl F0)]
end Z
/-! ===== best: who is free when, at which hole with how many (1,000,000: not at all) ===== -/
noncomputable def y_bh (b q : Nat → Nat) (i f v x : Nat) : Nat := if v = 1000000 then 1000000 else if y_mx (y_th b q f x v) (y_from b i) ≤ y_last b i then y_mx (y_th b q f x v) (y_from b i) + 1 else 1000000
noncomputable def y_kx (X : Nat → Nat → Nat) (h k v : Nat) : Nat → Nat → Nat := fun h' k' => if h' = h ∧ k' = k then (if v < X h k then v else X h k) else X h' k'
def y_tbl (X : Nat → Nat → Nat) : Prop := ∀ h k, X h k ≤ 200 ∨ X h k = 1000000
noncomputable def y_kop (b q : Nat → Nat) (i x y f n v : Nat) (X : Nat → Nat → Nat) : Nat → Nat → Nat :=
  if y = 0 then y_kx X x (n + 1) (y_bh b q i f v x) else y_kx (y_kx X x (n + 1) (y_bh b q i f v x)) (y - 1) (n + 2) (y_bh b q i x (y_bh b q i f v x) (y - 1))
def y_Sv (b q : Nat → Nat) (i x y f n v h k t : Nat) : Prop := (h = x ∧ k = n + 1 ∧ y_bh b q i f v x ≤ t) ∨ (0 < y ∧ h + 1 = y ∧ k = n + 2 ∧ y_bh b q i x (y_bh b q i f v x) (y - 1) ≤ t)
theorem y_kx_le {X : Nat → Nat → Nat} {h k v h' k' t : Nat} : y_kx X h k v h' k' ≤ t ↔ X h' k' ≤ t ∨ (h' = h ∧ k' = k ∧ v ≤ t) := by
  unfold y_kx
  by_cases c : h' = h ∧ k' = k
  · obtain ⟨rfl, rfl⟩ := c
    rw [if_pos ⟨rfl, rfl⟩]
    by_cases d : v < X h' k'
    · rw [if_pos d]; omega
    · rw [if_neg d]; omega
  · rw [if_neg c]
    constructor
    · exact Or.inl
    · rintro (z | ⟨z1, z2, _⟩)
      · exact z
      · exact absurd ⟨z1, z2⟩ c
theorem y_kx_tb {X : Nat → Nat → Nat} {h k v : Nat} (hX : y_tbl X) (hv : v ≤ 200 ∨ v = 1000000) : y_tbl (y_kx X h k v) := by
  intro h' k'
  unfold y_kx
  split
  · split
    · exact hv
    · exact hX h k
  · exact hX h' k'
theorem y_kx_inf {X : Nat → Nat → Nat} {h k : Nat} (hX : y_tbl X) : y_kx X h k 1000000 = X := by
  funext h' k'
  unfold y_kx
  by_cases c : h' = h ∧ k' = k
  · obtain ⟨rfl, rfl⟩ := c
    have := hX h' k'
    rw [if_pos ⟨rfl, rfl⟩, if_neg (by omega)]
  · rw [if_neg c]
theorem y_bh_inf {b q : Nat → Nat} {i f x : Nat} : y_bh b q i f 1000000 x = 1000000 := if_pos rfl
section B
variable {b q : Nat → Nat}
theorem y_bh_bd {g : Nat → Nat} {s i f v x : Nat} (hW : y_W b) (hv : y_vg b s g) (hi : i < s) : y_bh b q i f v x ≤ 200 ∨ y_bh b q i f v x = 1000000 := by
  have := (hv.2 i hi).2.2.2.2.2
  have := hW.b2
  unfold y_bh
  split
  · exact Or.inr rfl
  · split
    · left; omega
    · exact Or.inr rfl
theorem y_kop_le {X : Nat → Nat → Nat} {i x y f n v h k t : Nat} : y_kop b q i x y f n v X h k ≤ t ↔ X h k ≤ t ∨ y_Sv b q i x y f n v h k t := by
  unfold y_kop y_Sv
  by_cases c : y = 0
  · rw [if_pos c, y_kx_le]
    constructor
    · rintro (z | z)
      · exact Or.inl z
      · exact Or.inr (Or.inl z)
    · rintro (z | z | z)
      · exact Or.inl z
      · exact Or.inr z
      · exact absurd z.1 (by omega)
  · rw [if_neg c, y_kx_le, y_kx_le]
    constructor
    · rintro ((z | z) | z)
      · exact Or.inl z
      · exact Or.inr (Or.inl z)
      · exact Or.inr (Or.inr ⟨by omega, by omega, z.2⟩)
    · rintro (z | z | z)
      · exact Or.inl (Or.inl z)
      · exact Or.inl (Or.inr z)
      · exact Or.inr ⟨by omega, z.2.2⟩
theorem y_kop_tb {g : Nat → Nat} {X : Nat → Nat → Nat} {s i x y f n v : Nat} (hW : y_W b) (hv : y_vg b s g) (hi : i < s) (hX : y_tbl X) : y_tbl (y_kop b q i x y f n v X) := by
  unfold y_kop
  split
  · exact y_kx_tb hX (y_bh_bd hW hv hi)
  · exact y_kx_tb (y_kx_tb hX (y_bh_bd hW hv hi)) (y_bh_bd hW hv hi)
theorem y_kop_inf {X : Nat → Nat → Nat} {i x y f n : Nat} (hX : y_tbl X) : y_kop b q i x y f n 1000000 X = X := by
  unfold y_kop
  rw [y_bh_inf, y_bh_inf, y_kx_inf hX]
  split
  · rfl
  · exact y_kx_inf hX
theorem y_Sv_inf {i x y f n h k t : Nat} (ht : t < 1000000) : ¬ y_Sv b q i x y f n 1000000 h k t := by
  unfold y_Sv
  rw [y_bh_inf, y_bh_inf]
  omega
end B
theorem y_mxJ {a c : Nat} (ha : a < 2 ^ 31) (hc : c < 2 ^ 31) : (if nI a < nI c then nI c else nI a) = nI (y_mx a c) := by
  unfold y_mx
  by_cases h : a < c
  · rw [if_pos h, if_pos ((y_lt ha hc).mpr h)]
  · rw [if_neg h, if_neg (fun z => h ((y_lt ha hc).mp z))]
theorem y_eqx {a c : Nat} (ha : a ≤ 1000000) (hc : c ≤ 1000000) (h : ∀ t, t < 1000000 → (a ≤ t ↔ c ≤ t)) : a = c := by
  rcases Nat.lt_trichotomy a c with z | z | z
  · have := (h a (by omega)).mp (Nat.le_refl _); omega
  · exact z
  · have := (h c (by omega)).mpr (Nat.le_refl _); omega
theorem y_tbl.le {X : Nat → Nat → Nat} (h : y_tbl X) (a c : Nat) : X a c ≤ 1000000 := by have := h a c; omega
noncomputable def y_xw (g : Nat → Nat) (i w : Nat) : Nat := if w = 0 then g (3 * i) else g (3 * i + 1) - 1
noncomputable def y_yw (g : Nat → Nat) (i w : Nat) : Nat := if w = 0 then g (3 * i + 1) else g (3 * i) + 1
noncomputable def y_ws (g : Nat → Nat) (i : Nat) : Nat := if g (3 * i + 1) = 0 then 1 else 2
noncomputable def y_cI (v : Nat) : Nat := if v = 1000000 then 2147483647 else v
def y_B1 (σ : j_G) (X : Nat → Nat → Nat) : Prop := ∀ h k, h < 12 → k < 121 → σ.1 36 (121 * h + k) = nI (y_cI (X h k))
def y_B2 (τ : j_G) (c : Nat) (X : Nat → Nat → Nat) : Prop := ∀ h k, h < 12 → k < 121 → τ.1 c (121 * h + k) = nI (X h k)
/-- the levels: of one coming, from those with n -/
def y_lv (b : Nat → Nat) (X : Nat → Nat → Nat) (m l n : Nat) : Prop := n ≤ l ∧ l ≤ n + 2 ∧ (∀ h k, X h k < 1000000 → k ≤ m ∨ k ≤ l) ∧ (l = n ∨ ∃ h, h < y_ho b ∧ X h l < 1000000)
def y_gl (b : Nat → Nat) (X : Nat → Nat → Nat) (m : Nat) : Prop := (∀ h k, X h k < 1000000 → k ≤ m) ∧ ∃ h, h < y_ho b ∧ X h m < 1000000
/-! ===== the class ===== -/
section C
variable {σ : j_G} {b g q : Nat → Nat} {s : Nat}
theorem tb_keepv {X : Nat → Nat → Nat} {h k v : Nat} (hB : y_B1 σ X) (hX : y_tbl X) (hh : h < 12) (hk : k < 121) (hv : v ≤ 1000) : ∃ σ', f_X0_keep (nI h) (nI k) (nI v) σ = some σ' ∧ y_fr 36 36 σ σ' ∧ y_B1 σ' (y_kx X h k v) := by
  have e : nI h * (121 : Int32) + nI k = nI (121 * h + k) := by rw [show (121 : Int32) = nI 121 from rfl, pk_mul, nI_add, Nat.mul_comm]
  have x := hX h k
  have ci : y_cI (X h k) < 2 ^ 31 := by unfold y_cI; split <;> omega
  have lt : nI v < nI (y_cI (X h k)) ↔ v < X h k := by
    rw [y_lt (by omega) ci]
    unfold y_cI
    split <;> omega
  unfold f_X0_keep
  simp only [j_lt]
  rw [e, if_pos ⟨by rw [show (0 : Int32) = nI 0 from rfl, y_lt (by omega) (by omega)]; omega, by rw [show (1452 : Int32) = nI 1452 from rfl, y_lt (by omega) (by omega)]; omega⟩, y_ix (by omega) (by omega), y_ix (by omega) (by omega), nI_clamp (by omega), hB h k hh hk]
  by_cases c : v < X h k
  · rw [if_pos (lt.mpr c)]
    refine ⟨_, rfl, y_fr.refl.si (by omega) (by omega), fun h' k' hh' hk' => ?_⟩
    unfold y_kx
    by_cases d : h' = h ∧ k' = k
    · obtain ⟨rfl, rfl⟩ := d
      rw [j_r_eq, if_pos ⟨rfl, rfl⟩, if_pos c]
      unfold y_cI; rw [if_neg (by omega)]
    · rw [j_r_nj (by omega), if_neg d]; exact hB h' k' hh' hk'
  · rw [if_neg (fun z => c (lt.mp z))]
    refine ⟨σ, rfl, y_fr.refl, fun h' k' hh' hk' => ?_⟩
    rw [hB h' k' hh' hk']
    unfold y_kx
    by_cases d : h' = h ∧ k' = k
    · obtain ⟨rfl, rfl⟩ := d
      rw [if_pos ⟨rfl, rfl⟩, if_neg c]
    · rw [if_neg d]
theorem tb_freev {X : Nat → Nat → Nat} {h k : Nat} (hB : y_B1 σ X) (hh : h < 12) (hk : k < 121) : f_X0_freeAt (nI h) (nI k) σ = some (nI (y_cI (X h k))) := by
  have e : nI h * (121 : Int32) + nI k = nI (121 * h + k) := by rw [show (121 : Int32) = nI 121 from rfl, pk_mul, nI_add, Nat.mul_comm]
  unfold f_X0_freeAt
  simp only [j_lt]
  rw [e, if_pos ⟨by rw [show (0 : Int32) = nI 0 from rfl, y_lt (by omega) (by omega)]; omega, by rw [show (1452 : Int32) = nI 1452 from rfl, y_lt (by omega) (by omega)]; omega⟩, y_ix (by omega) (by omega), nI_clamp (by omega), hB h k hh hk]
theorem tb_far (hc : y_cg σ b s g) (hv : y_vg b s g) (hW : y_W b) (hN : y_N σ b) (h9 : 0 < b 9) (hp : y_cp σ 28 q) (hq : y_vq b q) {i f v x : Nat} (hi : i < s) (hf : f < 12) (hx : x < 12) (hvv : v ≤ 1000) : ∃ t, f_X6_there 28 (nI f) (nI x) (nI v) σ = some t ∧ f_X4_strike (nI i) t σ = some (if y_bh b q i f v x = 1000000 then nP 0 else nI (y_bh b q i f v x - 1)) := by
  have w5 := (hv.2 i hi).2.2.2.2.2
  have b2 := hW.b2
  have hs := hv.1
  have bd := y_th_bd (b := b) (q := q) (a := f) (c := x) (t := v) hq hf hx hvv
  refine ⟨_, yc_there hN hW h9 hp hq hf hx hvv, ?_⟩
  rw [yc_strikeG hc hv hW hi (by omega)]
  unfold y_bh
  rw [if_neg (show ¬ v = 1000000 by omega)]
  by_cases c : y_mx (y_th b q f x v) (y_from b i) ≤ y_last b i
  · rw [if_pos c, if_pos c, if_neg (by omega), Nat.add_sub_cancel]
  · rw [if_neg c, if_neg c, if_pos rfl]
theorem y_lv.op {X : Nat → Nat → Nat} {m l n i x y f v : Nat} (hl : y_lv b X m l n) (hx : x < y_ho b) (hy : y ≤ y_ho b) (hX : y_tbl X) (hbd : ∀ f v x, y_bh b q i f v x ≤ 200 ∨ y_bh b q i f v x = 1000000) :
    y_lv b (y_kop b q i x y f n v X) m (if y_bh b q i f v x = 1000000 then l else if y = 0 then y_mx l (n + 1) else if y_bh b q i x (y_bh b q i f v x) (y - 1) = 1000000 then y_mx l (n + 1) else n + 2) n := by
  obtain ⟨h1, h2, h3, h4⟩ := hl
  have old : ∀ h k, X h k < 1000000 → y_kop b q i x y f n v X h k < 1000000 := fun h k z => by
    have := (y_kop_le (b := b) (q := q) (X := X) (i := i) (x := x) (y := y) (f := f) (n := n) (v := v) (h := h) (k := k) (t := X h k)).mpr (Or.inl (Nat.le_refl _))
    omega
  have b1 := hbd f v x
  have b2 := hbd x (y_bh b q i f v x) (y - 1)
  have new : ∀ h k, y_kop b q i x y f n v X h k < 1000000 → X h k < 1000000 ∨ (k = n + 1 ∧ y_bh b q i f v x < 1000000) ∨ (0 < y ∧ k = n + 2 ∧ y_bh b q i x (y_bh b q i f v x) (y - 1) < 1000000) := fun h k z => by
    have := (y_kop_le (b := b) (q := q) (X := X) (i := i) (x := x) (y := y) (f := f) (n := n) (v := v) (h := h) (k := k) (t := y_kop b q i x y f n v X h k)).mp (Nat.le_refl _)
    rcases this with w | w | w
    · left; omega
    · right; left; exact ⟨w.2.1, by omega⟩
    · right; right; exact ⟨w.1, w.2.2.1, by omega⟩
  have n1 : y_bh b q i f v x ≠ 1000000 → y_kop b q i x y f n v X x (n + 1) < 1000000 := fun z => by
    have := (y_kop_le (b := b) (q := q) (X := X) (i := i) (x := x) (y := y) (f := f) (n := n) (v := v) (h := x) (k := n + 1) (t := y_bh b q i f v x)).mpr (Or.inr (Or.inl ⟨rfl, rfl, Nat.le_refl _⟩))
    omega
  have n2 : 0 < y → y_bh b q i x (y_bh b q i f v x) (y - 1) ≠ 1000000 → y_kop b q i x y f n v X (y - 1) (n + 2) < 1000000 := fun y0 z => by
    have := (y_kop_le (b := b) (q := q) (X := X) (i := i) (x := x) (y := y) (f := f) (n := n) (v := v) (h := y - 1) (k := n + 2) (t := y_bh b q i x (y_bh b q i f v x) (y - 1))).mpr (Or.inr (Or.inr ⟨y0, by omega, rfl, Nat.le_refl _⟩))
    omega
  have mx1 : y_mx l (n + 1) = l ∨ y_mx l (n + 1) = n + 1 := by unfold y_mx; split <;> omega
  have mx2 : l ≤ y_mx l (n + 1) ∧ n + 1 ≤ y_mx l (n + 1) ∧ y_mx l (n + 1) ≤ n + 2 := by unfold y_mx; split <;> omega
  by_cases c : y_bh b q i f v x = 1000000
  · rw [if_pos c]
    have c2 : y_bh b q i x (y_bh b q i f v x) (y - 1) = 1000000 := by rw [c]; exact y_bh_inf
    refine ⟨h1, h2, fun h k z => ?_, ?_⟩
    · rcases new h k z with w | w | w
      · exact h3 h k w
      · omega
      · omega
    · rcases h4 with w | ⟨h, w1, w2⟩
      · exact Or.inl w
      · exact Or.inr ⟨h, w1, old h l w2⟩
  · rw [if_neg c]
    by_cases d : y = 0 ∨ y_bh b q i x (y_bh b q i f v x) (y - 1) = 1000000
    · have e : (if y = 0 then y_mx l (n + 1) else if y_bh b q i x (y_bh b q i f v x) (y - 1) = 1000000 then y_mx l (n + 1) else n + 2) = y_mx l (n + 1) := by
        by_cases y0 : y = 0
        · rw [if_pos y0]
        · rw [if_neg y0, if_pos (d.resolve_left y0)]
      rw [e]
      refine ⟨by omega, by omega, fun h k z => ?_, ?_⟩
      · rcases new h k z with w | w | w
        · have := h3 h k w; omega
        · omega
        · omega
      · rcases mx1 with w | w
        · rw [w]
          rcases h4 with u | ⟨h, u1, u2⟩
          · exact Or.inl u
          · exact Or.inr ⟨h, u1, old h l u2⟩
        · rw [w]; exact Or.inr ⟨x, hx, n1 c⟩
    · rw [if_neg (fun z => d (Or.inl z)), if_neg (fun z => d (Or.inr z))]
      refine ⟨by omega, by omega, fun h k z => ?_, Or.inr ⟨y - 1, by omega, n2 (by omega) (fun z => d (Or.inr z))⟩⟩
      rcases new h k z with w | w | w
      · have := h3 h k w; omega
      · omega
      · omega
end C
section C
variable {b g q : Nat → Nat} {s : Nat}
theorem tb_47v (hW : y_W b) (h9 : 0 < b 9) (hv : y_vg b s g) (hq : y_vq b q) {i f n v M : Nat} (hi : i < s) (hf : f < 12) (hn : n < 119) (hvv : v ≤ 200 ∨ v = 1000000) : ∀ m w fu l (σ : j_G) (X : Nat → Nat → Nat), w + m = y_ws g i → m < fu → y_N σ b → y_cg σ b s g → y_cp σ 28 q → y_B1 σ X → y_tbl X → y_lv b X M l n →
    ∃ l' σ' X', p_X0_goOn_47 (nI i) (nI n) (nI (y_ws g i)) (nI f) (nI (y_cI v)) fu (nI l) (nI w) σ = some (nI l', σ') ∧ y_fr 36 36 σ σ' ∧ y_B1 σ' X' ∧ y_tbl X' ∧ y_lv b X' M l' n ∧
      ∀ h k t, t < 1000000 → (X' h k ≤ t ↔ X h k ≤ t ∨ ∃ w', w ≤ w' ∧ w' < y_ws g i ∧ y_Sv b q i (y_xw g i w') (y_yw g i w') f n v h k t) := by
  have ho := hW.ho
  have hs := hv.1
  have ws2 : y_ws g i ≤ 2 := by unfold y_ws; split <;> omega
  intro m
  induction m with
  | zero =>
    intro w fu l σ X h hfu hN hc hp hB hX hl
    obtain ⟨fu, rfl⟩ := y_pos hfu
    refine ⟨l, σ, X, ?_, y_fr.refl, hB, hX, hl, fun h k t _ => ⟨Or.inl, fun z => z.elim id (fun ⟨w', a, c, _⟩ => absurd c (by omega))⟩⟩
    rw [p_X0_goOn_47.eq_def]
    simp only []
    rw [if_neg (fun z => by have := z.1; rw [y_lt (by omega) (by omega)] at this; omega)]
  | succ m ih =>
    intro w fu l σ X h hfu hN hc hp hB hX hl
    obtain ⟨fu, rfl⟩ := y_pos hfu
    rcases hvv with hv2 | hinf
    · obtain ⟨g0, g1, g2, g3, g4⟩ := hc.2 i hi
      obtain ⟨w0, w1, w2, w3, w4, w5⟩ := hv.2 i hi
      have ek : nI w + (1 : Int32) = nI (w + 1) := by simp (disch := omega) only [y_lit, nI_add]
      have eh1 : nI n + (1 : Int32) = nI (n + 1) := by simp (disch := omega) only [y_lit, nI_add]
      have eh2 : nI n + (2 : Int32) = nI (n + 2) := by simp (disch := omega) only [y_lit, nI_add]
      have ln := hl.2.1
      have i60 : i < 60 := by omega
      have o1 : w = 1 → 0 < g (3 * i + 1) := fun z => by
        have : y_ws g i = 2 := by omega
        unfold y_ws at this
        split at this <;> omega
      have ww : w = 0 ∨ w = 1 := by omega
      -- the near one
      have nx : ∀ σ : j_G, y_cg σ b s g → (if nI w = 0 then (j_ix (nI i) 60 (some (σ.1 23 (nI i).toNatClampNeg))) else (j_ix (nI i) 60 (some (σ.1 24 (nI i).toNatClampNeg)))) = some (nI (y_xw g i w)) := by
        intro σ hc
        obtain ⟨g0, g1, _⟩ := hc.2 i hi
        rw [y_ix i60 (by omega), y_ix i60 (by omega), nI_clamp (by omega), g0, g1]
        unfold y_xw
        rcases ww with rfl | rfl
        · rw [if_pos (show nI 0 = (0 : Int32) from rfl), if_pos rfl]
        · rw [if_neg (show ¬ nI 1 = (0 : Int32) by decide), if_neg (by omega), ← y_nPs]; congr 2; have := o1 rfl; omega
      have fx : ∀ σ : j_G, y_cg σ b s g → (if nI w = 0 then (j_ix (nI i) 60 (some (σ.1 24 (nI i).toNatClampNeg))) else (j_ix (nI i) 60 (some (σ.1 23 (nI i).toNatClampNeg)))) = some (nP (y_yw g i w)) := by
        intro σ hc
        obtain ⟨g0, g1, _⟩ := hc.2 i hi
        rw [y_ix i60 (by omega), y_ix i60 (by omega), nI_clamp (by omega), g0, g1]
        unfold y_yw
        rcases ww with rfl | rfl
        · rw [if_pos (show nI 0 = (0 : Int32) from rfl), if_pos rfl]
        · rw [if_neg (show ¬ nI 1 = (0 : Int32) by decide), if_neg (by omega), y_nPs]
      have hx : y_xw g i w < y_ho b := by
        unfold y_xw
        rcases ww with rfl | rfl
        · rw [if_pos rfl]; exact w0
        · rw [if_neg (by omega)]; have := o1 rfl; omega
      have hy : y_yw g i w ≤ y_ho b := by
        unfold y_yw
        rcases ww with rfl | rfl
        · rw [if_pos rfl]; exact w1
        · rw [if_neg (by omega)]; omega
      have lvn := hl.op (q := q) (i := i) (x := y_xw g i w) (y := y_yw g i w) (f := f) (v := v) hx hy hX (fun f v x => y_bh_bd hW hv hi)
      have Xn : y_tbl (y_kop b q i (y_xw g i w) (y_yw g i w) f n v X) := y_kop_tb hW hv hi hX
      have cI : y_cI v = v := if_neg (by omega)
      -- what is left, behind this way
      have fin : ∀ l1 (σ1 : j_G), y_fr 36 36 σ σ1 → y_B1 σ1 (y_kop b q i (y_xw g i w) (y_yw g i w) f n v X) → y_lv b (y_kop b q i (y_xw g i w) (y_yw g i w) f n v X) M l1 n → ∃ l' σ' X', p_X0_goOn_47 (nI i) (nI n) (nI (y_ws g i)) (nI f) (nI (y_cI v)) fu (nI l1) (nI (w + 1)) σ1 = some (nI l', σ') ∧ y_fr 36 36 σ σ' ∧ y_B1 σ' X' ∧ y_tbl X' ∧ y_lv b X' M l' n ∧
          ∀ h k t, t < 1000000 → (X' h k ≤ t ↔ X h k ≤ t ∨ ∃ w', w ≤ w' ∧ w' < y_ws g i ∧ y_Sv b q i (y_xw g i w') (y_yw g i w') f n v h k t) := by
        intro l1 σ1 fr B1 L1
        obtain ⟨l', σ', X', e1, e2, e3, e4, e5, e6⟩ := ih (w + 1) fu l1 σ1 _ (by omega) (by omega) (hN.fr fr (by omega)) (hc.fr fr (by omega)) (hp.fr fr (by omega)) B1 Xn L1
        refine ⟨l', σ', X', e1, fr.trans e2, e3, e4, e5, fun h k t ht => ?_⟩
        rw [e6 h k t ht, y_kop_le]
        constructor
        · rintro ((z | z) | ⟨w', z1, z2, z3⟩)
          · exact Or.inl z
          · exact Or.inr ⟨w, Nat.le_refl _, by omega, z⟩
          · exact Or.inr ⟨w', by omega, z2, z3⟩
        · rintro (z | ⟨w', z1, z2, z3⟩)
          · exact Or.inl (Or.inl z)
          · by_cases e : w' = w
            · subst e; exact Or.inl (Or.inr z3)
            · exact Or.inr ⟨w', by omega, z2, z3⟩
      obtain ⟨t1, a1, a2⟩ := tb_far hc hv hW hN h9 hp hq (i := i) (f := f) (v := v) (x := y_xw g i w) hi hf (by omega) (by omega)
      have bb := y_bh_bd (q := q) (f := f) (v := v) (x := y_xw g i w) hW hv hi
      rw [p_X0_goOn_47.eq_def]
      simp only [j_lt]
      rw [if_pos ⟨(y_lt (by omega) (by omega)).mpr (by omega), by rw [cI, show (2147483647 : Int32) = nI 2147483647 from rfl, y_eq (by omega) (by omega)]; omega⟩, nx σ hc, j_b1_s, cI, a1, j_b1_s, a2, j_b1_s, ek, eh1, eh2]
      rw [cI] at fin
      by_cases c : y_bh b q i f v (y_xw g i w) = 1000000
      · rw [if_pos c, if_pos y_m1.symm, j_b2_s]
        rw [if_pos c] at lvn
        have e : y_kop b q i (y_xw g i w) (y_yw g i w) f n v X = X := by
          unfold y_kop
          rw [c, y_bh_inf, y_kx_inf hX]
          split
          · rfl
          · exact y_kx_inf hX
        exact fin l σ y_fr.refl (by rw [e]; exact hB) lvn
      · rw [if_neg c, if_neg (by rw [y_m1, y_eqQ (by omega) (by omega)]; omega)]
        rw [if_neg c] at lvn
        have es : nI (y_bh b q i f v (y_xw g i w) - 1) + (1 : Int32) = nI (y_bh b q i f v (y_xw g i w)) := by
          have p0 : 0 < y_bh b q i f v (y_xw g i w) := by
            unfold y_bh at c ⊢
            split
            · omega
            · split
              · omega
              · omega
          rw [show (1 : Int32) = nI 1 from rfl, nI_add]; congr 1; omega
        rw [es]
        obtain ⟨σ6, k1, k2, k3⟩ := tb_keepv hB hX (h := y_xw g i w) (k := n + 1) (v := y_bh b q i f v (y_xw g i w)) (by omega) (by omega) (by omega)
        have X1 : y_tbl (y_kx X (y_xw g i w) (n + 1) (y_bh b q i f v (y_xw g i w))) := y_kx_tb hX bb
        have hN6 : y_N σ6 b := hN.fr k2 (by omega)
        have hc6 : y_cg σ6 b s g := hc.fr k2 (by omega)
        have hp6 : y_cp σ6 28 q := hp.fr k2 (by omega)
        have e7 : (if nI l < nI (n + 1) then nI (n + 1) else nI l) = nI (y_mx l (n + 1)) := y_mxJ (by omega) (by omega)
        rw [k1, j_b1_s, fx σ6 hc6, j_b1_s, e7]
        by_cases d : y_yw g i w = 0
        · rw [d, if_pos y_m1.symm, j_b1_s, if_neg (fun z => z rfl), j_b2_s]
          rw [if_pos d] at lvn
          have e : y_kop b q i (y_xw g i w) (y_yw g i w) f n v X = y_kx X (y_xw g i w) (n + 1) (y_bh b q i f v (y_xw g i w)) := by
            unfold y_kop; rw [if_pos d]
          exact fin _ σ6 k2 (by rw [e]; exact k3) lvn
        · obtain ⟨z, hz⟩ : ∃ z, y_yw g i w = z + 1 := ⟨y_yw g i w - 1, by omega⟩
          rw [if_neg d] at lvn
          obtain ⟨t2, b1, b2⟩ := tb_far hc6 hv hW hN6 h9 hp6 hq (i := i) (f := y_xw g i w) (v := y_bh b q i f v (y_xw g i w)) (x := z) hi (by omega) (by omega) (by omega)
          have bb2 := y_bh_bd (q := q) (f := y_xw g i w) (v := y_bh b q i f v (y_xw g i w)) (x := z) hW hv hi
          have eo : y_kop b q i (y_xw g i w) (y_yw g i w) f n v X = y_kx (y_kx X (y_xw g i w) (n + 1) (y_bh b q i f v (y_xw g i w))) z (n + 2) (y_bh b q i (y_xw g i w) (y_bh b q i f v (y_xw g i w)) z) := by
            unfold y_kop; rw [if_neg d, hz, Nat.add_sub_cancel]
          rw [hz, Nat.add_sub_cancel] at lvn
          rw [hz] at eo fin
          rw [hz, y_nPs, if_neg (by rw [y_m1, y_eqQ (by omega) (by omega)]; omega), b1, j_b1_s, b2, j_b1_s, j_b1_s]
          by_cases e : y_bh b q i (y_xw g i w) (y_bh b q i f v (y_xw g i w)) z = 1000000
          · rw [if_pos e, if_neg (fun u => u y_m1.symm), j_b2_s]
            rw [if_pos e] at lvn
            rw [e, y_kx_inf X1] at eo
            exact fin _ σ6 k2 (by rw [eo]; exact k3) lvn
          · rw [if_neg e, if_pos (by rw [y_m1, y_eqQ (by omega) (by omega)]; omega)]
            rw [if_neg e] at lvn
            have es2 : nI (y_bh b q i (y_xw g i w) (y_bh b q i f v (y_xw g i w)) z - 1) + (1 : Int32) = nI (y_bh b q i (y_xw g i w) (y_bh b q i f v (y_xw g i w)) z) := by
              have p0 : 0 < y_bh b q i (y_xw g i w) (y_bh b q i f v (y_xw g i w)) z := by
                generalize y_bh b q i f v (y_xw g i w) = v1 at *
                unfold y_bh at e ⊢
                split
                · omega
                · split
                  · omega
                  · omega
              rw [show (1 : Int32) = nI 1 from rfl, nI_add]; congr 1; omega
            obtain ⟨σ12, m1, m2, m3⟩ := tb_keepv k3 X1 (h := z) (k := n + 2) (v := y_bh b q i (y_xw g i w) (y_bh b q i f v (y_xw g i w)) z) (by omega) (by omega) (by omega)
            rw [es2, m1, j_b1_s, j_b2_s]
            exact fin _ σ12 (k2.trans m2) (by rw [eo]; exact m3) lvn
    · subst hinf
      refine ⟨l, σ, X, ?_, y_fr.refl, hB, hX, hl, fun h k t ht => ⟨Or.inl, fun z => z.elim id (fun ⟨w', _, _, z⟩ => absurd z (y_Sv_inf ht))⟩⟩
      rw [p_X0_goOn_47.eq_def]
      simp only []
      rw [if_neg (fun z => z.2 rfl)]
theorem y_lvl {X X' : Nat → Nat → Nat} {n : Nat} (hX : y_tbl X) (hX' : y_tbl X') {P : Nat → Nat → Nat → Prop} (e : ∀ h k t, t < 1000000 → (X' h k ≤ t ↔ X h k ≤ t ∨ P h k t)) (hP : ∀ h k t, P h k t → n < k) : ∀ h k, k ≤ n → X' h k = X h k := fun h k hk =>
  y_eqx (hX'.le h k) (hX.le h k) (fun t ht => ⟨fun z => ((e h k t ht).mp z).elim id (fun w => absurd (hP h k t w) (by omega)), fun z => (e h k t ht).mpr (Or.inl z)⟩)
theorem y_Sv_lv {i x y f n v h k t : Nat} (hS : y_Sv b q i x y f n v h k t) : n < k := by
  rcases hS with z | z <;> omega
theorem tb_25v (hW : y_W b) (h9 : 0 < b 9) (hv : y_vg b s g) (hq : y_vq b q) {i n M : Nat} (hi : i < s) (hn : n < 119) : ∀ m f fu l (σ : j_G) (X : Nat → Nat → Nat), f + m = y_ho b → m < fu → y_N σ b → y_cg σ b s g → y_cp σ 28 q → y_B1 σ X → y_tbl X → y_lv b X M l n →
    ∃ l' σ' X', p_X0_goOn_25 (nI i) (nI n) (nI (y_ws g i)) fu (nI l) (nI f) σ = some (nI l', σ') ∧ y_fr 36 36 σ σ' ∧ y_B1 σ' X' ∧ y_tbl X' ∧ y_lv b X' M l' n ∧
      ∀ h k t, t < 1000000 → (X' h k ≤ t ↔ X h k ≤ t ∨ ∃ f' w', f ≤ f' ∧ f' < y_ho b ∧ w' < y_ws g i ∧ y_Sv b q i (y_xw g i w') (y_yw g i w') f' n (X f' n) h k t) := by
  have ho := hW.ho
  intro m
  induction m with
  | zero =>
    intro f fu l σ X h hfu hN hc hp hB hX hl
    obtain ⟨fu, rfl⟩ := y_pos hfu
    refine ⟨l, σ, X, ?_, y_fr.refl, hB, hX, hl, fun h k t _ => ⟨Or.inl, fun z => z.elim id (fun ⟨f', _, a, c, _⟩ => absurd c (by omega))⟩⟩
    unfold p_X0_goOn_25
    rw [yc_holes hN, if_neg (by rw [y_lt (by omega) (by omega)]; omega)]
  | succ m ih =>
    intro f fu l σ X h hfu hN hc hp hB hX hl
    obtain ⟨fu, rfl⟩ := y_pos hfu
    obtain ⟨l1, σ1, X1, a1, a2, a3, a4, a5, a6⟩ := tb_47v hW h9 hv hq (i := i) (f := f) (n := n) (v := X f n) (M := M) hi (by omega) hn (hX f n) (y_ws g i) 0 j_F l σ X (by omega) (y_F (by unfold y_ws; split <;> omega)) hN hc hp hB hX hl
    obtain ⟨l', σ', X', e1, e2, e3, e4, e5, e6⟩ := ih (f + 1) fu l1 σ1 X1 (by omega) (by omega) (hN.fr a2 (by omega)) (hc.fr a2 (by omega)) (hp.fr a2 (by omega)) a3 a4 a5
    have lev := y_lvl (n := n) hX a4 a6 (fun h k t ⟨_, _, _, z⟩ => y_Sv_lv z)
    refine ⟨l', σ', X', ?_, a2.trans e2, e3, e4, e5, fun h k t ht => ?_⟩
    · unfold p_X0_goOn_25
      rw [yc_holes hN, if_pos ((y_lt (by omega) (by omega)).mpr (by omega)), tb_freev hB (by omega) (by omega), j_b1_s, show (0 : Int32) = nI 0 from rfl, a1, j_b2_s, show nI f + (1 : Int32) = nI (f + 1) by simp (disch := omega) only [y_lit, nI_add]]
      exact e1
    · rw [e6 h k t ht, a6 h k t ht]
      constructor
      · rintro ((z | ⟨w', z1, z2, z3⟩) | ⟨f', w', z1, z2, z3, z4⟩)
        · exact Or.inl z
        · exact Or.inr ⟨f, w', Nat.le_refl _, by omega, z2, z3⟩
        · rw [lev f' n (Nat.le_refl _)] at z4
          exact Or.inr ⟨f', w', by omega, z2, z3, z4⟩
      · rintro (z | ⟨f', w', z1, z2, z3, z4⟩)
        · exact Or.inl (Or.inl z)
        · by_cases e : f' = f
          · subst e; exact Or.inl (Or.inr ⟨w', by omega, z3, z4⟩)
          · refine Or.inr ⟨f', w', by omega, z2, z3, ?_⟩
            rw [lev f' n (Nat.le_refl _)]; exact z4
theorem tb_goOnv {σ : j_G} {X : Nat → Nat → Nat} (hW : y_W b) (h9 : 0 < b 9) (hv : y_vg b s g) (hq : y_vq b q) {i n M : Nat} (hi : i < s) (hn : n < 119) (hN : y_N σ b) (hc : y_cg σ b s g) (hp : y_cp σ 28 q) (hB : y_B1 σ X) (hX : y_tbl X) (hM : ∀ h k, X h k < 1000000 → k ≤ M) :
    ∃ l' σ' X', f_X0_goOn (nI i) (nI n) σ = some (nI l', σ') ∧ y_fr 36 36 σ σ' ∧ y_B1 σ' X' ∧ y_tbl X' ∧ y_lv b X' M l' n ∧
      ∀ h k t, t < 1000000 → (X' h k ≤ t ↔ X h k ≤ t ∨ ∃ f' w', f' < y_ho b ∧ w' < y_ws g i ∧ y_Sv b q i (y_xw g i w') (y_yw g i w') f' n (X f' n) h k t) := by
  have ho := hW.ho
  have hs := hv.1
  obtain ⟨g0, g1, g2, g3, g4⟩ := hc.2 i hi
  obtain ⟨w0, w1, w2, w3, w4, w5⟩ := hv.2 i hi
  obtain ⟨l', σ', X', e1, e2, e3, e4, e5, e6⟩ := tb_25v hW h9 hv hq (i := i) (n := n) (M := M) hi hn (y_ho b) 0 j_F n σ X (by omega) (y_F (by omega)) hN hc hp hB hX ⟨Nat.le_refl _, by omega, fun h k z => Or.inl (hM h k z), Or.inl rfl⟩
  refine ⟨l', σ', X', ?_, e2, e3, e4, e5, fun h k t ht => ?_⟩
  · have ew : (if σ.1 24 (nI i).toNatClampNeg = (-1 : Int32) then ((1 : Int32)) else ((2 : Int32))) = nI (y_ws g i) := by
      rw [nI_clamp (by omega), g1]
      unfold y_ws
      by_cases c : g (3 * i + 1) = 0
      · rw [if_pos c, c, if_pos y_m1.symm]; rfl
      · rw [if_neg c, if_neg (by rw [y_m1, y_eqPP (by omega) (by omega)]; exact c)]; rfl
    unfold f_X0_goOn
    simp only [j_lt]
    rw [y_ix (by omega) (by omega), ew, show (0 : Int32) = nI 0 from rfl, e1, j_b2_s]
  · rw [e6 h k t ht]
    constructor
    · rintro (z | ⟨f', w', z1, z2, z3, z4⟩)
      · exact Or.inl z
      · exact Or.inr ⟨f', w', z2, z3, z4⟩
    · rintro (z | ⟨f', w', z2, z3, z4⟩)
      · exact Or.inl z
      · exact Or.inr ⟨f', w', Nat.zero_le _, z2, z3, z4⟩
theorem y_gl.up {X X' : Nat → Nat → Nat} {m l n : Nat} (h : y_gl b X m) (hl : y_lv b X' m l n) (hn : n ≤ m) (old : ∀ a k, X a k < 1000000 → X' a k < 1000000) : y_gl b X' (y_mx m l) := by
  obtain ⟨h1, h2, h3, h4⟩ := hl
  obtain ⟨g1, c, g2, g3⟩ := h
  unfold y_mx
  by_cases d : m < l
  · rw [if_pos d]
    refine ⟨fun a k z => ?_, ?_⟩
    · have := h3 a k z; omega
    · rcases h4 with w | w
      · omega
      · exact w
  · rw [if_neg d]
    exact ⟨fun a k z => by have := h3 a k z; omega, c, g2, old c m g3⟩
theorem tb_74v (hW : y_W b) (h9 : 0 < b 9) (hv : y_vg b s g) (hq : y_vq b q) {i W : Nat} {c : Int32} (hi : i < s) (hWb : W ≤ 120) : ∀ j fu w (σ : j_G) (X : Nat → Nat → Nat), j < fu → j + 1 ≤ W → j ≤ w + 1 → w ≤ W → y_N σ b → y_cg σ b s g → y_cp σ 28 q → y_B1 σ X → y_tbl X → y_gl b X w →
    ∃ w' σ' X', p_X0_most_74 c (nI i) fu (nI w) (nP j) σ = some (nI w', σ') ∧ w' ≤ W ∧ y_fr 36 36 σ σ' ∧ y_B1 σ' X' ∧ y_tbl X' ∧ y_gl b X' w' ∧
      ∀ h k t, t < 1000000 → (X' h k ≤ t ↔ X h k ≤ t ∨ ∃ n f w0, n < j ∧ f < y_ho b ∧ w0 < y_ws g i ∧ y_Sv b q i (y_xw g i w0) (y_yw g i w0) f n (X f n) h k t) := by
  have ho := hW.ho
  have hs := hv.1
  intro j
  induction j with
  | zero =>
    intro fu w σ X hfu hj hjw hw hN hc hp hB hX hg
    obtain ⟨fu, rfl⟩ := y_pos hfu
    refine ⟨w, σ, X, ?_, hw, y_fr.refl, hB, hX, hg, fun h k t _ => ⟨Or.inl, fun z => z.elim id (fun ⟨n, _, _, a, _⟩ => absurd a (by omega))⟩⟩
    unfold p_X0_most_74
    rw [if_neg (show ¬ ¬ nP 0 < (0 : Int32) by decide)]
  | succ j ih =>
    intro fu w σ X hfu hj hjw hw hN hc hp hB hX hg
    obtain ⟨fu, rfl⟩ := y_pos hfu
    obtain ⟨l, σ1, X1, a1, a2, a3, a4, a5, a6⟩ := tb_goOnv hW h9 hv hq (i := i) (n := j) (M := w) hi (by omega) hN hc hp hB hX hg.1
    have lev := y_lvl (n := j) hX a4 a6 (fun h k t ⟨_, _, _, _, z⟩ => y_Sv_lv z)
    have old : ∀ a k, X a k < 1000000 → X1 a k < 1000000 := fun a k z => by
      have := (a6 a k (X a k) z).mpr (Or.inl (Nat.le_refl _)); omega
    have l2 := a5.2.1
    have mw : y_mx w l ≤ W := by unfold y_mx; split <;> omega
    have mw2 : w ≤ y_mx w l := by unfold y_mx; split <;> omega
    obtain ⟨w', σ', X', e1, e2, e3, e4, e5, e6, e7⟩ := ih fu (y_mx w l) σ1 X1 (by omega) (by omega) (by omega) mw (hN.fr a2 (by omega)) (hc.fr a2 (by omega)) (hp.fr a2 (by omega)) a3 a4 (hg.up a5 (by omega) old)
    refine ⟨w', σ', X', ?_, e2, a2.trans e3, e4, e5, e6, fun h k t ht => ?_⟩
    · unfold p_X0_most_74
      simp only [j_lt]
      rw [y_nPs, if_pos (show ¬ nI j < (0 : Int32) by rw [show (0 : Int32) = nI 0 from rfl, y_lt (by omega) (by omega)]; omega), a1, j_b2_s, y_mxJ (by omega) (by omega), show nI j + (-1 : Int32) = nP j from by unfold nP; rw [Int32.sub_eq_add_neg]]
      exact e1
    · rw [e7 h k t ht, a6 h k t ht]
      constructor
      · rintro ((z | ⟨f', w0, z1, z2, z3⟩) | ⟨n, f', w0, z0, z1, z2, z3⟩)
        · exact Or.inl z
        · exact Or.inr ⟨j, f', w0, by omega, z1, z2, z3⟩
        · rw [lev f' n (by omega)] at z3
          exact Or.inr ⟨n, f', w0, by omega, z1, z2, z3⟩
      · rintro (z | ⟨n, f', w0, z0, z1, z2, z3⟩)
        · exact Or.inl (Or.inl z)
        · by_cases e : n = j
          · subst e; exact Or.inl (Or.inr ⟨f', w0, z1, z2, z3⟩)
          · refine Or.inr ⟨n, f', w0, by omega, z1, z2, ?_⟩
            rw [lev f' n (by omega)]; exact z3
end C
/-! ===== best: the reference ===== -/
section R
variable {b g q : Nat → Nat} {s : Nat}
theorem tn_behv {τ : j_G} (hM : y_M τ b) (hW : y_W b) (h9 : 0 < b 9) (hg : y_mg τ b s g) (hv : y_vg b s g) (hq : y_vq b q) {p i f v x : Nat} (hp : p < b 6) (h0 : b (96 + 5 * p) = q 0) (h2 : b (98 + 5 * p) = q 2) (h19 : τ.1 75 19 = nI p) (hi : i < s) (hf : f < 12) (hx : x < 12) (hvv : v ≤ 200 ∨ v = 1000000) : f_X12_behind (nI i) (nI f) (nI v) (nI x) τ = some (nI (y_bh b q i f v x)) := by
  have hs := hv.1
  have w5 := (hv.2 i hi).2.2.2.2.2
  have b2 := hW.b2
  obtain ⟨g0, g1, g2, g3, g4⟩ := hg.2 i hi
  unfold f_X12_behind y_bh
  simp only [j_lt]
  rcases hvv with hv2 | rfl
  · have ap := y_ap_bd (b := b) (a := f) (c := x) hf hx
    have pc := y_pc_bd (b := b) (q := q) hq v
    have bd := y_th_bd (b := b) (q := q) (a := f) (c := x) (t := v) hq hf hx (by omega)
    have le := y_last_le hW i
    rw [if_neg (by rw [show (1000000 : Int32) = nI 1000000 from rfl, y_eq (by omega) (by omega)]; omega), if_neg (by omega), y_ix (by omega) (by omega), ym_stepsOf hM hW h9 (by omega) (by omega), j_b1_s, h19, ym_pace hM hW hp h0 h2 hq (by omega), j_b1_s, y_ix (by omega) (by omega), nI_clamp (by omega), g3, g4, pk_mul, nI_add]
    have eth : v + y_ap b f x * y_pc q v = y_th b q f x v := rfl
    rw [eth]
    have em : (if nI (y_from b i) < nI (y_th b q f x v) then nI (y_th b q f x v) else nI (y_from b i)) = nI (y_mx (y_th b q f x v) (y_from b i)) := by
      unfold y_mx
      by_cases c : y_th b q f x v < y_from b i
      · rw [if_pos c, if_neg (by rw [y_lt (by omega) (by omega)]; omega)]
      · rw [if_neg c]
        by_cases d : y_from b i < y_th b q f x v
        · rw [if_pos (by rw [y_lt (by omega) (by omega)]; exact d)]
        · rw [if_neg (by rw [y_lt (by omega) (by omega)]; exact d)]; congr 1; omega
    rw [em]
    have mxb : y_mx (y_th b q f x v) (y_from b i) < 2 ^ 30 := by unfold y_mx; split <;> omega
    by_cases c : y_mx (y_th b q f x v) (y_from b i) ≤ y_last b i
    · rw [if_neg (by rw [y_lt (by omega) (by omega)]; omega), if_pos c, show (1 : Int32) = nI 1 from rfl, nI_add]
    · rw [if_pos (by rw [y_lt (by omega) (by omega)]; omega), if_neg c]; rfl
  · rw [if_pos (show nI 1000000 = (1000000 : Int32) from rfl), if_pos rfl]; rfl
theorem tn_soonv {τ : j_G} {X : Nat → Nat → Nat} {h k v : Nat} (hB : y_B2 τ 89 X) (hX : y_tbl X) (hh : h < 12) (hk : k < 121) (hv : v ≤ 1000000) : ∃ τ', f_X12_sooner (nI h) (nI k) (nI v) τ = some τ' ∧ y_fm 43 42 89 89 τ τ' ∧ y_B2 τ' 89 (y_kx X h k v) := by
  have x := hX.le h k
  unfold f_X12_sooner
  rw [tn_cell, y_ix (by omega) (by omega), y_ix (by omega) (by omega), nI_clamp (by omega), hB h k hh hk]
  refine ⟨_, rfl, y_fm.refl.si (by omega) (by omega) (by omega), fun h' k' hh' hk' => ?_⟩
  unfold y_kx
  by_cases d : h' = h ∧ k' = k
  · obtain ⟨rfl, rfl⟩ := d
    rw [j_r_eq, if_pos (show h' = h' ∧ k' = k' from ⟨rfl, rfl⟩)]
    by_cases c : v < X h' k'
    · rw [if_pos c, if_pos ((y_lt (by omega) (by omega)).mpr c)]
    · rw [if_neg c, if_neg (fun z => c ((y_lt (by omega) (by omega)).mp z))]
  · rw [j_r_nj (by omega), if_neg d]; exact hB h' k' hh' hk'
theorem y_M.fr5 {τ τ' : j_G} (h : y_M τ b) (hf : y_fm 43 42 89 89 τ τ') : y_M τ' b := h.fr hf (by omega)
theorem y_mg.fr5 {τ τ' : j_G} (h : y_mg τ b s g) (hf : y_fm 43 42 89 89 τ τ') : y_mg τ' b s g := h.fr hf (by omega) (by omega)
theorem y_B2.fr {τ τ' : j_G} {T : Nat → Nat → Nat} (h : y_B2 τ 90 T) (hf : y_fm 43 42 89 89 τ τ') : y_B2 τ' 90 T := fun a k ha hk => by
  rw [hf.i 90 _ (by omega) (by omega)]; exact h a k ha hk
theorem tn_15v (hW : y_W b) (h9 : 0 < b 9) (hv : y_vg b s g) (hq : y_vq b q) {p i x y f : Nat} {T : Nat → Nat → Nat} (hp : p < b 6) (h0 : b (96 + 5 * p) = q 0) (h2 : b (98 + 5 * p) = q 2) (hi : i < s) (hx : x < 12) (hy : y ≤ 12) (hf : f < 12) (hT : y_tbl T) : ∀ m n fu (τ : j_G) (X : Nat → Nat → Nat), n + m = 119 → m < fu → y_M τ b → y_mg τ b s g → τ.1 75 19 = nI p → y_B2 τ 89 X → y_B2 τ 90 T → y_tbl X →
    ∃ τ' X', p_X12_mayHit_15 (nI i) (nI x) (nP y) (nI f) fu (nI n) τ = some τ' ∧ y_fm 43 42 89 89 τ τ' ∧ y_B2 τ' 89 X' ∧ y_tbl X' ∧ ∀ h k t, (X' h k ≤ t ↔ X h k ≤ t ∨ ∃ n', n ≤ n' ∧ n' < 119 ∧ y_Sv b q i x y f n' (T f n') h k t) := by
  intro m
  induction m with
  | zero =>
    intro n fu τ X h hfu hM hg h19 hB hBT hX
    obtain ⟨fu, rfl⟩ := y_pos hfu
    refine ⟨τ, X, ?_, y_fm.refl, hB, hX, fun h k t => ⟨Or.inl, fun z => z.elim id (fun ⟨n', a, c, _⟩ => absurd c (by omega))⟩⟩
    unfold p_X12_mayHit_15
    rw [if_neg (show ¬ nI n + (2 : Int32) < (121 : Int32) by rw [show (2 : Int32) = nI 2 from rfl, show (121 : Int32) = nI 121 from rfl, nI_add, y_lt (by omega) (by omega)]; omega)]
  | succ m ih =>
    intro n fu τ X h hfu hM hg h19 hB hBT hX
    obtain ⟨fu, rfl⟩ := y_pos hfu
    have e12 : nI n + (1 : Int32) = nI (n + 1) := by simp (disch := omega) only [y_lit, nI_add]
    have e22 : nI n + (2 : Int32) = nI (n + 2) := by simp (disch := omega) only [y_lit, nI_add]
    have bb := y_bh_bd (q := q) (f := f) (v := T f n) (x := x) hW hv hi
    have a1 := tn_behv hM hW h9 hg hv hq hp h0 h2 h19 hi hf hx (hT f n)
    obtain ⟨τ2, k1, k2, k3⟩ := tn_soonv hB hX (h := x) (k := n + 1) (v := y_bh b q i f (T f n) x) hx (by omega) (by omega)
    have X1 : y_tbl (y_kx X x (n + 1) (y_bh b q i f (T f n) x)) := y_kx_tb hX bb
    have Xo : y_tbl (y_kop b q i x y f n (T f n) X) := y_kop_tb hW hv hi hX
    have fin : ∀ τ1 : j_G, y_fm 43 42 89 89 τ τ1 → y_B2 τ1 89 (y_kop b q i x y f n (T f n) X) → ∃ τ' X', p_X12_mayHit_15 (nI i) (nI x) (nP y) (nI f) fu (nI (n + 1)) τ1 = some τ' ∧ y_fm 43 42 89 89 τ τ' ∧ y_B2 τ' 89 X' ∧ y_tbl X' ∧ ∀ h k t, (X' h k ≤ t ↔ X h k ≤ t ∨ ∃ n', n ≤ n' ∧ n' < 119 ∧ y_Sv b q i x y f n' (T f n') h k t) := by
      intro τ1 fr B1
      obtain ⟨τ', X', e1, e2, e3, e4, e5⟩ := ih (n + 1) fu τ1 _ (by omega) (by omega) (hM.fr5 fr) (hg.fr5 fr) (by rw [fr.1 19 (by omega)]; exact h19) B1 (hBT.fr fr) Xo
      refine ⟨τ', X', e1, y_fm.trans fr e2, e3, e4, fun h k t => ?_⟩
      rw [e5 h k t, y_kop_le]
      constructor
      · rintro ((z | z) | ⟨n', z1, z2, z3⟩)
        · exact Or.inl z
        · exact Or.inr ⟨n, Nat.le_refl _, by omega, z⟩
        · exact Or.inr ⟨n', by omega, z2, z3⟩
      · rintro (z | ⟨n', z1, z2, z3⟩)
        · exact Or.inl (Or.inl z)
        · by_cases e : n' = n
          · subst e; exact Or.inl (Or.inr z3)
          · exact Or.inr ⟨n', by omega, z2, z3⟩
    unfold p_X12_mayHit_15
    rw [e22, if_pos (show nI (n + 2) < (121 : Int32) by rw [show (121 : Int32) = nI 121 from rfl, y_lt (by omega) (by omega)]; omega), tn_cell, y_ix (by omega) (by omega), nI_clamp (by omega), hBT f n hf (by omega), a1, j_b1_s, e12, k1, j_b1_s]
    by_cases d : y = 0
    · have eo : y_kop b q i x y f n (T f n) X = y_kx X x (n + 1) (y_bh b q i f (T f n) x) := by unfold y_kop; rw [if_pos d]
      have fin' := fin τ2 k2 (by rw [eo]; exact k3)
      rw [d] at fin'
      rw [d, if_neg (fun z => z y_m1.symm), j_b1_s]
      exact fin'
    · obtain ⟨z, rfl⟩ : ∃ z, y = z + 1 := ⟨y - 1, by omega⟩
      have a2 := tn_behv (hM.fr5 k2) hW h9 (hg.fr5 k2) hv hq hp h0 h2 (by rw [k2.1 19 (by omega)]; exact h19) hi hx (show z < 12 by omega) bb
      have bb2 := y_bh_bd (q := q) (f := x) (v := y_bh b q i f (T f n) x) (x := z) hW hv hi
      obtain ⟨τ5, m1, m2, m3⟩ := tn_soonv k3 X1 (h := z) (k := n + 2) (v := y_bh b q i x (y_bh b q i f (T f n) x) z) (by omega) (by omega) (by omega)
      have eo : y_kop b q i x (z + 1) f n (T f n) X = y_kx (y_kx X x (n + 1) (y_bh b q i f (T f n) x)) z (n + 2) (y_bh b q i x (y_bh b q i f (T f n) x) z) := by
        unfold y_kop; rw [if_neg d, Nat.add_sub_cancel]
      have fin' := fin τ5 (y_fm.trans k2 m2) (by rw [eo]; exact m3)
      rw [y_nPs] at fin'
      rw [y_nPs, if_pos (by rw [y_m1, y_eqQ (by omega) (by omega)]; omega), a2, j_b1_s, m1, j_b1_s, j_b1_s]
      exact fin'
theorem tn_3v (hW : y_W b) (h9 : 0 < b 9) (hv : y_vg b s g) (hq : y_vq b q) {p i x y : Nat} {T : Nat → Nat → Nat} (hp : p < b 6) (h0 : b (96 + 5 * p) = q 0) (h2 : b (98 + 5 * p) = q 2) (hi : i < s) (hx : x < 12) (hy : y ≤ 12) (hT : y_tbl T) : ∀ m f fu (τ : j_G) (X : Nat → Nat → Nat), f + m = y_ho b → m < fu → y_M τ b → y_mg τ b s g → τ.1 75 19 = nI p → y_B2 τ 89 X → y_B2 τ 90 T → y_tbl X →
    ∃ τ' X', p_X12_mayHit_3 (nI i) (nI x) (nP y) fu (nI f) τ = some τ' ∧ y_fm 43 42 89 89 τ τ' ∧ y_B2 τ' 89 X' ∧ y_tbl X' ∧ ∀ h k t, (X' h k ≤ t ↔ X h k ≤ t ∨ ∃ f' n', f ≤ f' ∧ f' < y_ho b ∧ n' < 119 ∧ y_Sv b q i x y f' n' (T f' n') h k t) := by
  have ho := hW.ho
  intro m
  induction m with
  | zero =>
    intro f fu τ X h hfu hM hg h19 hB hBT hX
    obtain ⟨fu, rfl⟩ := y_pos hfu
    refine ⟨τ, X, ?_, y_fm.refl, hB, hX, fun h k t => ⟨Or.inl, fun z => z.elim id (fun ⟨f', _, a, c, _⟩ => absurd c (by omega))⟩⟩
    unfold p_X12_mayHit_3
    rw [ym_holes hM, j_b1_s, if_neg (by rw [y_lt (by omega) (by omega)]; omega)]
  | succ m ih =>
    intro f fu τ X h hfu hM hg h19 hB hBT hX
    obtain ⟨fu, rfl⟩ := y_pos hfu
    obtain ⟨τ1, X1, a1, a2, a3, a4, a5⟩ := tn_15v hW h9 hv hq (f := f) hp h0 h2 hi hx hy (by omega) hT 119 0 j_F τ X (by omega) (y_F (by omega)) hM hg h19 hB hBT hX
    obtain ⟨τ', X', e1, e2, e3, e4, e5⟩ := ih (f + 1) fu τ1 X1 (by omega) (by omega) (hM.fr5 a2) (hg.fr5 a2) (by rw [a2.1 19 (by omega)]; exact h19) a3 (hBT.fr a2) a4
    refine ⟨τ', X', ?_, y_fm.trans a2 e2, e3, e4, fun h k t => ?_⟩
    · unfold p_X12_mayHit_3
      rw [ym_holes hM, j_b1_s, if_pos ((y_lt (by omega) (by omega)).mpr (by omega)), show (0 : Int32) = nI 0 from rfl, a1, j_b1_s, show nI f + (1 : Int32) = nI (f + 1) by simp (disch := omega) only [y_lit, nI_add]]
      exact e1
    · rw [e5 h k t, a5 h k t]
      constructor
      · rintro ((z | ⟨n', z1, z2, z3⟩) | ⟨f', n', z1, z2, z3, z4⟩)
        · exact Or.inl z
        · exact Or.inr ⟨f, n', Nat.le_refl _, by omega, z2, z3⟩
        · exact Or.inr ⟨f', n', by omega, z2, z3, z4⟩
      · rintro (z | ⟨f', n', z1, z2, z3, z4⟩)
        · exact Or.inl (Or.inl z)
        · by_cases e : f' = f
          · subst e; exact Or.inl (Or.inr ⟨n', by omega, z3, z4⟩)
          · exact Or.inr ⟨f', n', by omega, z2, z3, z4⟩
theorem tn_82v {c d : Int32} : ∀ m i n (τ : j_G), i + m = 1452 → m < n → ∃ τ', p_X12_bestOf_82 c d n (nI i) τ = some τ' ∧ y_fm 43 42 90 90 τ τ' ∧ (∀ j, i ≤ j → j < 1452 → τ'.1 90 j = τ.1 89 j) ∧ ∀ j, j < i → τ'.1 90 j = τ.1 90 j := by
  intro m
  induction m with
  | zero =>
    intro i n τ h hn
    obtain ⟨n, rfl⟩ := y_pos hn
    refine ⟨τ, ?_, y_fm.refl, fun j a c => by omega, fun _ _ => rfl⟩
    unfold p_X12_bestOf_82; simp (disch := omega) only [y_lit, y_n1, nI_add, pk_mul, j_lt, j_b1_s, j_b2_s, j_b3_s, j_b0_s, y_bo, y_bo1, y_bo0, y_i0, y_i1, Classical.not_not, nI_clamp, y_ix, y_lt, y_le, y_eq, y_nP, y_nPs, y_ltP, y_ltQ, y_ltPP, y_eqP, y_eqQ, y_eqPP, if_pos, if_neg, ite_true, ite_false, not_true_eq_false, not_false_eq_true, and_true, true_and, and_false, false_and, or_true, true_or, or_false, false_or]
  | succ m ih =>
    intro i n τ h hn
    obtain ⟨n, rfl⟩ := y_pos hn
    obtain ⟨τ', e1, e2, e3, e4⟩ := ih (i + 1) n (j_si τ 90 i (τ.1 89 i)) (by omega) (by omega)
    refine ⟨τ', ?_, y_fm.trans (y_fm.refl.si (by omega) (by omega) (by omega)) e2, fun j a d => ?_, fun j hj => ?_⟩
    · unfold p_X12_bestOf_82
      rw [if_pos (show nI i < (1452 : Int32) by rw [show (1452 : Int32) = nI 1452 from rfl, y_lt (by omega) (by omega)]; omega), y_ix (by omega) (by omega), y_ix (by omega) (by omega), nI_clamp (by omega), show nI i + (1 : Int32) = nI (i + 1) by simp (disch := omega) only [y_lit, nI_add]]
      exact e1
    · by_cases e : j = i
      · subst e; rw [e4 j (by omega), j_r_eq]
      · rw [e3 j (by omega) d, j_r_ne (by omega)]
    · rw [e4 j (by omega), j_r_nj (by omega)]
/-- one coming, of the reference -/
theorem tn_come (hW : y_W b) (h9 : 0 < b 9) (hv : y_vg b s g) (hq : y_vq b q) {p i : Nat} {c : Int32} {τ : j_G} {X : Nat → Nat → Nat} (hp : p < b 6) (h0 : b (96 + 5 * p) = q 0) (h2 : b (98 + 5 * p) = q 2) (hi : i < s) (hM : y_M τ b) (hg : y_mg τ b s g) (h19 : τ.1 75 19 = nI p) (hB : y_B2 τ 89 X) (hX : y_tbl X) :
    ∃ τ' X', (j_b1 (p_X12_bestOf_82 c (nI i) j_F (0 : Int32) τ) fun σ3 =>
    j_b1 (f_X12_inGame (nI i) (0 : Int32) σ3) fun v4 =>
    j_b1 (f_X12_inGame (nI i) (1 : Int32) σ3) fun v5 =>
    j_b1 (f_X12_mayHit (nI i) v4 v5 σ3) fun σ6 =>
    j_b1 (f_X12_inGame (nI i) (1 : Int32) σ6) fun v7 =>
    if ¬ v7 = (-1 : Int32) then (j_b1 (f_X12_inGame (nI i) (1 : Int32) σ6) fun v8 =>
    j_b1 (f_X12_inGame (nI i) (0 : Int32) σ6) fun v9 =>
    j_b1 (f_X12_mayHit (nI i) v8 v9 σ6) fun σ10 =>
    some σ10) else (some σ6)) = some τ' ∧ y_fm 43 42 89 90 τ τ' ∧ y_B2 τ' 89 X' ∧ y_tbl X' ∧ ∀ h k t, (X' h k ≤ t ↔ X h k ≤ t ∨ ∃ f' n' w', f' < y_ho b ∧ n' < 119 ∧ w' < y_ws g i ∧ y_Sv b q i (y_xw g i w') (y_yw g i w') f' n' (X f' n') h k t) := by
  have ho := hW.ho
  have hs := hv.1
  obtain ⟨w0, w1, w2, w3, w4, w5⟩ := hv.2 i hi
  obtain ⟨τ3, a1, a2, a3, _⟩ := tn_82v (c := c) (d := nI i) 1452 0 j_F τ (by omega) (y_F (by omega))
  have a2' : y_fm 43 42 89 90 τ τ3 := a2.wide (by omega) (by omega) (by omega) (by omega)
  have hM3 : y_M τ3 b := hM.fr3 a2'
  have hg3 : y_mg τ3 b s g := hg.fr3 a2'
  have h193 : τ3.1 75 19 = nI p := by rw [a2.1 19 (by omega)]; exact h19
  have hB3 : y_B2 τ3 89 X := fun h k hh hk => by rw [a2.i 89 _ (by omega) (by omega)]; exact hB h k hh hk
  have hT3 : y_B2 τ3 90 X := fun h k hh hk => by rw [a3 _ (by omega) (by omega)]; exact hB h k hh hk
  obtain ⟨τ6, X6, c1, c2, c3, c4, c5⟩ := tn_3v hW h9 hv hq hp h0 h2 hi (x := g (3 * i)) (y := g (3 * i + 1)) (by omega) (by omega) hX (y_ho b) 0 j_F τ3 X (by omega) (y_F (by omega)) hM3 hg3 h193 hB3 hT3 hX
  have c1' : f_X12_mayHit (nI i) (nI (g (3 * i))) (nP (g (3 * i + 1))) τ3 = some τ6 := by
    unfold f_X12_mayHit
    rw [show (0 : Int32) = nI 0 from rfl, c1, j_b1_s]
  have c2' : y_fm 43 42 89 90 τ3 τ6 := c2.wide (by omega) (by omega) (by omega) (by omega)
  have hM6 : y_M τ6 b := hM3.fr3 c2'
  have hg6 : y_mg τ6 b s g := hg3.fr3 c2'
  obtain ⟨p0, p1, _⟩ := hg3.2 i hi
  obtain ⟨q0, q1, _⟩ := hg6.2 i hi
  have i30 : f_X12_inGame (nI i) (0 : Int32) τ3 = some (nI (g (3 * i))) := by rw [show (0 : Int32) = nI 0 from rfl, tn_ing (by omega) (by omega), Nat.add_zero, p0]
  have i31 : f_X12_inGame (nI i) (1 : Int32) τ3 = some (nP (g (3 * i + 1))) := by rw [show (1 : Int32) = nI 1 from rfl, tn_ing (by omega) (by omega), p1]
  have i60 : f_X12_inGame (nI i) (0 : Int32) τ6 = some (nI (g (3 * i))) := by rw [show (0 : Int32) = nI 0 from rfl, tn_ing (by omega) (by omega), Nat.add_zero, q0]
  have i61 : f_X12_inGame (nI i) (1 : Int32) τ6 = some (nP (g (3 * i + 1))) := by rw [show (1 : Int32) = nI 1 from rfl, tn_ing (by omega) (by omega), q1]
  rw [show p_X12_bestOf_82 c (nI i) j_F (0 : Int32) τ = _ from a1, j_b1_s, i30, j_b1_s, i31, j_b1_s, c1', j_b1_s, i61, j_b1_s]
  by_cases e : g (3 * i + 1) = 0
  · rw [e, if_neg (fun z => z y_m1.symm)]
    refine ⟨τ6, X6, rfl, y_fm.trans a2' c2', c3, c4, fun h k t => ?_⟩
    have ws : y_ws g i = 1 := if_pos e
    rw [c5 h k t, ws]
    constructor
    · rintro (z | ⟨f', n', _, z2, z3, z4⟩)
      · exact Or.inl z
      · exact Or.inr ⟨f', n', 0, z2, z3, by omega, z4⟩
    · rintro (z | ⟨f', n', w', z2, z3, z4, z5⟩)
      · exact Or.inl z
      · have w00 : w' = 0 := by omega
        subst w00
        exact Or.inr ⟨f', n', by omega, z2, z3, z5⟩
  · obtain ⟨o, eo⟩ : ∃ o, g (3 * i + 1) = o + 1 := ⟨g (3 * i + 1) - 1, by omega⟩
    have hT6 : y_B2 τ6 90 X := hT3.fr c2
    have h196 : τ6.1 75 19 = nI p := by rw [c2.1 19 (by omega)]; exact h193
    obtain ⟨τ9, X9, d1, d2, d3, d4, d5⟩ := tn_3v hW h9 hv hq hp h0 h2 hi (x := o) (y := g (3 * i) + 1) (by omega) (by omega) hX (y_ho b) 0 j_F τ6 X6 (by omega) (y_F (by omega)) hM6 hg6 h196 c3 hT6 c4
    have d1' : f_X12_mayHit (nI i) (nI o) (nI (g (3 * i))) τ6 = some τ9 := by
      rw [y_nPs] at d1
      unfold f_X12_mayHit
      rw [show (0 : Int32) = nI 0 from rfl, d1, j_b1_s]
    rw [i60, j_b1_s, eo, y_nPs, if_pos (by rw [y_m1, y_eqQ (by omega) (by omega)]; omega), j_b1_s, d1', j_b1_s]
    refine ⟨τ9, X9, rfl, y_fm.trans (y_fm.trans a2' c2') (d2.wide (by omega) (by omega) (by omega) (by omega)), d3, d4, fun h k t => ?_⟩
    have ws : y_ws g i = 2 := if_neg e
    have x0 : y_xw g i 0 = g (3 * i) := rfl
    have y0 : y_yw g i 0 = g (3 * i + 1) := rfl
    have x1 : y_xw g i 1 = o := by show g (3 * i + 1) - 1 = o; omega
    have y1 : y_yw g i 1 = g (3 * i) + 1 := rfl
    rw [d5 h k t, c5 h k t, ws]
    constructor
    · rintro ((z | ⟨f', n', _, z2, z3, z4⟩) | ⟨f', n', _, z2, z3, z4⟩)
      · exact Or.inl z
      · exact Or.inr ⟨f', n', 0, z2, z3, by omega, z4⟩
      · exact Or.inr ⟨f', n', 1, z2, z3, by omega, by rw [x1, y1]; exact z4⟩
    · rintro (z | ⟨f', n', w', z2, z3, z4, z5⟩)
      · exact Or.inl (Or.inl z)
      · obtain rfl | rfl : w' = 0 ∨ w' = 1 := by omega
        · exact Or.inl (Or.inr ⟨f', n', by omega, z2, z3, z5⟩)
        · rw [x1, y1] at z5
          exact Or.inr ⟨f', n', by omega, z2, z3, z5⟩
theorem tn_179v {τ : j_G} {X : Nat → Nat → Nat} {h : Nat} (hB : y_B2 τ 89 X) (hX : y_tbl X) (hh : h < 12) : ∀ m k n v, k + m = 121 → m < n → v ≤ 121 → ∃ w, p_X12_bestOf_179 (nI h) τ n (nI v) (nI k) = some (nI w) ∧ v ≤ w ∧ w ≤ 121 ∧ (∀ k', k ≤ k' → k' < 121 → X h k' < 1000000 → k' ≤ w) ∧ (w = v ∨ X h w < 1000000) := by
  intro m
  induction m with
  | zero =>
    intro k n v hk hn hv
    obtain ⟨n, rfl⟩ := y_pos hn
    refine ⟨v, ?_, Nat.le_refl _, hv, fun k' a c => by omega, Or.inl rfl⟩
    unfold p_X12_bestOf_179; simp (disch := omega) only [y_lit, y_n1, nI_add, pk_mul, j_lt, j_b1_s, j_b2_s, j_b3_s, j_b0_s, y_bo, y_bo1, y_bo0, y_i0, y_i1, Classical.not_not, nI_clamp, y_ix, y_lt, y_le, y_eq, y_nP, y_nPs, y_ltP, y_ltQ, y_ltPP, y_eqP, y_eqQ, y_eqPP, if_pos, if_neg, ite_true, ite_false, not_true_eq_false, not_false_eq_true, and_true, true_and, and_false, false_and, or_true, true_or, or_false, false_or]
  | succ m ih =>
    intro k n v hk hn hv
    obtain ⟨n, rfl⟩ := y_pos hn
    have xb := hX.le h k
    have e : (if nI (X h k) < (1000000 : Int32) then (if nI v < nI k then nI k else nI v) else nI v) = nI (if X h k < 1000000 then y_mx v k else v) := by
      rw [show (1000000 : Int32) = nI 1000000 from rfl]
      by_cases c : X h k < 1000000
      · rw [if_pos c, if_pos ((y_lt (by omega) (by omega)).mpr c), y_mxJ (by omega) (by omega)]
      · rw [if_neg c, if_neg (fun z => c ((y_lt (by omega) (by omega)).mp z))]
    have mb : y_mx v k ≤ 121 ∧ v ≤ y_mx v k ∧ k ≤ y_mx v k ∧ (y_mx v k = v ∨ y_mx v k = k) := by unfold y_mx; split <;> omega
    obtain ⟨w, e1, e2, e3, e4, e5⟩ := ih (k + 1) n (if X h k < 1000000 then y_mx v k else v) (by omega) (by omega) (by split <;> omega)
    refine ⟨w, ?_, by split at e2 <;> omega, e3, fun k' a c x => ?_, ?_⟩
    · unfold p_X12_bestOf_179
      simp only [j_lt]
      rw [if_pos (show nI k < (121 : Int32) by rw [show (121 : Int32) = nI 121 from rfl, y_lt (by omega) (by omega)]; omega), tn_cell, y_ix (by omega) (by omega), nI_clamp (by omega), hB h k hh (by omega), e, show nI k + (1 : Int32) = nI (k + 1) by simp (disch := omega) only [y_lit, nI_add]]
      exact e1
    · by_cases d : k' = k
      · subst d; rw [if_pos x] at e2; omega
      · exact e4 k' (by omega) c x
    · rcases e5 with z | z
      · by_cases c : X h k < 1000000
        · rw [if_pos c] at z
          rcases mb.2.2.2 with u | u
          · left; omega
          · right; rw [z, u]; exact c
        · rw [if_neg c] at z; exact Or.inl z
      · exact Or.inr z
theorem tn_167v {τ : j_G} {X : Nat → Nat → Nat} (hM : y_M τ b) (hW : y_W b) (hB : y_B2 τ 89 X) (hX : y_tbl X) : ∀ m h n v, h + m = y_ho b → m < n → v ≤ 121 → ∃ w, p_X12_bestOf_167 τ n (nI v) (nI h) = some (nI w) ∧ v ≤ w ∧ w ≤ 121 ∧ (∀ h' k', h ≤ h' → h' < y_ho b → k' < 121 → X h' k' < 1000000 → k' ≤ w) ∧ (w = v ∨ ∃ h', X h' w < 1000000) := by
  have ho := hW.ho
  intro m
  induction m with
  | zero =>
    intro h n v hk hn hv
    obtain ⟨n, rfl⟩ := y_pos hn
    refine ⟨v, ?_, Nat.le_refl _, hv, fun h' k' a c => by omega, Or.inl rfl⟩
    unfold p_X12_bestOf_167
    rw [ym_holes hM, j_b1_s, if_neg (by rw [y_lt (by omega) (by omega)]; omega)]
  | succ m ih =>
    intro h n v hk hn hv
    obtain ⟨n, rfl⟩ := y_pos hn
    obtain ⟨u, a1, a2, a3, a4, a5⟩ := tn_179v hB hX (h := h) (by omega) 121 0 j_F v (by omega) (y_F (by omega)) hv
    obtain ⟨w, e1, e2, e3, e4, e5⟩ := ih (h + 1) n u (by omega) (by omega) a3
    refine ⟨w, ?_, by omega, e3, fun h' k' a c d x => ?_, ?_⟩
    · unfold p_X12_bestOf_167
      rw [ym_holes hM, j_b1_s, if_pos ((y_lt (by omega) (by omega)).mpr (by omega)), show (0 : Int32) = nI 0 from rfl, a1, j_b1_s, show nI h + (1 : Int32) = nI (h + 1) by simp (disch := omega) only [y_lit, nI_add]]
      exact e1
    · by_cases e : h' = h
      · subst e
        have := a4 k' (by omega) d x; omega
      · exact e4 h' k' (by omega) c d x
    · rcases e5 with z | z
      · rcases a5 with y | y
        · left; omega
        · right; exact ⟨h, by rw [z]; exact y⟩
      · exact Or.inr z
end R
/-! ===== best, ahead: the same ===== -/
section Z
variable {b g q : Nat → Nat} {s : Nat}
theorem z_bl (hW : y_W b) (h9 : 0 < b 9) (hv : y_vg b s g) (hq : y_vq b q) {p : Nat} {y : Int32} (hp : p < b 6) (h0 : b (96 + 5 * p) = q 0) (h2 : b (98 + 5 * p) = q 2) : ∀ m i nc nr w (X : Nat → Nat → Nat) (σ τ : j_G), i + m = s → m < nc → m < nr → w ≤ 2 * i → y_N σ b → y_cg σ b s g → y_cp σ 28 q → y_B1 σ X → y_tbl X → y_gl b X w → y_M τ b → y_mg τ b s g → τ.1 75 19 = nI p → y_B2 τ 89 X →
    ∃ w' σ' τ' X', p_X0_most_44 y nc (nI w) (nI i) σ = some (nI w', σ') ∧ p_X12_bestOf_53 y nr (nI i) τ = some τ' ∧ y_fr 36 36 σ σ' ∧ y_fm 43 42 89 90 τ τ' ∧ y_B2 τ' 89 X' ∧ y_tbl X' ∧ y_gl b X' w' ∧ w' ≤ 2 * s := by
  have hs := hv.1
  have ho := hW.ho
  intro m
  induction m with
  | zero =>
    intro i nc nr w X σ τ h hnc hnr hw hN hc hcp hB1 hX hgl hM hg h19 hB2
    obtain ⟨nc, rfl⟩ := y_pos hnc
    obtain ⟨nr, rfl⟩ := y_pos hnr
    refine ⟨w, σ, τ, X, ?_, ?_, y_fr.refl, y_fm.refl, hB2, hX, hgl, by omega⟩
    · unfold p_X0_most_44
      rw [hc.1, if_neg (fun z => by have := z.2; rw [y_lt (by omega) (by omega)] at this; omega)]
    · unfold p_X12_bestOf_53
      rw [hg.1, if_neg (fun z => by have := z.1; rw [y_lt (by omega) (by omega)] at this; omega)]
  | succ m ih =>
    intro i nc nr w X σ τ h hnc hnr hw hN hc hcp hB1 hX hgl hM hg h19 hB2
    obtain ⟨nc, rfl⟩ := y_pos hnc
    obtain ⟨nr, rfl⟩ := y_pos hnr
    have hi : i < s := by omega
    obtain ⟨g0, g1, g2, g3, g4⟩ := hc.2 i hi
    obtain ⟨r0, r1, r2, r3, r4⟩ := hg.2 i hi
    obtain ⟨w0, w1, w2, w3, w4, w5⟩ := hv.2 i hi
    have lts : nI i < nI s := (y_lt (by omega) (by omega)).mpr hi
    have ei : nI i + (1 : Int32) = nI (i + 1) := by simp (disch := omega) only [y_lit, nI_add]
    unfold p_X0_most_44 p_X12_bestOf_53
    rw [hc.1, hg.1]
    by_cases d : nI i < y
    · rw [if_pos (show nI i < y ∧ nI i < nI s from ⟨d, lts⟩), if_pos (show nI i < nI s ∧ nI i < y from ⟨lts, d⟩), y_ix (by omega) (by omega), nI_clamp (by omega), g2, show f_X12_inGame (nI i) (2 : Int32) τ = _ from tn_ing (i := i) (q := 2) (by omega) (by omega), j_b1_s, r2, ei]
      by_cases r : g (3 * i + 2) = 0
      · rw [r, if_pos (show nI 0 = (0 : Int32) from rfl), if_neg (show ¬ nI 0 = (1 : Int32) by decide)]
        obtain ⟨w', σ1, Xc, a1, a2, a3, a4, a5, a6, a7⟩ := tb_74v (c := y) hW h9 hv hq (i := i) (W := 2 * i + 2) hi (by omega) (w + 1) j_F w σ X (y_F (by omega)) (by omega) (by omega) (by omega) hN hc hcp hB1 hX hgl
        obtain ⟨τ1, Xr, c1, c2, c3, c4, c5⟩ := tn_come (c := y) hW h9 hv hq hp h0 h2 hi hM hg h19 hB2 hX
        have eX : Xc = Xr := by
          funext h' k'
          refine y_eqx (a5.le h' k') (c4.le h' k') (fun t ht => ?_)
          rw [a7 h' k' t ht, c5 h' k' t]
          constructor
          · rintro (z | ⟨n, f, w0, z0, z1, z2, z3⟩)
            · exact Or.inl z
            · exact Or.inr ⟨f, n, w0, z1, by omega, z2, z3⟩
          · rintro (z | ⟨f, n, w0, z1, z0, z2, z3⟩)
            · exact Or.inl z
            · by_cases e : n ≤ w
              · exact Or.inr ⟨n, f, w0, by omega, z1, z2, z3⟩
              · exfalso
                have inf : X f n = 1000000 := by
                  rcases hX f n with u | u
                  · exact absurd (hgl.1 f n (by omega)) e
                  · exact u
                rw [inf] at z3
                exact y_Sv_inf ht z3
        subst eX
        rw [y_nPs] at a1
        have c2' : y_fm 43 42 89 90 τ τ1 := c2
        obtain ⟨w2', σ', τ', X', e1, e2, e3, e4, e5, e6, e7, e8⟩ := ih (i + 1) nc nr w' Xc σ1 τ1 (by omega) (by omega) (by omega) (by omega) (hN.fr a3 (by omega)) (hc.fr a3 (by omega)) (hcp.fr a3 (by omega)) a4 a5 a6 (hM.fr3 c2) (hg.fr3 c2) (by rw [c2.1 19 (by omega)]; exact h19) c3
        rw [a1, j_b2_s, j_b2_s, c1, j_b1_s]
        exact ⟨w2', σ', τ', X', e1, e2, a3.trans e3, y_fm.trans c2 e4, e5, e6, e7, e8⟩
      · have r' : g (3 * i + 2) = 1 := by omega
        rw [r', if_neg (show ¬ nI 1 = (0 : Int32) by decide), if_pos (show nI 1 = (1 : Int32) from rfl), j_b2_s, j_b1_s]
        exact ih (i + 1) nc nr w X σ τ (by omega) (by omega) (by omega) (by omega) hN hc hcp hB1 hX hgl hM hg h19 hB2
    · rw [if_neg (fun z => d z.1), if_neg (fun z => d z.2)]
      exact ⟨w, σ, τ, X, rfl, rfl, y_fr.refl, y_fm.refl, hB2, hX, hgl, by omega⟩
theorem tb_3v {c : Int32} : ∀ m i n (σ : j_G), i + m = 1452 → m < n → ∃ σ', p_X0_most_3 c n (nI i) σ = some σ' ∧ y_fr 36 36 σ σ' ∧ (∀ j, i ≤ j → j < 1452 → σ'.1 36 j = nI 2147483647) ∧ ∀ j, j < i → σ'.1 36 j = σ.1 36 j := by
  intro m
  induction m with
  | zero =>
    intro i n σ h hn
    obtain ⟨n, rfl⟩ := y_pos hn
    refine ⟨σ, ?_, y_fr.refl, fun j a d => by omega, fun _ _ => rfl⟩
    unfold p_X0_most_3; simp (disch := omega) only [y_lit, y_n1, nI_add, pk_mul, j_lt, j_b1_s, j_b2_s, j_b3_s, j_b0_s, y_bo, y_bo1, y_bo0, y_i0, y_i1, Classical.not_not, nI_clamp, y_ix, y_lt, y_le, y_eq, y_nP, y_nPs, y_ltP, y_ltQ, y_ltPP, y_eqP, y_eqQ, y_eqPP, if_pos, if_neg, ite_true, ite_false, not_true_eq_false, not_false_eq_true, and_true, true_and, and_false, false_and, or_true, true_or, or_false, false_or]
  | succ m ih =>
    intro i n σ h hn
    obtain ⟨n, rfl⟩ := y_pos hn
    obtain ⟨σ', e1, e2, e3, e4⟩ := ih (i + 1) n (j_si σ 36 i (2147483647 : Int32)) (by omega) (by omega)
    refine ⟨σ', ?_, (y_fr.refl.si (by omega) (by omega)).trans e2, fun j a d => ?_, fun j hj => ?_⟩
    · unfold p_X0_most_3
      rw [if_pos (show nI i < (1452 : Int32) by rw [show (1452 : Int32) = nI 1452 from rfl, y_lt (by omega) (by omega)]; omega), y_ix (by omega) (by omega), nI_clamp (by omega), show nI i + (1 : Int32) = nI (i + 1) by simp (disch := omega) only [y_lit, nI_add]]
      exact e1
    · by_cases e : j = i
      · subst e; rw [e4 j (by omega), j_r_eq]; rfl
      · exact e3 j (by omega) d
    · rw [e4 j (by omega), j_r_nj (by omega)]
theorem tn_11v {c d : Int32} : ∀ m i n (τ : j_G), i + m = 1452 → m < n → ∃ τ', p_X12_bestOf_11 c d n (nI i) τ = some τ' ∧ y_fm 43 42 89 90 τ τ' ∧ (∀ j, i ≤ j → j < 1452 → τ'.1 89 j = nI 1000000) ∧ ∀ j, j < i → τ'.1 89 j = τ.1 89 j := by
  intro m
  induction m with
  | zero =>
    intro i n τ h hn
    obtain ⟨n, rfl⟩ := y_pos hn
    refine ⟨τ, ?_, y_fm.refl, fun j a d => by omega, fun _ _ => rfl⟩
    unfold p_X12_bestOf_11; simp (disch := omega) only [y_lit, y_n1, nI_add, pk_mul, j_lt, j_b1_s, j_b2_s, j_b3_s, j_b0_s, y_bo, y_bo1, y_bo0, y_i0, y_i1, Classical.not_not, nI_clamp, y_ix, y_lt, y_le, y_eq, y_nP, y_nPs, y_ltP, y_ltQ, y_ltPP, y_eqP, y_eqQ, y_eqPP, if_pos, if_neg, ite_true, ite_false, not_true_eq_false, not_false_eq_true, and_true, true_and, and_false, false_and, or_true, true_or, or_false, false_or]
  | succ m ih =>
    intro i n τ h hn
    obtain ⟨n, rfl⟩ := y_pos hn
    obtain ⟨τ', e1, e2, e3, e4⟩ := ih (i + 1) n (j_si τ 89 i (1000000 : Int32)) (by omega) (by omega)
    refine ⟨τ', ?_, y_fm.trans (y_fm.refl.si (by omega) (by omega) (by omega)) e2, fun j a d => ?_, fun j hj => ?_⟩
    · unfold p_X12_bestOf_11
      rw [if_pos (show nI i < (1452 : Int32) by rw [show (1452 : Int32) = nI 1452 from rfl, y_lt (by omega) (by omega)]; omega), y_ix (by omega) (by omega), nI_clamp (by omega), show nI i + (1 : Int32) = nI (i + 1) by simp (disch := omega) only [y_lit, nI_add]]
      exact e1
    · by_cases e : j = i
      · subst e; rw [e4 j (by omega), j_r_eq]; rfl
      · exact e3 j (by omega) d
    · rw [e4 j (by omega), j_r_nj (by omega)]
noncomputable def y_X0 (h : Nat) : Nat → Nat → Nat := y_kx (fun _ _ => 1000000) h 0 0
theorem z_bo {σ τ : j_G} (hN : y_N σ b) (hM : y_M τ b) (hW : y_W b) {p : Nat} (hp : p < b 6) (y : Int32) : ∃ v σ1 τ1, (j_b2 (f_X11_makeReady (nI p) σ) fun v2 σ1 => if v2 = 0 then (some ((-2 : Int32), σ1)) else (j_b2 (f_X0_most y σ1) fun v4 σ3 => some (v4, σ3))) = some (v, σ1) ∧ f_X12_bestOf (nI p) y τ = some (v, τ1) ∧ y_fr 22 41 σ σ1 ∧ y_fm 18 42 80 93 τ τ1 := by
  have ho := hW.ho
  have b6 := hW.b6
  have pl := hW.pl hp
  have gs := y_gs_le (b := b)
  have h9 := hW.on0 (Or.inr (Or.inr (Or.inr (Or.inl (by omega : 0 < b 6)))))
  have hq := y_pqv hW hp
  have hv := y_dg_vg hW (b 8)
  have q4 : y_pq b p 4 < y_ho b := hq.2.2.2.2
  have tb0 : y_tbl (fun _ _ => 1000000) := fun _ _ => Or.inr rfl
  have X0t : y_tbl (y_X0 (y_pq b p 4)) := y_kx_tb tb0 (Or.inl (by omega))
  have X0e : ∀ h k, y_X0 (y_pq b p 4) h k = if h = y_pq b p 4 ∧ k = 0 then 0 else 1000000 := fun h k => by
    unfold y_X0 y_kx
    split
    · exact if_pos (show (0 : Nat) < 1000000 by omega)
    · rfl
  have X0g : y_gl b (y_X0 (y_pq b p 4)) 0 := by
    refine ⟨fun h k z => ?_, y_pq b p 4, q4, ?_⟩
    · rw [X0e] at z
      by_cases c : h = y_pq b p 4 ∧ k = 0
      · omega
      · rw [if_neg c] at z; omega
    · rw [X0e, if_pos ⟨rfl, rfl⟩]; omega
  -- the class
  obtain ⟨σ1, a1, ⟨a2, a3, a4⟩, a5⟩ := yc_ready hN hW hp
  obtain ⟨σ2, c1, c2, c3, _⟩ := tb_3v (c := y) 1452 0 j_F σ1 (by omega) (y_F (by omega))
  have B10 : y_B1 σ2 (fun _ _ => 1000000) := fun h k hh hk => by rw [c3 _ (by omega) (by omega)]; rfl
  have e28 : σ2.1 28 4 = nI (y_pq b p 4) := by rw [c2.i 28 4 (by omega)]; exact a4 4 (by omega)
  obtain ⟨σ3, d1, d2, d3⟩ := tb_keepv B10 tb0 (h := y_pq b p 4) (k := 0) (v := 0) (by omega) (by omega) (by omega)
  have f3 := c2.trans d2
  -- the reference
  obtain ⟨τ1, e1, ⟨e2, e2'⟩, e3⟩ := ym_laid hM hW
  have f12 : y_fm 18 42 80 93 τ1 (j_si τ1 75 19 (nI p)) := y_fm.refl.so (by omega) (by omega)
  obtain ⟨τ3, g1, g2, g3, _⟩ := tn_11v (c := nI p) (d := y) 1452 0 j_F (j_si τ1 75 19 (nI p)) (by omega) (y_F (by omega))
  have f12' : y_fm 19 19 1 0 τ1 (j_si τ1 75 19 (nI p)) := y_fm.refl.so (by omega) (by omega)
  have M2 : y_M (j_si τ1 75 19 (nI p)) b := by
    unfold y_M; rw [(f12'.2 76 (by omega) (by omega)).1]; exact e2
  have M3 : y_M τ3 b := M2.fr3 g2
  have G2 : y_mg (j_si τ1 75 19 (nI p)) b (y_gs b) (y_dg b (b 8)) := by
    unfold y_mg at *
    rw [f12'.1 18 (by omega), (f12'.2 82 (by omega) (by omega)).1, (f12'.2 83 (by omega) (by omega)).1, (f12'.2 84 (by omega) (by omega)).1]
    exact e2'
  have G3 : y_mg τ3 b (y_gs b) (y_dg b (b 8)) := G2.fr3 g2
  have e4 : f_X12_of (nI p) (4 : Int32) τ3 = some (nI (y_pq b p 4)) := by
    rw [show (4 : Int32) = nI 4 from rfl, tn_of (by omega) (by omega), M3.p (by omega) (by omega)]; rfl
  have f5 : y_fm 43 42 89 90 τ3 (j_si τ3 89 (121 * y_pq b p 4 + 0) (0 : Int32)) := y_fm.refl.si (by omega) (by omega) (by omega)
  have B20 : y_B2 (j_si τ3 89 (121 * y_pq b p 4 + 0) (0 : Int32)) 89 (y_X0 (y_pq b p 4)) := fun h k hh hk => by
    rw [X0e]
    by_cases c : h = y_pq b p 4 ∧ k = 0
    · rw [if_pos c, c.1, c.2, j_r_eq]; rfl
    · rw [if_neg c, j_r_nj (by omega), g3 _ (by omega) (by omega)]
  obtain ⟨w', σ4, τ6, X', k1, k2, k3, k4, k5, k6, k7, k8⟩ := z_bl (y := y) hW h9 hv hq hp rfl (by show b (98 + 5 * p) = b (96 + 5 * p + 2); rw [show 98 + 5 * p = 96 + 5 * p + 2 by omega]) (y_gs b) 0 j_F j_F 0 (y_X0 (y_pq b p 4)) σ3 (j_si τ3 89 (121 * y_pq b p 4 + 0) (0 : Int32)) (by omega) (y_F (by omega)) (y_F (by omega)) (by omega) (a2.fr f3 (by omega)) (a3.fr f3 (by omega)) (a4.fr f3 (by omega)) d3 X0t X0g (M3.fr3 f5) (G3.fr3 f5) (by rw [f5.1 19 (by omega), g2.1 19 (by omega), j_r_eq]) B20
  obtain ⟨u, m1, m2, m3, m4, m5⟩ := tn_167v ((M3.fr3 f5).fr3 k4) hW k5 k6 (y_ho b) 0 j_F 0 (by omega) (y_F (by omega)) (by omega)
  have eu : u = w' := by
    obtain ⟨h', x1, x2⟩ := k7.2
    have ge := m4 h' w' (by omega) x1 (by omega) x2
    rcases m5 with z | ⟨h2, z⟩
    · omega
    · have := k7.1 h2 u z; omega
  subst eu
  refine ⟨nI u, σ4, τ6, ?_, ?_, a5.trans ((f3.trans k3).wide (by omega) (by omega)), y_fm.trans e3 (y_fm.trans f12 ((y_fm.trans g2 (y_fm.trans f5 k4)).wide (by omega) (by omega) (by omega) (by omega)))⟩
  · rw [a1, j_b2_s, if_neg (show ¬ nI 1 = (0 : Int32) by decide)]
    unfold f_X0_most
    rw [show p_X0_most_3 y j_F (0 : Int32) σ1 = _ from c1, j_b1_s, e28, show f_X0_keep (nI (y_pq b p 4)) (0 : Int32) (0 : Int32) σ2 = _ from d1, j_b1_s, show p_X0_most_44 y j_F (0 : Int32) (0 : Int32) σ3 = _ from k1, j_b2_s, j_b2_s]
  · unfold f_X12_bestOf
    simp only [j_lt]
    rw [e1, j_b1_s, show p_X12_bestOf_11 (nI p) y j_F (0 : Int32) (j_si τ1 75 19 (nI p)) = _ from g1, j_b1_s, e4, j_b1_s, show f_X12_cell (nI (y_pq b p 4)) (0 : Int32) = _ from tn_cell (k := 0), y_ix (by omega) (by omega), nI_clamp (by omega), show p_X12_bestOf_53 y j_F (0 : Int32) (j_si τ3 89 (121 * y_pq b p 4 + 0) (0 : Int32)) = _ from k2, j_b1_s, show p_X12_bestOf_167 τ6 j_F (0 : Int32) (0 : Int32) = _ from m1, j_b1_s]
end Z
section Z
variable {σ τ : j_G}
theorem z_ahead (hR : j_Rel σ τ) (a1 a2 : Int32) : ∃ v σ1 τ1, f_X11_ahead a1 a2 σ = some (v, σ1) ∧ f_X12_ahead a1 a2 τ = some (v, τ1) ∧ j_Rel σ1 τ1 := by
  obtain ⟨b, hW, hN, hM, hK⟩ := id hR
  have ein : f_X12_in a2.toInt64 (0 : Int64) (60 : Int64) = if ¬ a2 < nI 0 ∧ ¬ nI 60 < a2 then nI 1 else nI 0 := by
    rw [show (0 : Int64) = (nI 0).toInt64 from rfl, show (60 : Int64) = (nI 60).toInt64 from rfl, y_in]
  have i1 : ¬ nI 1 = (0 : Int32) := by decide
  by_cases c : ¬ a2 < nI 0 ∧ ¬ nI 60 < a2
  · have c' : ¬ a2 < (0 : Int32) ∧ ¬ (60 : Int32) < a2 := c
    by_cases hx : y_rg a1 (b 6)
    · obtain ⟨p, hp, rfl⟩ := y_of _ _ hx.1 hx.2
      obtain ⟨v, σ1, τ1, e1, e2, e3, e4⟩ := z_bo hN hM hW hp a2
      refine ⟨v, σ1, τ1, ?_, ?_, y_done hR e3 e4⟩
      · unfold f_X11_ahead
        rw [if_pos c']; exact e1
      · unfold f_X12_ahead
        rw [ym_isPlayer hM hW, j_b1_s, if_pos hx, ein, if_pos c, if_pos ⟨i1, i1⟩, e2, j_b2_s]
    · refine ⟨-2, σ, τ, ?_, ?_, hR⟩
      · unfold f_X11_ahead
        rw [if_pos c', yc_unready hN hW hx, j_b2_s, if_pos (show nI 0 = (0 : Int32) from rfl)]
      · unfold f_X12_ahead
        rw [ym_isPlayer hM hW, j_b1_s, if_neg hx, if_neg (fun z => z.1 rfl)]
  · have c' : ¬ (¬ a2 < (0 : Int32) ∧ ¬ (60 : Int32) < a2) := c
    refine ⟨-2, σ, τ, ?_, ?_, hR⟩
    · unfold f_X11_ahead
      rw [if_neg c']
    · unfold f_X12_ahead
      rw [ym_isPlayer hM hW, j_b1_s, ein, if_neg c, if_neg (fun z => z.2 rfl)]
theorem z_best (hR : j_Rel σ τ) (a1 : Int32) : ∃ v σ1 τ1, f_X11_best a1 σ = some (v, σ1) ∧ f_X12_best a1 τ = some (v, τ1) ∧ j_Rel σ1 τ1 := by
  obtain ⟨b, hW, hN, hM, hK⟩ := id hR
  by_cases hx : y_rg a1 (b 6)
  · obtain ⟨p, hp, rfl⟩ := y_of _ _ hx.1 hx.2
    obtain ⟨v, σ1, τ1, e1, e2, e3, e4⟩ := z_bo hN hM hW hp 60
    refine ⟨v, σ1, τ1, ?_, ?_, y_done hR e3 e4⟩
    · unfold f_X11_best f_X11_ahead
      rw [if_pos (show ¬ (60 : Int32) < 0 ∧ ¬ (60 : Int32) < 60 by decide), e1, j_b2_s]
    · unfold f_X12_best
      rw [ym_isPlayer hM hW, j_b1_s, if_pos hx, if_pos (show ¬ nI 1 = (0 : Int32) by decide), e2, j_b2_s]
  · refine ⟨-2, σ, τ, ?_, ?_, hR⟩
    · unfold f_X11_best f_X11_ahead
      rw [if_pos (show ¬ (60 : Int32) < 0 ∧ ¬ (60 : Int32) < 60 by decide), yc_unready hN hW hx, j_b2_s, if_pos (show nI 0 = (0 : Int32) from rfl), j_b2_s]
    · unfold f_X12_best
      rw [ym_isPlayer hM hW, j_b1_s, if_neg hx, if_neg (show ¬ ¬ nI 0 = (0 : Int32) from fun z => z rfl)]
end Z
/-! ===== two: the same ===== -/
noncomputable def y_bk (n : Nat) : Nat → Nat := fun h => n / 2 ^ h % 2
noncomputable def y_anb (c k : Nat) : Nat := c ^^^ (c &&& k)
theorem y_bk_mk {n : Nat} (hn : n < 4096) : y_mk (nI n) (y_bk n) := fun h hh => ⟨y_bit (by omega) (by omega), by unfold y_bk; omega⟩
theorem y_bva (x y : BitVec 32) : x &&& ~~~ y = x ^^^ (x &&& y) := by
  apply BitVec.eq_of_getElem_eq
  intro i hi
  simp only [BitVec.getElem_xor, BitVec.getElem_and, BitVec.getElem_not]
  cases x[i] <;> cases y[i] <;> rfl
theorem y_anI {c k : Nat} : nI c &&& (nI k ^^^ (-1 : Int32)) = nI (y_anb c k) := by
  apply Int32.toBitVec_inj.mp
  show BitVec.ofNat 32 c &&& (nI k ^^^ (-1 : Int32)).toBitVec = BitVec.ofNat 32 (c ^^^ (c &&& k))
  rw [show (nI k ^^^ (-1 : Int32)).toBitVec = ~~~ (BitVec.ofNat 32 k) from (by rw [y_m1, y_nPx]; rfl), y_bva, BitVec.ofNat_xor, BitVec.ofNat_and]
theorem y_bk_le (n h : Nat) : y_bk n h ≤ 1 := by unfold y_bk; omega
theorem y_bk_t {n h : Nat} : y_bk n h = (n.testBit h).toNat := y_tb2
theorem y_bk_and {a c h : Nat} : y_bk (a &&& c) h = y_bk a h * y_bk c h := by
  rw [y_bk_t, y_bk_t, y_bk_t, Nat.testBit_and]
  cases a.testBit h <;> cases c.testBit h <;> rfl
theorem y_bk_an {c k h : Nat} : y_bk (y_anb c k) h = y_bk c h * (1 - y_bk k h) := by
  unfold y_anb
  rw [y_bk_t, y_bk_t, y_bk_t, Nat.testBit_xor, Nat.testBit_and]
  cases c.testBit h <;> cases k.testBit h <;> rfl
theorem y_bk_or {a c h : Nat} : y_bk (a ||| c) h = if y_bk a h = 1 ∨ y_bk c h = 1 then 1 else 0 := by
  rw [y_bk_t, y_bk_t, y_bk_t, Nat.testBit_or]
  cases a.testBit h <;> cases c.testBit h <;> rfl
theorem y_bk_ext {a c : Nat} (h : ∀ i, y_bk a i = y_bk c i) : a = c := by
  apply Nat.eq_of_testBit_eq
  intro i
  have e := h i
  rw [y_bk_t, y_bk_t] at e
  revert e
  cases a.testBit i <;> cases c.testBit i <;> simp
theorem y_anb_lt {c k n : Nat} (hc : c < 2 ^ n) : y_anb c k < 2 ^ n := Nat.xor_lt_two_pow hc (Nat.lt_of_le_of_lt Nat.and_le_left hc)
theorem y_su_pl {f g : Nat → Nat} : ∀ m i, y_su (fun j => f j + g j) m i 0 = y_su f m i 0 + y_su g m i 0 := by
  intro m
  induction m with
  | zero => intro i; rfl
  | succ m ih => intro i; rw [y_su_s, y_su_s, y_su_s, ih (i + 1)]; omega
theorem y_pop_su (n : Nat) : y_pop 12 n = y_su (y_bk n) 12 0 0 := by
  have := y_su_pop 12 0 n
  rw [Nat.pow_zero, Nat.div_one] at this
  exact this.symm
theorem y_pop_bd (n : Nat) : y_pop 12 n ≤ 12 := by
  rw [y_pop_su]
  exact y_su_bd (c := 1) 12 0 (fun j _ _ => y_bk_le n j)
/-- how many good ones come in some holes -/
noncomputable def y_gi (g : Nat → Nat) (s n : Nat) : Nat := y_su (fun i => if g (3 * i + 2) = 0 then y_pop 12 (y_hb g i &&& n) else 0) s 0 0
noncomputable def y_gh (g : Nat → Nat) : Nat → Nat → Nat → Nat
  | 0, _, c => c
  | m + 1, i, c => y_gh g m (i + 1) (if g (3 * i + 2) = 0 then c ||| y_hb g i else c)
theorem y_gh_up {g : Nat → Nat} {h : Nat} : ∀ m i c, y_bk c h = 1 → y_bk (y_gh g m i c) h = 1 := by
  intro m
  induction m with
  | zero => intro i c z; exact z
  | succ m ih =>
    intro i c z
    unfold y_gh
    refine ih _ _ ?_
    split
    · rw [y_bk_or, if_pos (Or.inl z)]
    · exact z
theorem y_gh_in {g : Nat → Nat} {h j : Nat} : ∀ m i c, i ≤ j → j < i + m → g (3 * j + 2) = 0 → y_bk (y_hb g j) h = 1 → y_bk (y_gh g m i c) h = 1 := by
  intro m
  induction m with
  | zero => intro i c a d; omega
  | succ m ih =>
    intro i c a d r z
    unfold y_gh
    by_cases e : i = j
    · subst e
      refine y_gh_up _ _ _ ?_
      rw [if_pos r, y_bk_or, if_pos (Or.inr z)]
    · exact ih _ _ (by omega) (by omega) r z
section B
variable {b g q : Nat → Nat} {s : Nat}
theorem y_hb_p (hv : y_vg b s g) {i : Nat} (hi : i < s) : y_hb g i < 2 ^ y_ho b := by
  obtain ⟨w0, w1, w2, w3, w4, w5⟩ := hv.2 i hi
  unfold y_hb
  refine Nat.or_lt_two_pow (Nat.pow_lt_pow_right (by omega) w0) ?_
  split
  · exact Nat.pow_pos (by omega)
  · exact Nat.pow_lt_pow_right (by omega) (by omega)
theorem y_gh_lt (hv : y_vg b s g) : ∀ m i c, i + m = s → c < 2 ^ y_ho b → y_gh g m i c < 2 ^ y_ho b := by
  intro m
  induction m with
  | zero => intro i c _ h; exact h
  | succ m ih =>
    intro i c h hc
    unfold y_gh
    refine ih _ _ (by omega) ?_
    split
    · exact Nat.or_lt_two_pow hc (y_hb_p hv (by omega))
    · exact hc
theorem y_hb_a {i : Nat} : y_bk (y_hb g i) (g (3 * i)) = 1 := by
  unfold y_hb
  rw [y_bk_or, if_pos]
  left
  unfold y_bk
  rw [Nat.div_self (Nat.pow_pos (by omega))]
theorem y_hb_o {i : Nat} (h : 0 < g (3 * i + 1)) : y_bk (y_hb g i) (g (3 * i + 1) - 1) = 1 := by
  unfold y_hb
  rw [y_bk_or, if_pos]
  right
  rw [if_neg (by omega)]
  unfold y_bk
  rw [Nat.div_self (Nat.pow_pos (by omega))]
/-- the run looks at the holes of the good ones alone -/
theorem y_rl_cg {k k' : Nat → Nat} : ∀ m i R, (∀ j, i ≤ j → j < i + m → g (3 * j + 2) = 0 → k (g (3 * j)) = k' (g (3 * j)) ∧ (0 < g (3 * j + 1) → k (g (3 * j + 1) - 1) = k' (g (3 * j + 1) - 1))) → y_rl b g q k 0 m i R = y_rl b g q k' 0 m i R := by
  intro m
  induction m with
  | zero => intro i R _; rfl
  | succ m ih =>
    intro i R h
    unfold y_rl
    have e : (if g (3 * i + 2) = 0 ∨ 0 = 1 then y_gf b g q k i R else R) = (if g (3 * i + 2) = 0 ∨ 0 = 1 then y_gf b g q k' i R else R) := by
      by_cases c : g (3 * i + 2) = 0
      · obtain ⟨h1, h2⟩ := h i (Nat.le_refl _) (by omega) c
        rw [if_pos (Or.inl c), if_pos (Or.inl c)]
        unfold y_gf
        rw [h1]
        by_cases d : 0 < g (3 * i + 1)
        · rw [h2 d]
        · simp only [d, false_and, if_false]
      · rw [if_neg (by omega), if_neg (by omega)]
    rw [e]
    exact ih (i + 1) _ (fun j a c => h j (by omega) (by omega))
theorem y_go_0 {i to : Nat} {R : Nat → Nat} : y_go b g q i to R 0 ≤ R 0 + 1 := by
  have e : ∀ t, y_set b g i to t R 0 = R 0 + 1 := fun t => by
    unfold y_set
    simp (disch := omega) only [y_un, y_ue]
  unfold y_go
  split
  · rw [e]; omega
  · omega
theorem y_go2_0 {i to th : Nat} {R : Nat → Nat} : y_go2 b g q i to th R 0 ≤ R 0 + 2 := by
  unfold y_go2
  split
  · have := y_go_0 (b := b) (g := g) (q := q) (i := i) (to := th) (R := y_go b g q i to R)
    have := y_go_0 (b := b) (g := g) (q := q) (i := i) (to := to) (R := R)
    omega
  · omega
theorem y_gf_0 (hv : y_vg b s g) {i n : Nat} {R : Nat → Nat} (hi : i < s) (ho : y_ho b ≤ 12) : y_gf b g q (y_bk n) i R 0 ≤ R 0 + y_pop 12 (y_hb g i &&& n) := by
  obtain ⟨w0, w1, w2, w3, w4, w5⟩ := hv.2 i hi
  have pa : y_bk n (g (3 * i)) = 1 → y_bk (y_hb g i &&& n) (g (3 * i)) = 1 := fun z => by rw [y_bk_and, y_hb_a, z]
  have po : 0 < g (3 * i + 1) → y_bk n (g (3 * i + 1) - 1) = 1 → y_bk (y_hb g i &&& n) (g (3 * i + 1) - 1) = 1 := fun y z => by rw [y_bk_and, y_hb_o y, z]
  rw [y_pop_su]
  unfold y_gf
  by_cases c : y_bk n (g (3 * i)) = 1
  · rw [if_pos c]
    have one := y_su_one (f := y_bk (y_hb g i &&& n)) 12 0 (g (3 * i)) (by omega) (by omega)
    rw [pa c] at one
    by_cases d : 0 < g (3 * i + 1) ∧ y_bk n (g (3 * i + 1) - 1) = 1
    · rw [if_pos d]
      have two : 2 ≤ y_su (y_bk (y_hb g i &&& n)) 12 0 0 := by
        have e1 := pa c
        have e2 := po d.1 d.2
        rcases Nat.lt_or_gt_of_ne (show g (3 * i) ≠ g (3 * i + 1) - 1 by omega) with z | z
        · have := y_su_two (f := y_bk (y_hb g i &&& n)) 12 0 (g (3 * i)) (g (3 * i + 1) - 1) (by omega) z (by omega)
          omega
        · have := y_su_two (f := y_bk (y_hb g i &&& n)) 12 0 (g (3 * i + 1) - 1) (g (3 * i)) (by omega) z (by omega)
          omega
      split
      · have := y_go2_0 (b := b) (g := g) (q := q) (i := i) (to := g (3 * i)) (th := g (3 * i + 1) - 1) (R := R); omega
      · have := y_go2_0 (b := b) (g := g) (q := q) (i := i) (to := g (3 * i + 1) - 1) (th := g (3 * i)) (R := R); omega
    · rw [if_neg d]
      have := y_go_0 (b := b) (g := g) (q := q) (i := i) (to := g (3 * i)) (R := R); omega
  · rw [if_neg c]
    by_cases d : 0 < g (3 * i + 1) ∧ y_bk n (g (3 * i + 1) - 1) = 1
    · rw [if_pos d]
      have one := y_su_one (f := y_bk (y_hb g i &&& n)) 12 0 (g (3 * i + 1) - 1) (by omega) (by omega)
      rw [po d.1 d.2] at one
      have := y_go_0 (b := b) (g := g) (q := q) (i := i) (to := g (3 * i + 1) - 1) (R := R); omega
    · rw [if_neg d]; omega
theorem y_rl_0 (hv : y_vg b s g) (ho : y_ho b ≤ 12) {n : Nat} : ∀ m i R, i + m = s → y_rl b g q (y_bk n) 0 m i R 0 ≤ R 0 + y_su (fun i => if g (3 * i + 2) = 0 then y_pop 12 (y_hb g i &&& n) else 0) m i 0 := by
  intro m
  induction m with
  | zero => intro i R _; exact Nat.le_refl _
  | succ m ih =>
    intro i R h
    unfold y_rl
    rw [y_su_s]
    have e := ih (i + 1) (if g (3 * i + 2) = 0 ∨ 0 = 1 then y_gf b g q (y_bk n) i R else R) (by omega)
    by_cases c : g (3 * i + 2) = 0
    · have := y_gf_0 (q := q) (n := n) (R := R) hv (show i < s by omega) ho
      rw [if_pos (Or.inl c)] at e ⊢
      rw [if_pos c]; omega
    · rw [if_neg (by omega)] at e ⊢
      rw [if_neg c]; omega
theorem y_run_gi (hv : y_vg b s g) (ho : y_ho b ≤ 12) {n : Nat} : y_run b g q (y_bk n) 0 s 0 ≤ y_gi g s n := by
  have := y_rl_0 (q := q) (n := n) hv ho s 0 (y_R0 q) (by omega)
  have e : y_R0 q 0 = 0 := rfl
  unfold y_run y_gi; omega
theorem y_gi_two {x c : Nat} : y_gi g s (x &&& c) + y_gi g s (y_anb c x) ≤ y_gi g s c := by
  unfold y_gi
  rw [← y_su_pl]
  refine y_su_le s 0 0 0 (Nat.le_refl _) (fun j _ _ => ?_)
  show (if g (3 * j + 2) = 0 then _ else 0) + (if g (3 * j + 2) = 0 then _ else 0) ≤ (if g (3 * j + 2) = 0 then _ else 0)
  split
  · rw [y_pop_su, y_pop_su, y_pop_su, ← y_su_pl]
    refine y_su_le 12 0 0 0 (Nat.le_refl _) (fun h _ _ => ?_)
    show y_bk _ h + y_bk _ h ≤ y_bk _ h
    rw [y_bk_and, y_bk_and, y_bk_and, y_bk_and, y_bk_an]
    have a1 := y_bk_le (y_hb g j) h
    have a2 := y_bk_le x h
    have a3 := y_bk_le c h
    obtain z1 | z1 : y_bk (y_hb g j) h = 0 ∨ y_bk (y_hb g j) h = 1 := by omega
    · rw [z1]; simp
    · obtain z2 | z2 : y_bk x h = 0 ∨ y_bk x h = 1 := by omega
      · rw [z1, z2]; simp
      · rw [z1, z2]; simp
  · omega
theorem y_gi_bd (hs : s ≤ 60) {n : Nat} : y_gi g s n ≤ 720 := by
  have := y_su_bd (f := fun i => if g (3 * i + 2) = 0 then y_pop 12 (y_hb g i &&& n) else 0) (c := 12) s 0 (fun j _ _ => by
    show (if g (3 * j + 2) = 0 then _ else 0) ≤ 12
    split
    · exact y_pop_bd _
    · omega)
  unfold y_gi; omega
end B
/-! the best of the sets up to one -/
noncomputable def y_G (F : Nat → Nat) : Nat → Nat × Nat
  | 0 => (0, 0)
  | k + 1 => if (y_G F k).1 < F k + 1 then (F k + 1, k) else y_G F k
theorem y_G_s {F : Nat → Nat} {k : Nat} : y_G F (k + 1) = if (y_G F k).1 < F k + 1 then (F k + 1, k) else y_G F k := rfl
theorem y_G_ge {F : Nat → Nat} : ∀ k j, j < k → F j + 1 ≤ (y_G F k).1 := by
  intro k
  induction k with
  | zero => intro j h; omega
  | succ k ih =>
    intro j h
    rw [y_G_s]
    by_cases c : (y_G F k).1 < F k + 1
    · rw [if_pos c]
      by_cases e : j = k
      · subst e; exact Nat.le_refl _
      · have := ih j (by omega); show F j + 1 ≤ F k + 1; omega
    · rw [if_neg c]
      by_cases e : j = k
      · subst e; omega
      · exact ih j (by omega)
theorem y_G_st {F : Nat → Nat} {k : Nat} : ∀ m, (∀ j, k ≤ j → j < k + m → F j + 1 ≤ (y_G F k).1) → y_G F (k + m) = y_G F k := by
  intro m
  induction m with
  | zero => intro _; rfl
  | succ m ih =>
    intro h
    rw [show k + (m + 1) = k + m + 1 by omega, y_G_s, ih (fun j a c => h j a (by omega)), if_neg (by have := h (k + m) (by omega) (by omega); omega)]
theorem y_G_bd {F : Nat → Nat} {M : Nat} (hF : ∀ j, F j ≤ M) : ∀ k, (y_G F k).1 ≤ M + 1 ∧ (y_G F k).2 ≤ k := by
  intro k
  induction k with
  | zero => exact ⟨Nat.zero_le _, Nat.le_refl _⟩
  | succ k ih =>
    rw [y_G_s]
    split
    · have := hF k; exact ⟨by show F k + 1 ≤ M + 1; omega, by show k ≤ k + 1; omega⟩
    · omega
/-! ===== two: both loops ===== -/
section T
variable {b g q q2 : Nat → Nat} {s : Nat}
noncomputable def y_FF (b g q q2 : Nat → Nat) (s c k : Nat) : Nat := y_run b g q (y_bk (k &&& c)) 0 s 0 + y_run b g q2 (y_bk (y_anb c (k &&& c))) 0 s 0
theorem y_FF_and {c k : Nat} : y_FF b g q q2 s c (k &&& c) = y_FF b g q q2 s c k := by
  unfold y_FF
  rw [show k &&& c &&& c = k &&& c from by rw [Nat.and_assoc, Nat.and_self]]
theorem y_FF_gi (hv : y_vg b s g) (ho : y_ho b ≤ 12) {c k : Nat} : y_FF b g q q2 s c k ≤ y_gi g s c := by
  have a1 := y_run_gi (q := q) (n := k &&& c) hv ho
  have a2 := y_run_gi (q := q2) (n := y_anb c (k &&& c)) hv ho
  have a3 := y_gi_two (g := g) (s := s) (x := k &&& c) (c := c)
  rw [show k &&& c &&& c = k &&& c from by rw [Nat.and_assoc, Nat.and_self]] at a3
  unfold y_FF; omega
theorem y_FF_sub {c k : Nat} (h : k &&& c = k) : y_FF b g q q2 s c k = y_run b g q (y_bk k) 0 s 0 + y_run b g q2 (y_bk (y_anb c k)) 0 s 0 := by
  unfold y_FF; rw [h]
theorem y_anb0 {c k : Nat} : y_anb k c = 0 ↔ k &&& c = k := by
  constructor
  · intro h
    apply y_bk_ext
    intro i
    have e : y_bk (y_anb k c) i = 0 := by rw [h]; unfold y_bk; rw [Nat.zero_div]
    rw [y_bk_an] at e
    rw [y_bk_and]
    have a1 := y_bk_le k i
    have a2 := y_bk_le c i
    obtain z1 | z1 : y_bk k i = 0 ∨ y_bk k i = 1 := by omega
    · rw [z1, Nat.zero_mul]
    · rw [z1] at e ⊢
      omega
  · intro h
    unfold y_anb
    rw [h, Nat.xor_self]
theorem tt_ghv {σ : j_G} (hc : y_cg σ b s g) (hv : y_vg b s g) (hW : y_W b) : f_X4_goodHoles σ = some (nI (y_gh g s 0 0)) := by
  have hs := hv.1
  have key : ∀ m i n c, i + m = s → m < n → p_X4_goodHoles_4 σ n (nI c) (nI i) = some (nI (y_gh g m i c)) := by
    intro m
    induction m with
    | zero =>
      intro i n c h hn
      obtain ⟨n, rfl⟩ := y_pos hn
      unfold p_X4_goodHoles_4
      rw [hc.1, if_neg (by rw [y_lt (by omega) (by omega)]; omega)]; rfl
    | succ m ih =>
      intro i n c h hn
      obtain ⟨n, rfl⟩ := y_pos hn
      have ci := (hc.2 i (by omega)).2.2.1
      have vi := (hv.2 i (by omega)).2.2.2.1
      unfold p_X4_goodHoles_4 y_gh
      simp only [j_lt]
      rw [hc.1, if_pos ((y_lt (by omega) (by omega)).mpr (by omega)), y_ix (by omega) (by omega), nI_clamp (by omega), ci, show nI i + (1 : Int32) = nI (i + 1) by simp (disch := omega) only [y_lit, nI_add]]
      by_cases r : g (3 * i + 2) = 0
      · rw [if_pos r, r, if_pos (show nI 0 = (0 : Int32) from rfl), yc_holesOf hc hv hW (by omega), j_b1_s, y_or, j_b1_s]
        exact ih (i + 1) n _ (by omega) (by omega)
      · rw [if_neg r, if_neg (show ¬ nI (g (3 * i + 2)) = (0 : Int32) by rw [show (0 : Int32) = nI 0 from rfl, y_eq (by omega) (by omega)]; exact r), j_b1_s]
        exact ih (i + 1) n c (by omega) (by omega)
  unfold f_X4_goodHoles
  rw [show (0 : Int32) = nI 0 from rfl, key s 0 j_F 0 (by omega) (y_F (by omega)), j_b1_s]
theorem tt_giv {σ : j_G} (hc : y_cg σ b s g) (hv : y_vg b s g) (hW : y_W b) {x : Nat} : f_X4_goodIn (nI x) σ = some (nI (y_gi g s x)) := by
  have hs := hv.1
  have key : ∀ m i n v, i + m = s → m < n → p_X4_goodIn_4 (nI x) σ n (nI v) (nI i) = some (nI (y_su (fun i => if g (3 * i + 2) = 0 then y_pop 12 (y_hb g i &&& x) else 0) m i v)) := by
    intro m
    induction m with
    | zero =>
      intro i n v h hn
      obtain ⟨n, rfl⟩ := y_pos hn
      unfold p_X4_goodIn_4
      rw [hc.1, if_neg (by rw [y_lt (by omega) (by omega)]; omega)]; rfl
    | succ m ih =>
      intro i n v h hn
      obtain ⟨n, rfl⟩ := y_pos hn
      have ci := (hc.2 i (by omega)).2.2.1
      have vi := (hv.2 i (by omega)).2.2.2.1
      have hl := y_hb_lt hW hv (show i < s by omega)
      have an : y_hb g i &&& x < 4096 := Nat.lt_of_le_of_lt Nat.and_le_left hl
      unfold p_X4_goodIn_4
      simp only [j_lt]
      rw [hc.1, if_pos ((y_lt (by omega) (by omega)).mpr (by omega)), y_ix (by omega) (by omega), nI_clamp (by omega), ci, show nI i + (1 : Int32) = nI (i + 1) by simp (disch := omega) only [y_lit, nI_add]]
      show _ = some (nI (y_su _ m (i + 1) (v + if g (3 * i + 2) = 0 then y_pop 12 (y_hb g i &&& x) else 0)))
      by_cases r : g (3 * i + 2) = 0
      · rw [if_pos r, r, if_pos (show nI 0 = (0 : Int32) from rfl), yc_holesOf hc hv hW (by omega), j_b1_s, y_and, y_bcn _ an, nI_add, j_b1_s]
        exact ih (i + 1) n _ (by omega) (by omega)
      · rw [if_neg r, if_neg (show ¬ nI (g (3 * i + 2)) = (0 : Int32) by rw [show (0 : Int32) = nI 0 from rfl, y_eq (by omega) (by omega)]; exact r), j_b1_s]
        exact ih (i + 1) n v (by omega) (by omega)
  unfold f_X4_goodIn
  rw [show (0 : Int32) = nI 0 from rfl, key s 0 j_F 0 (by omega) (y_F (by omega)), j_b1_s]
  rfl
theorem tt_77v (hW : y_W b) (h9 : 0 < b 9) (hv : y_vg b s g) (hq : y_vq b q) (hq2 : y_vq b q2) {x : Int32} {c N : Nat} (hcN : c < N) (hN12 : N ≤ 4096) : ∀ m k fu (σ : j_G), k + m = N → m < fu → y_N σ b → y_cg σ b s g → y_cp σ 28 q → y_cp σ 29 q2 →
    ∃ σ', p_X11_two_77 x (nI c) (nI (y_gi g s c)) fu (nP (y_G (y_FF b g q q2 s c) k).1) (nI (y_G (y_FF b g q q2 s c) k).2) (nI k) σ = some (nP (y_G (y_FF b g q q2 s c) N).1, nI (y_G (y_FF b g q q2 s c) N).2, σ') ∧ y_fr 30 34 σ σ' := by
  have ho := hW.ho
  have hs := hv.1
  have gib := y_gi_bd (g := g) (n := c) hs
  have Fb : ∀ j, y_FF b g q q2 s c j ≤ y_gi g s c := fun j => y_FF_gi hv ho
  intro m
  induction m with
  | zero =>
    intro k fu σ h hfu hN hg hp hp2
    obtain ⟨fu, rfl⟩ := y_pos hfu
    have e : k = N := by omega
    subst e
    refine ⟨σ, ?_, y_fr.refl⟩
    unfold p_X11_two_77
    rw [if_neg (fun z => z.1 (by rw [y_lt (by omega) (by omega)]; exact hcN))]
  | succ m ih =>
    intro k fu σ h hfu hN hg hp hp2
    obtain ⟨fu, rfl⟩ := y_pos hfu
    have Gb := y_G_bd Fb k
    have stay : (∀ j, k ≤ j → j < k + (m + 1) → y_FF b g q q2 s c j + 1 ≤ (y_G (y_FF b g q q2 s c) k).1) → y_G (y_FF b g q q2 s c) N = y_G (y_FF b g q q2 s c) k := fun z => by
      rw [← h]; exact y_G_st (m + 1) z
    have ge : ∀ j, j &&& c < k → y_FF b g q q2 s c j + 1 ≤ (y_G (y_FF b g q q2 s c) k).1 := fun j z => by
      rw [← y_FF_and]; exact y_G_ge k _ z
    have ek : nI k + (1 : Int32) = nI (k + 1) := by simp (disch := omega) only [y_lit, nI_add]
    unfold p_X11_two_77
    simp only [j_lt]
    by_cases d : ¬ nI c < nI k ∧ nP (y_G (y_FF b g q q2 s c) k).1 < nI (y_gi g s c)
    · have d1 : k ≤ c := by have := d.1; rw [y_lt (by omega) (by omega)] at this; omega
      rw [if_pos d, ek, y_anI]
      by_cases e : k &&& c = k
      · have kb : y_bk k = y_bk (k &&& c) := by rw [e]
        obtain ⟨σ4, a1, a2, a3⟩ := yc_good hN hW h9 hg hv hp (by omega) hq (y_bk_mk (n := k) (by omega))
        have anl : y_anb c k < 4096 := by
          have c12 : c < 2 ^ 12 := by show c < 4096; omega
          exact y_anb_lt c12
        have b1 := tt_giv (hg.fr a3 (by omega)) hv hW (x := y_anb c k)
        have r1 := (y_run_br (k := y_bk k) (red := 0) hW hv hq).1
        have r2 := (y_run_br (k := y_bk (y_anb c k)) (red := 0) hW hv hq2).1
        have gb2 := y_gi_bd (g := g) (n := y_anb c k) hs
        have F0 := y_FF_sub (b := b) (g := g) (q := q) (q2 := q2) (s := s) e
        have gr2 := y_run_gi (q := q2) (n := y_anb c k) hv ho
        rw [if_neg (show ¬ ¬ nI (y_anb k c) = 0 by rw [y_anb0.mpr e]; exact fun z => z rfl), a1, j_b2_s, y_anI, b1, j_b1_s, nI_add]
        by_cases r : nP (y_G (y_FF b g q q2 s c) k).1 < nI (y_run b g q (y_bk k) 0 s 0 + y_gi g s (y_anb c k))
        · obtain ⟨σ7, c1, c2, c3⟩ := yc_good (hN.fr a3 (by omega)) hW h9 (hg.fr a3 (by omega)) hv (hp2.fr a3 (by omega)) (by omega) hq2 (y_bk_mk (n := y_anb c k) anl)
          have f7 := a3.trans c3
          obtain ⟨σ', g1, g2⟩ := ih (k + 1) fu σ7 (by omega) (by omega) (hN.fr f7 (by omega)) (hg.fr f7 (by omega)) (hp.fr f7 (by omega)) (hp2.fr f7 (by omega))
          rw [if_pos r, c1, j_b2_s, nI_add, ← F0]
          refine ⟨σ', ?_, f7.trans g2⟩
          rw [y_G_s] at g1
          by_cases t : (y_G (y_FF b g q q2 s c) k).1 < y_FF b g q q2 s c k + 1
          · rw [if_pos t] at g1
            rw [if_pos (by rw [y_ltP (by omega) (by have := Fb k; omega)]; exact t), j_b3_s]
            simp only [y_nPs] at g1
            exact g1
          · rw [if_neg t] at g1
            rw [if_neg (by rw [y_ltP (by omega) (by have := Fb k; omega)]; exact t), j_b3_s]
            exact g1
        · obtain ⟨σ', g1, g2⟩ := ih (k + 1) fu σ4 (by omega) (by omega) (hN.fr a3 (by omega)) (hg.fr a3 (by omega)) (hp.fr a3 (by omega)) (hp2.fr a3 (by omega))
          have t : ¬ (y_G (y_FF b g q q2 s c) k).1 < y_FF b g q q2 s c k + 1 := by
            rw [y_ltP (by omega) (by omega)] at r
            rw [F0]; omega
          rw [y_G_s, if_neg t] at g1
          rw [if_neg r, j_b3_s]
          exact ⟨σ', g1, a3.trans g2⟩
      · have lt : k &&& c < k := by
          have := Nat.and_le_left (n := k) (m := c); omega
        obtain ⟨σ', g1, g2⟩ := ih (k + 1) fu σ (by omega) (by omega) hN hg hp hp2
        rw [y_G_s, if_neg (by have := ge k lt; omega)] at g1
        rw [if_pos (show ¬ nI (y_anb k c) = 0 by
          rw [show (0 : Int32) = nI 0 from rfl, y_eq (by have : y_anb k c < 2 ^ 12 := y_anb_lt (by show k < 4096; omega); omega) (by omega)]
          exact fun z => e (y_anb0.mp z)), j_b3_s]
        exact ⟨σ', g1, g2⟩
    · rw [if_neg d]
      have e : y_G (y_FF b g q q2 s c) N = y_G (y_FF b g q q2 s c) k := by
        apply stay
        intro j a1 a2
        by_cases f : c < k
        · have : j &&& c ≤ c := Nat.and_le_right
          exact ge j (by omega)
        · have f2 : ¬ nP (y_G (y_FF b g q q2 s c) k).1 < nI (y_gi g s c) := fun z => d ⟨by rw [y_lt (by omega) (by omega)]; exact f, z⟩
          rw [y_ltP (by omega) (by omega)] at f2
          have := Fb j
          omega
      rw [e]
      exact ⟨σ, rfl, y_fr.refl⟩
/-- the reference's hits on some holes -/
theorem tu_onv {τ : j_G} (hL : y_ldy τ b) (hW : y_W b) {p x : Nat} (hp : p < b 6) (hx : x < 4096) : ∃ τ', f_X12_hitsOn (nI p) (nI x) τ = some (nI (y_run b (y_dg b (b 8)) (y_pq b p) (y_bk x) 0 (y_gs b) 0), τ') ∧ y_ldy τ' b ∧ y_fm 18 42 80 93 τ τ' := by
  obtain ⟨τ1, a1, a2, a3, a4, a5⟩ := ym_told hL.1 hW hp
  have f2 : y_fm 23 23 80 79 τ1 (j_si τ1 75 23 (nI x)) := y_fm.refl.so (by omega) (by omega)
  have mp2 : y_mp (j_si τ1 75 23 (nI x)) b p (y_pq b p) := by
    obtain ⟨q1, q2, q3, q4, q5, q6, q7⟩ := a2
    exact ⟨by rw [f2.1 19 (by omega)]; exact q1, by rw [f2.1 20 (by omega)]; exact q2, by rw [f2.1 21 (by omega)]; exact q3, by rw [f2.1 22 (by omega)]; exact q4, q5, q6, q7⟩
  have L1 : y_ldy τ1 b := hL.fr a5 (by omega) (by omega)
  have L2 : y_ldy (j_si τ1 75 23 (nI x)) b := L1.fr f2 (by omega) (by omega)
  obtain ⟨τ', e1, e2, e3, e4, e5⟩ := ym_runq (k := y_bk x) (red := 0) L2 hW hp mp2 (y_pqv hW hp) (by rw [j_r_eq]; exact y_bk_mk hx) (by omega) (by rw [f2.1 24 (by omega)]; exact a4)
  unfold f_X12_hitsOn
  simp only [j_lt]
  rw [a1, j_b1_s, e1, j_b1_s, e2.1.1]
  refine ⟨_, rfl, e3, ?_⟩
  exact y_fm.trans (a5.wide (by omega) (by omega) (by omega) (by omega)) (y_fm.trans (y_fm.refl.so (by omega) (by omega) : y_fm 18 42 80 93 τ1 (j_si τ1 75 23 (nI x))) (e5.wide (by omega) (by omega) (by omega) (by omega)))
theorem tu_57v (hW : y_W b) {p p2 N c : Nat} {z : Int32} (hp : p < b 6) (hp2 : p2 < b 6) (hN : N = 2 ^ y_ho b) (hc : c = y_gh (y_dg b (b 8)) (y_gs b) 0 0) : ∀ m k fu (τ : j_G), k + m = N → m < fu → y_ldy τ b →
    ∃ τ', p_X12_two_57 (nI p) (nI p2) z (nI (N - 1)) fu (nI (y_G (y_FF b (y_dg b (b 8)) (y_pq b p) (y_pq b p2) (y_gs b) c) k).2) (nP (y_G (y_FF b (y_dg b (b 8)) (y_pq b p) (y_pq b p2) (y_gs b) c) k).1) (nI k) τ = some (nI (y_G (y_FF b (y_dg b (b 8)) (y_pq b p) (y_pq b p2) (y_gs b) c) N).2, nP (y_G (y_FF b (y_dg b (b 8)) (y_pq b p) (y_pq b p2) (y_gs b) c) N).1, τ') ∧ y_fm 18 42 80 93 τ τ' := by
  have ho := hW.ho
  have hv := y_dg_vg hW (b 8)
  have hs := hv.1
  have pw : N ≤ 4096 := by
    have : 2 ^ y_ho b ≤ 2 ^ 12 := Nat.pow_le_pow_right (by omega) ho
    omega
  have pw1 : 1 ≤ N := by rw [hN]; exact Nat.one_le_two_pow
  have Fb : ∀ j, y_FF b (y_dg b (b 8)) (y_pq b p) (y_pq b p2) (y_gs b) c j ≤ y_gi (y_dg b (b 8)) (y_gs b) c := fun j => y_FF_gi hv ho
  have gib := y_gi_bd (g := y_dg b (b 8)) (n := c) hs
  intro m
  induction m with
  | zero =>
    intro k fu τ h hfu hL
    obtain ⟨fu, rfl⟩ := y_pos hfu
    have e : k = N := by omega
    subst e
    refine ⟨τ, ?_, y_fm.refl⟩
    unfold p_X12_two_57
    rw [if_neg (fun z => z (by rw [y_lt (by omega) (by omega)]; omega))]
  | succ m ih =>
    intro k fu τ h hfu hL
    obtain ⟨fu, rfl⟩ := y_pos hfu
    have Gb := y_G_bd Fb k
    have anl : y_anb (N - 1) k < 4096 := by
      have : y_anb (N - 1) k < 2 ^ 12 := y_anb_lt (by show N - 1 < 4096; omega)
      exact this
    obtain ⟨τ1, a1, a2, a3⟩ := tu_onv hL hW hp (x := k) (by omega)
    obtain ⟨τ3, b1, b2, b3⟩ := tu_onv a2 hW hp2 (x := y_anb (N - 1) k) anl
    -- what counts is what comes
    have come : ∀ j, j < y_gs b → y_dg b (b 8) (3 * j + 2) = 0 → ∀ h, y_bk (y_hb (y_dg b (b 8)) j) h = 1 → y_bk c h = 1 := fun j hj r h z => by
      rw [hc]; exact y_gh_in (y_gs b) 0 0 (by omega) (by omega) r z
    have all1 : ∀ h, h < y_ho b → y_bk (N - 1) h = 1 := fun h hh => by
      rw [y_bk_t, hN, Nat.testBit_two_pow_sub_one, decide_eq_true hh]; rfl
    have e1 : y_run b (y_dg b (b 8)) (y_pq b p) (y_bk k) 0 (y_gs b) = y_run b (y_dg b (b 8)) (y_pq b p) (y_bk (k &&& c)) 0 (y_gs b) := by
      refine y_rl_cg _ _ _ (fun j _ hj r => ⟨?_, fun y0 => ?_⟩)
      · rw [y_bk_and, come j (by omega) r _ y_hb_a, Nat.mul_one]
      · rw [y_bk_and, come j (by omega) r _ (y_hb_o y0), Nat.mul_one]
    have e2 : y_run b (y_dg b (b 8)) (y_pq b p2) (y_bk (y_anb (N - 1) k)) 0 (y_gs b) = y_run b (y_dg b (b 8)) (y_pq b p2) (y_bk (y_anb c (k &&& c))) 0 (y_gs b) := by
      refine y_rl_cg _ _ _ (fun j _ hj r => ⟨?_, fun y0 => ?_⟩)
      · obtain ⟨w0, _⟩ := hv.2 j (by omega)
        rw [y_bk_an, y_bk_an, y_bk_and, all1 _ w0, come j (by omega) r _ y_hb_a, Nat.mul_one]
      · obtain ⟨w0, w1, _⟩ := hv.2 j (by omega)
        rw [y_bk_an, y_bk_an, y_bk_and, all1 _ (by omega), come j (by omega) r _ (y_hb_o y0), Nat.mul_one]
    have F0 : y_run b (y_dg b (b 8)) (y_pq b p) (y_bk k) 0 (y_gs b) 0 + y_run b (y_dg b (b 8)) (y_pq b p2) (y_bk (y_anb (N - 1) k)) 0 (y_gs b) 0 = y_FF b (y_dg b (b 8)) (y_pq b p) (y_pq b p2) (y_gs b) c k := by
      rw [e1, e2]; rfl
    obtain ⟨τ', g1, g2⟩ := ih (k + 1) fu τ3 (by omega) (by omega) b2
    unfold p_X12_two_57
    simp only [j_lt]
    rw [if_pos (show ¬ nI (N - 1) < nI k by rw [y_lt (by omega) (by omega)]; omega), a1, j_b2_s, y_anI, b1, j_b2_s, nI_add, F0, show nI k + (1 : Int32) = nI (k + 1) by simp (disch := omega) only [y_lit, nI_add]]
    refine ⟨τ', ?_, y_fm.trans (y_fm.trans a3 b3) g2⟩
    have fbk := Fb k
    rw [y_G_s] at g1
    by_cases t : (y_G (y_FF b (y_dg b (b 8)) (y_pq b p) (y_pq b p2) (y_gs b) c) k).1 < y_FF b (y_dg b (b 8)) (y_pq b p) (y_pq b p2) (y_gs b) c k + 1
    · rw [if_pos t] at g1
      simp only [y_nPs] at g1
      rw [if_neg (fun z => z (by rw [y_ltP (by omega) (by omega)]; exact t))]
      exact g1
    · rw [if_neg t] at g1
      rw [if_pos (show ¬ nP _ < nI _ by rw [y_ltP (by omega) (by omega)]; exact t)]
      exact g1
end T
section Z
variable {σ τ : j_G}
theorem z_two (hR : j_Rel σ τ) (a1 a2 a3 : Int32) : ∃ v σ1 τ1, f_X11_two a1 a2 a3 σ = some (v, σ1) ∧ f_X12_two a1 a2 a3 τ = some (v, τ1) ∧ j_Rel σ1 τ1 := by
  obtain ⟨b, hW, hN, hM, hK⟩ := id hR
  have ho := hW.ho
  have i1 : ¬ nI 1 = (0 : Int32) := by decide
  have F0 : nI 0 = (0 : Int32) := rfl
  have ein : f_X12_in a3.toInt64 (0 : Int64) (1 : Int64) = if ¬ a3 < nI 0 ∧ ¬ nI 1 < a3 then nI 1 else nI 0 := by
    rw [show (0 : Int64) = (nI 0).toInt64 from rfl, show (1 : Int64) = (nI 1).toInt64 from rfl, y_in]
  by_cases hx : y_rg a1 (b 6)
  · by_cases c : ¬ a3 < nI 0 ∧ ¬ nI 1 < a3 ∧ ¬ a1 = a2 ∧ y_rg a2 (b 6)
    · obtain ⟨c1, c2, c3, hy⟩ := c
      obtain ⟨p, hp, rfl⟩ := y_of _ _ hx.1 hx.2
      obtain ⟨p2, hp2, rfl⟩ := y_of _ _ hy.1 hy.2
      have h9 := hW.on0 (Or.inr (Or.inr (Or.inr (Or.inl (by omega : 0 < b 6)))))
      have hv := y_dg_vg hW (b 8)
      have pw : 2 ^ y_ho b ≤ 2 ^ 12 := Nat.pow_le_pow_right (by omega) ho
      have pw1 : 1 ≤ 2 ^ y_ho b := Nat.one_le_two_pow
      have cN := y_gh_lt hv (y_gs b) 0 0 (by omega) (by omega)
      obtain ⟨σ1, a1, ⟨a2, a3', a4⟩, a5⟩ := yc_ready hN hW hp
      obtain ⟨σ3, d1, d2, d3⟩ := yc_take a2 hW hp2 (a := 29) (by omega)
      have hg3 : y_cg σ3 b (y_gs b) (y_dg b (b 8)) := a3'.fr d3 (by omega)
      obtain ⟨σ8, g1, g2⟩ := tt_77v (x := a3) hW h9 hv (y_pqv hW hp) (y_pqv hW hp2) cN (by omega) (2 ^ y_ho b) 0 j_F σ3 (by omega) (y_F (by omega)) (a2.fr d3 (by omega)) hg3 (a4.fr d3 (by omega)) d2
      obtain ⟨τ1, e1, e2, e3⟩ := ym_laid hM hW
      obtain ⟨τ8, k1, k2⟩ := tu_57v (z := a3) hW hp hp2 rfl rfl (2 ^ y_ho b) 0 j_F τ1 (by omega) (y_F (by omega)) e2
      have f8 : y_fr 22 41 σ σ8 := a5.trans ((d3.wide (by omega) (by omega) : y_fr 22 41 σ1 σ3).trans (g2.wide (by omega) (by omega)))
      have es : ((1 : Int32) <<< (nI (y_ho b) &&& 31)) - (1 : Int32) = nI (2 ^ y_ho b - 1) := by
        rw [show (1 : Int32) = nI 1 from rfl, show (31 : Int32) = nI 31 from rfl, y_shl (by omega), pk_sub pw1]
      have g1' : p_X11_two_77 a3 (nI (y_gh (y_dg b (b 8)) (y_gs b) 0 0)) (nI (y_gi (y_dg b (b 8)) (y_gs b) (y_gh (y_dg b (b 8)) (y_gs b) 0 0))) j_F (-1 : Int32) (0 : Int32) (0 : Int32) σ3 = some (nP (y_G (y_FF b (y_dg b (b 8)) (y_pq b p) (y_pq b p2) (y_gs b) (y_gh (y_dg b (b 8)) (y_gs b) 0 0)) (2 ^ y_ho b)).1, nI (y_G (y_FF b (y_dg b (b 8)) (y_pq b p) (y_pq b p2) (y_gs b) (y_gh (y_dg b (b 8)) (y_gs b) 0 0)) (2 ^ y_ho b)).2, σ8) := by rw [y_m1]; exact g1
      have k1' : p_X12_two_57 (nI p) (nI p2) a3 (nI (2 ^ y_ho b - 1)) j_F (0 : Int32) (-1 : Int32) (0 : Int32) τ1 = some (nI (y_G (y_FF b (y_dg b (b 8)) (y_pq b p) (y_pq b p2) (y_gs b) (y_gh (y_dg b (b 8)) (y_gs b) 0 0)) (2 ^ y_ho b)).2, nP (y_G (y_FF b (y_dg b (b 8)) (y_pq b p) (y_pq b p2) (y_gs b) (y_gh (y_dg b (b 8)) (y_gs b) 0 0)) (2 ^ y_ho b)).1, τ8) := by rw [y_m1]; exact k1
      have mc : f_X11_two (nI p) (nI p2) a3 σ = if a3 = 0 then some (nP (y_G (y_FF b (y_dg b (b 8)) (y_pq b p) (y_pq b p2) (y_gs b) (y_gh (y_dg b (b 8)) (y_gs b) 0 0)) (2 ^ y_ho b)).1, σ8) else some (nI (y_G (y_FF b (y_dg b (b 8)) (y_pq b p) (y_pq b p2) (y_gs b) (y_gh (y_dg b (b 8)) (y_gs b) 0 0)) (2 ^ y_ho b)).2, σ8) := by
        unfold f_X11_two
        rw [yc_isPlayer hN hW, if_pos (show ¬ a3 < 0 ∧ ¬ (1 : Int32) < a3 ∧ ¬ nI p = nI p2 ∧ ¬ (if y_rg (nI p2) (b 6) then nI 1 else nI 0) = (0 : Int32) from ⟨c1, c2, c3, by rw [if_pos hy]; exact i1⟩), a1, j_b2_s, if_neg i1, d1, j_b1_s, tt_ghv hg3 hv hW, j_b1_s, tt_giv hg3 hv hW, j_b1_s, g1', j_b3_s]
      have mm : f_X12_two (nI p) (nI p2) a3 τ = if a3 = 0 then some (nP (y_G (y_FF b (y_dg b (b 8)) (y_pq b p) (y_pq b p2) (y_gs b) (y_gh (y_dg b (b 8)) (y_gs b) 0 0)) (2 ^ y_ho b)).1, τ8) else some (nI (y_G (y_FF b (y_dg b (b 8)) (y_pq b p) (y_pq b p2) (y_gs b) (y_gh (y_dg b (b 8)) (y_gs b) 0 0)) (2 ^ y_ho b)).2, τ8) := by
        unfold f_X12_two
        simp only [j_lt]
        rw [ym_isPlayer hM hW, j_b1_s, if_pos hx, if_pos i1, ym_isPlayer hM hW, j_b1_s, if_pos hy, ein, if_neg (show ¬ (nI 1 = (0 : Int32) ∨ nI p = nI p2 ∨ (if ¬ a3 < nI 0 ∧ ¬ nI 1 < a3 then nI 1 else nI 0) = (0 : Int32)) from fun z => by
          rw [if_pos (show ¬ a3 < nI 0 ∧ ¬ nI 1 < a3 from ⟨c1, c2⟩)] at z
          rcases z with z | z | z
          · exact i1 z
          · exact c3 z
          · exact i1 z), e1, j_b1_s, ym_holes e2.1, j_b1_s, es, k1', j_b3_s]
      rw [mc, mm]
      by_cases r : a3 = 0
      · rw [if_pos r, if_pos r]; exact ⟨_, _, _, rfl, rfl, y_done hR f8 (y_fm.trans e3 k2)⟩
      · rw [if_neg r, if_neg r]; exact ⟨_, _, _, rfl, rfl, y_done hR f8 (y_fm.trans e3 k2)⟩
    · refine ⟨-2, σ, τ, ?_, ?_, hR⟩
      · unfold f_X11_two
        rw [yc_isPlayer hN hW, if_neg]
        rintro ⟨z1, z2, z3, z4⟩
        apply c
        refine ⟨z1, z2, z3, ?_⟩
        by_cases hy : y_rg a2 (b 6)
        · exact hy
        · exact absurd (if_neg hy) z4
      · unfold f_X12_two
        simp only [j_lt]
        rw [ym_isPlayer hM hW, j_b1_s, if_pos hx, if_pos i1, ym_isPlayer hM hW, j_b1_s, ein, if_pos]
        by_cases hy : y_rg a2 (b 6)
        · by_cases h3 : a1 = a2
          · exact Or.inr (Or.inl h3)
          · refine Or.inr (Or.inr (if_neg (fun z => c ⟨z.1, z.2, h3, hy⟩)))
        · exact Or.inl (if_neg hy)
  · refine ⟨-2, σ, τ, ?_, ?_, hR⟩
    · unfold f_X11_two
      by_cases c : ¬ a3 < 0 ∧ ¬ (1 : Int32) < a3 ∧ ¬ a1 = a2 ∧ ¬ f_X2_isPlayer a2 σ = 0
      · rw [if_pos c, yc_unready hN hW hx, j_b2_s, if_pos F0]
      · rw [if_neg c]
    · unfold f_X12_two
      simp only [j_lt]
      rw [ym_isPlayer hM hW, j_b1_s, if_neg hx, if_neg (show ¬ ¬ nI 0 = (0 : Int32) from fun z => z rfl)]
end Z
/-! ===== the facts ===== -/
theorem s_feed {σ τ : j_G} (hR : j_Rel σ τ) (a1 : Int32) (a2 : Int32) (a3 : Int32) (a4 : Int32) (a5 : Int32) : ∃ vx : Int32, ∃ σ1 : j_G, f_X11_feed a1 a2 a3 a4 a5 σ = some (vx, σ1) ∧ ∃ vm : Int32, ∃ τ1 : j_G, f_X12_feed a1 a2 a3 a4 a5 τ = some (vm, τ1) ∧ j_Rel σ1 τ1 := by
  obtain ⟨v, σ1, τ1, e1, e2, r⟩ := z_feed hR a1 a2 a3 a4 a5
  exact ⟨v, σ1, e1, v, τ1, e2, r⟩
theorem s_end {σ τ : j_G} (hR : j_Rel σ τ) (a1 : Int32) : ∃ vx : Int32, ∃ σ1 : j_G, f_X11_end a1 σ = some (vx, σ1) ∧ ∃ vm : Int32, ∃ τ1 : j_G, f_X12_end a1 τ = some (vm, τ1) ∧ j_Rel σ1 τ1 := by
  obtain ⟨v, σ1, τ1, e1, e2, r⟩ := z_end hR a1
  exact ⟨v, σ1, e1, v, τ1, e2, r⟩
theorem s_board {σ τ : j_G} (hR : j_Rel σ τ) : ∃ vx : Int32, ∃ σ1 : j_G, f_X11_board σ = some (vx, σ1) ∧ ∃ vm : Int32, ∃ τ1 : j_G, f_X12_board τ = some (vm, τ1) ∧ j_Rel σ1 τ1 := by
  obtain ⟨v, σ1, τ1, e1, e2, r⟩ := z_board hR
  exact ⟨v, σ1, e1, v, τ1, e2, r⟩
theorem s_fault {σ τ : j_G} (hR : j_Rel σ τ) (a1 : Int32) : ∃ vx : Int32, f_X11_fault a1 σ = vx ∧ ∃ vm : Int32, f_X12_fault a1 τ = vm ∧ j_Rel σ τ := by
  exact ⟨_, rfl, _, rfl, hR⟩
theorem s_drum {σ τ : j_G} (hR : j_Rel σ τ) (a1 : Int32) (a2 : Int32) : ∃ vx : Int32, f_X11_drum a1 a2 σ = some vx ∧ ∃ vm : Int32, f_X12_drum a1 a2 τ = some vm ∧ j_Rel σ τ := by
  obtain ⟨v, e1, e2⟩ := z_drum hR a1 a2
  exact ⟨v, e1, v, e2, hR⟩
theorem s_player {σ τ : j_G} (hR : j_Rel σ τ) (a1 : Int32) (a2 : Int32) : ∃ vx : Int32, f_X11_player a1 a2 σ = some vx ∧ ∃ vm : Int32, f_X12_player a1 a2 τ = some vm ∧ j_Rel σ τ := by
  obtain ⟨v, e1, e2⟩ := z_player hR a1 a2
  exact ⟨v, e1, v, e2, hR⟩
theorem s_stay {σ τ : j_G} (hR : j_Rel σ τ) (a1 : Int32) : ∃ vx : Int32, f_X11_stay a1 σ = some vx ∧ ∃ vm : Int32, f_X12_stay a1 τ = some vm ∧ j_Rel σ τ := by
  obtain ⟨v, e1, e2⟩ := z_stay hR a1
  exact ⟨v, e1, v, e2, hR⟩
theorem s_comings {σ τ : j_G} (hR : j_Rel σ τ) : ∃ vx : Int32, ∃ σ1 : j_G, f_X11_comings σ = some (vx, σ1) ∧ ∃ vm : Int32, ∃ τ1 : j_G, f_X12_comings τ = some (vm, τ1) ∧ j_Rel σ1 τ1 := by
  obtain ⟨v, σ1, τ1, e1, e2, r⟩ := z_comings hR
  exact ⟨v, σ1, e1, v, τ1, e2, r⟩
theorem s_comes {σ τ : j_G} (hR : j_Rel σ τ) (a1 : Int32) (a2 : Int32) : ∃ vx : Int32, ∃ σ1 : j_G, f_X11_comes a1 a2 σ = some (vx, σ1) ∧ ∃ vm : Int32, ∃ τ1 : j_G, f_X12_comes a1 a2 τ = some (vm, τ1) ∧ j_Rel σ1 τ1 := by
  obtain ⟨v, σ1, τ1, e1, e2, r⟩ := z_comes hR a1 a2
  exact ⟨v, σ1, e1, v, τ1, e2, r⟩
theorem s_up {σ τ : j_G} (hR : j_Rel σ τ) (a1 : Int32) : ∃ vx : Int32, ∃ σ1 : j_G, f_X11_up a1 σ = some (vx, σ1) ∧ ∃ vm : Int32, ∃ τ1 : j_G, f_X12_up a1 τ = some (vm, τ1) ∧ j_Rel σ1 τ1 := by
  obtain ⟨v, σ1, τ1, e1, e2, r⟩ := z_up hR a1
  exact ⟨v, σ1, e1, v, τ1, e2, r⟩
theorem s_calm {σ τ : j_G} (hR : j_Rel σ τ) : ∃ vx : Int32, ∃ σ1 : j_G, f_X11_calm σ = some (vx, σ1) ∧ ∃ vm : Int32, ∃ τ1 : j_G, f_X12_calm τ = some (vm, τ1) ∧ j_Rel σ1 τ1 := by
  obtain ⟨v, σ1, τ1, e1, e2, r⟩ := z_calm hR
  exact ⟨v, σ1, e1, v, τ1, e2, r⟩
theorem s_steps {σ τ : j_G} (hR : j_Rel σ τ) (a1 : Int32) (a2 : Int32) : ∃ vx : Int32, f_X11_steps a1 a2 σ = some vx ∧ ∃ vm : Int32, f_X12_steps a1 a2 τ = some vm ∧ j_Rel σ τ := by
  obtain ⟨v, e1, e2⟩ := z_steps hR a1 a2
  exact ⟨v, e1, v, e2, hR⟩
theorem s_pace {σ τ : j_G} (hR : j_Rel σ τ) (a1 : Int32) (a2 : Int32) : ∃ vx : Int32, ∃ σ1 : j_G, f_X11_pace a1 a2 σ = some (vx, σ1) ∧ ∃ vm : Int32, f_X12_pace a1 a2 τ = some vm ∧ j_Rel σ1 τ := by
  obtain ⟨v, σ1, e1, e2, r⟩ := z_pace hR a1 a2
  exact ⟨v, σ1, e1, v, e2, r⟩
theorem s_aware {σ τ : j_G} (hR : j_Rel σ τ) (a1 : Int32) (a2 : Int32) : ∃ vx : Int32, ∃ σ1 : j_G, f_X11_aware a1 a2 σ = some (vx, σ1) ∧ ∃ vm : Int32, ∃ τ1 : j_G, f_X12_aware a1 a2 τ = some (vm, τ1) ∧ j_Rel σ1 τ1 := by
  obtain ⟨v, σ1, τ1, e1, e2, r⟩ := z_aware hR a1 a2
  exact ⟨v, σ1, e1, v, τ1, e2, r⟩
theorem s_hits {σ τ : j_G} (hR : j_Rel σ τ) (a1 : Int32) : ∃ vx : Int32, ∃ σ1 : j_G, f_X11_hits a1 σ = some (vx, σ1) ∧ ∃ vm : Int32, ∃ τ1 : j_G, f_X12_hits a1 τ = some (vm, τ1) ∧ j_Rel σ1 τ1 := by
  obtain ⟨v, σ1, τ1, e1, e2, r⟩ := z_hits hR a1
  exact ⟨v, σ1, e1, v, τ1, e2, r⟩
theorem s_hit {σ τ : j_G} (hR : j_Rel σ τ) (a1 : Int32) (a2 : Int32) : ∃ vx : Int32, ∃ σ1 : j_G, f_X11_hit a1 a2 σ = some (vx, σ1) ∧ ∃ vm : Int32, ∃ τ1 : j_G, f_X12_hit a1 a2 τ = some (vm, τ1) ∧ j_Rel σ1 τ1 := by
  obtain ⟨v, σ1, τ1, e1, e2, r⟩ := z_hit hR a1 a2
  exact ⟨v, σ1, e1, v, τ1, e2, r⟩
theorem s_twice {σ τ : j_G} (hR : j_Rel σ τ) (a1 : Int32) (a2 : Int32) : ∃ vx : Int32, ∃ σ1 : j_G, f_X11_twice a1 a2 σ = some (vx, σ1) ∧ ∃ vm : Int32, ∃ τ1 : j_G, f_X12_twice a1 a2 τ = some (vm, τ1) ∧ j_Rel σ1 τ1 := by
  obtain ⟨v, σ1, τ1, e1, e2, r⟩ := z_twice hR a1 a2
  exact ⟨v, σ1, e1, v, τ1, e2, r⟩
theorem s_where {σ τ : j_G} (hR : j_Rel σ τ) (a1 : Int32) (a2 : Int32) : ∃ vx : Int32, ∃ σ1 : j_G, f_X11_where a1 a2 σ = some (vx, σ1) ∧ ∃ vm : Int32, ∃ τ1 : j_G, f_X12_where a1 a2 τ = some (vm, τ1) ∧ j_Rel σ1 τ1 := by
  obtain ⟨v, σ1, τ1, e1, e2, r⟩ := z_where hR a1 a2
  exact ⟨v, σ1, e1, v, τ1, e2, r⟩
theorem s_missed {σ τ : j_G} (hR : j_Rel σ τ) (a1 : Int32) : ∃ vx : Int32, ∃ σ1 : j_G, f_X11_missed a1 σ = some (vx, σ1) ∧ ∃ vm : Int32, ∃ τ1 : j_G, f_X12_missed a1 τ = some (vm, τ1) ∧ j_Rel σ1 τ1 := by
  obtain ⟨v, σ1, τ1, e1, e2, r⟩ := z_missed hR a1
  exact ⟨v, σ1, e1, v, τ1, e2, r⟩
theorem s_walked {σ τ : j_G} (hR : j_Rel σ τ) (a1 : Int32) : ∃ vx : Int32, ∃ σ1 : j_G, f_X11_walked a1 σ = some (vx, σ1) ∧ ∃ vm : Int32, ∃ τ1 : j_G, f_X12_walked a1 τ = some (vm, τ1) ∧ j_Rel σ1 τ1 := by
  obtain ⟨v, σ1, τ1, e1, e2, r⟩ := z_walked hR a1
  exact ⟨v, σ1, e1, v, τ1, e2, r⟩
theorem s_best {σ τ : j_G} (hR : j_Rel σ τ) (a1 : Int32) : ∃ vx : Int32, ∃ σ1 : j_G, f_X11_best a1 σ = some (vx, σ1) ∧ ∃ vm : Int32, ∃ τ1 : j_G, f_X12_best a1 τ = some (vm, τ1) ∧ j_Rel σ1 τ1 := by
  obtain ⟨v, σ1, τ1, e1, e2, r⟩ := z_best hR a1
  exact ⟨v, σ1, e1, v, τ1, e2, r⟩
theorem s_ahead {σ τ : j_G} (hR : j_Rel σ τ) (a1 : Int32) (a2 : Int32) : ∃ vx : Int32, ∃ σ1 : j_G, f_X11_ahead a1 a2 σ = some (vx, σ1) ∧ ∃ vm : Int32, ∃ τ1 : j_G, f_X12_ahead a1 a2 τ = some (vm, τ1) ∧ j_Rel σ1 τ1 := by
  obtain ⟨v, σ1, τ1, e1, e2, r⟩ := z_ahead hR a1 a2
  exact ⟨v, σ1, e1, v, τ1, e2, r⟩
theorem s_learns {σ τ : j_G} (hR : j_Rel σ τ) (a1 : Int32) (a2 : Int32) : ∃ vx : Int32, ∃ σ1 : j_G, f_X11_learns a1 a2 σ = some (vx, σ1) ∧ ∃ vm : Int32, ∃ τ1 : j_G, f_X12_learns a1 a2 τ = some (vm, τ1) ∧ j_Rel σ1 τ1 := by
  obtain ⟨v, σ1, τ1, e1, e2, r⟩ := z_learns hR a1 a2
  exact ⟨v, σ1, e1, v, τ1, e2, r⟩
theorem s_enough {σ τ : j_G} (hR : j_Rel σ τ) (a1 : Int32) : ∃ vx : Int32, ∃ σ1 : j_G, f_X11_enough a1 σ = some (vx, σ1) ∧ ∃ vm : Int32, ∃ τ1 : j_G, f_X12_enough a1 τ = some (vm, τ1) ∧ j_Rel σ1 τ1 := by
  obtain ⟨v, σ1, τ1, e1, e2, r⟩ := z_enough hR a1
  exact ⟨v, σ1, e1, v, τ1, e2, r⟩
theorem s_waits {σ τ : j_G} (hR : j_Rel σ τ) (a1 : Int32) (a2 : Int32) : ∃ vx : Int32, ∃ σ1 : j_G, f_X11_waits a1 a2 σ = some (vx, σ1) ∧ ∃ vm : Int32, ∃ τ1 : j_G, f_X12_waits a1 a2 τ = some (vm, τ1) ∧ j_Rel σ1 τ1 := by
  obtain ⟨v, σ1, τ1, e1, e2, r⟩ := z_waits hR a1 a2
  exact ⟨v, σ1, e1, v, τ1, e2, r⟩
theorem s_mean {σ τ : j_G} (hR : j_Rel σ τ) (a1 : Int32) (a2 : Int32) : ∃ vx : Int32, f_X11_mean a1 a2 σ = some vx ∧ ∃ vm : Int32, f_X12_mean a1 a2 τ = some vm ∧ j_Rel σ τ := by
  obtain ⟨v, w, e1, e2⟩ := z_mean hR a1 a2
  exact ⟨v, e1, w, e2, hR⟩
theorem s_middle {σ τ : j_G} (hR : j_Rel σ τ) (a1 : Int32) : ∃ vx : Int32, f_X11_middle a1 σ = some vx ∧ ∃ vm : Int32, f_X12_middle a1 τ = some vm ∧ j_Rel σ τ := by
  obtain ⟨v, e1, e2⟩ := z_middle hR a1
  exact ⟨v, e1, v, e2, hR⟩
theorem s_reach {σ τ : j_G} (hR : j_Rel σ τ) (a1 : Int32) (a2 : Int32) : ∃ vx : Int32, ∃ σ1 : j_G, f_X11_reach a1 a2 σ = some (vx, σ1) ∧ ∃ vm : Int32, f_X12_reach a1 a2 τ = some vm ∧ j_Rel σ1 τ := by
  obtain ⟨v, σ1, e1, e2, r⟩ := z_reach hR a1 a2
  exact ⟨v, σ1, e1, v, e2, r⟩
theorem s_post {σ τ : j_G} (hR : j_Rel σ τ) (a1 : Int32) : ∃ vx : Int32, ∃ σ1 : j_G, f_X11_post a1 σ = some (vx, σ1) ∧ ∃ vm : Int32, f_X12_post a1 τ = some vm ∧ j_Rel σ1 τ := by
  obtain ⟨v, σ1, e1, e2, r⟩ := z_post hR a1
  exact ⟨v, σ1, e1, v, e2, r⟩
theorem s_slack {σ τ : j_G} (hR : j_Rel σ τ) (a1 : Int32) : ∃ vx : Int32, ∃ σ1 : j_G, f_X11_slack a1 σ = some (vx, σ1) ∧ ∃ vm : Int32, ∃ τ1 : j_G, f_X12_slack a1 τ = some (vm, τ1) ∧ j_Rel σ1 τ1 := by
  obtain ⟨v, σ1, τ1, e1, e2, r⟩ := z_slack hR a1
  exact ⟨v, σ1, e1, v, τ1, e2, r⟩
theorem s_rows {σ τ : j_G} (hR : j_Rel σ τ) (a1 : Int32) (a2 : Int32) : ∃ vx : Int64, ∃ σ1 : j_G, f_X11_rows a1 a2 σ = some (vx, σ1) ∧ ∃ vm : Int64, ∃ τ1 : j_G, f_X12_rows a1 a2 τ = some (vm, τ1) ∧ j_Rel σ1 τ1 := by
  obtain ⟨v, σ1, τ1, e1, e2, r⟩ := z_rows hR a1 a2
  exact ⟨v, σ1, e1, v, τ1, e2, r⟩
theorem s_ends {σ τ : j_G} (hR : j_Rel σ τ) (a1 : Int32) (a2 : Int32) (a3 : Int32) : ∃ vx : Int64, ∃ σ1 : j_G, f_X11_ends a1 a2 a3 σ = some (vx, σ1) ∧ ∃ vm : Int64, ∃ τ1 : j_G, f_X12_ends a1 a2 a3 τ = some (vm, τ1) ∧ j_Rel σ1 τ1 := by
  obtain ⟨v, σ1, τ1, e1, e2, r⟩ := z_ends hR a1 a2 a3
  exact ⟨v, σ1, e1, v, τ1, e2, r⟩
theorem s_fair {σ τ : j_G} (hR : j_Rel σ τ) (a1 : Int32) : ∃ vx : Int32, ∃ σ1 : j_G, f_X11_fair a1 σ = some (vx, σ1) ∧ ∃ vm : Int32, ∃ τ1 : j_G, f_X12_fair a1 τ = some (vm, τ1) ∧ j_Rel σ1 τ1 := by
  obtain ⟨v, σ1, τ1, e1, e2, r⟩ := z_fair hR a1
  exact ⟨v, σ1, e1, v, τ1, e2, r⟩
theorem s_breaks {σ τ : j_G} (hR : j_Rel σ τ) (a1 : Int32) : ∃ vx : Int32, f_X11_breaks a1 σ = some vx ∧ ∃ vm : Int32, f_X12_breaks a1 τ = some vm ∧ j_Rel σ τ := by
  obtain ⟨v, e1, e2⟩ := z_breaks hR a1
  exact ⟨v, e1, v, e2, hR⟩
theorem s_period {σ τ : j_G} (hR : j_Rel σ τ) (a1 : Int32) : ∃ vx : Int32, f_X11_period a1 σ = some vx ∧ ∃ vm : Int32, f_X12_period a1 τ = some vm ∧ j_Rel σ τ := by
  obtain ⟨v, e1, e2⟩ := z_period hR a1
  exact ⟨v, e1, v, e2, hR⟩
theorem s_periods {σ τ : j_G} (hR : j_Rel σ τ) (a1 : Int32) : ∃ vx : Int32, f_X11_periods a1 σ = some vx ∧ ∃ vm : Int32, f_X12_periods a1 τ = some vm ∧ j_Rel σ τ := by
  obtain ⟨v, e1, e2⟩ := z_periods hR a1
  exact ⟨v, e1, v, e2, hR⟩
theorem s_luck {σ τ : j_G} (hR : j_Rel σ τ) (a1 : Int32) : ∃ vx : Int32, f_X11_luck a1 σ = some vx ∧ ∃ vm : Int32, f_X12_luck a1 τ = some vm ∧ j_Rel σ τ := by
  obtain ⟨v, e1, e2⟩ := z_luck hR a1
  exact ⟨v, e1, v, e2, hR⟩
theorem s_fits {σ τ : j_G} (hR : j_Rel σ τ) (a1 : Int32) : ∃ vx : Int32, f_X11_fits a1 σ = some vx ∧ ∃ vm : Int32, f_X12_fits a1 τ = some vm ∧ j_Rel σ τ := by
  obtain ⟨v, e1, e2⟩ := z_fits hR a1
  exact ⟨v, e1, v, e2, hR⟩
theorem s_place {σ τ : j_G} (hR : j_Rel σ τ) (a1 : Int32) (a2 : Int32) : ∃ vx : Int32, f_X11_place a1 a2 σ = some vx ∧ ∃ vm : Int32, f_X12_place a1 a2 τ = some vm ∧ j_Rel σ τ := by
  obtain ⟨v, e1, e2⟩ := z_place hR a1 a2
  exact ⟨v, e1, v, e2, hR⟩
theorem s_next {σ τ : j_G} (hR : j_Rel σ τ) (a1 : Int32) : ∃ vx : Int32, f_X11_next a1 σ = some vx ∧ ∃ vm : Int32, f_X12_next a1 τ = some vm ∧ j_Rel σ τ := by
  obtain ⟨v, e1, e2⟩ := z_next hR a1
  exact ⟨v, e1, v, e2, hR⟩
theorem s_needed {σ τ : j_G} (hR : j_Rel σ τ) (a1 : Int32) : ∃ vx : Int32, f_X11_needed a1 σ = some vx ∧ ∃ vm : Int32, f_X12_needed a1 τ = some vm ∧ j_Rel σ τ := by
  obtain ⟨v, e1, e2⟩ := z_needed hR a1
  exact ⟨v, e1, v, e2, hR⟩
theorem s_known {σ τ : j_G} (hR : j_Rel σ τ) : ∃ vx : Int32, f_X11_known σ = some vx ∧ ∃ vm : Int32, f_X12_known τ = some vm ∧ j_Rel σ τ := by
  obtain ⟨v, e1, e2⟩ := z_known hR
  exact ⟨v, e1, v, e2, hR⟩
theorem s_rash {σ τ : j_G} (hR : j_Rel σ τ) (a1 : Int32) : ∃ vx : Int32, ∃ σ1 : j_G, f_X11_rash a1 σ = some (vx, σ1) ∧ ∃ vm : Int32, ∃ τ1 : j_G, f_X12_rash a1 τ = some (vm, τ1) ∧ j_Rel σ1 τ1 := by
  obtain ⟨v, σ1, τ1, e1, e2, r⟩ := z_rash hR a1
  exact ⟨v, σ1, e1, v, τ1, e2, r⟩
theorem s_look {σ τ : j_G} (hR : j_Rel σ τ) (a1 : Int32) (a2 : Int32) : ∃ vx : Int32, ∃ σ1 : j_G, f_X11_look a1 a2 σ = some (vx, σ1) ∧ ∃ vm : Int32, ∃ τ1 : j_G, f_X12_look a1 a2 τ = some (vm, τ1) ∧ j_Rel σ1 τ1 := by
  obtain ⟨v, σ1, τ1, e1, e2, r⟩ := z_look hR a1 a2
  exact ⟨v, σ1, e1, v, τ1, e2, r⟩
theorem s_line {σ τ : j_G} (hR : j_Rel σ τ) (a1 : Int32) : ∃ vx : Int32, ∃ σ1 : j_G, f_X11_line a1 σ = some (vx, σ1) ∧ ∃ vm : Int32, ∃ τ1 : j_G, f_X12_line a1 τ = some (vm, τ1) ∧ j_Rel σ1 τ1 := by
  obtain ⟨v, σ1, τ1, e1, e2, r⟩ := z_line hR a1
  exact ⟨v, σ1, e1, v, τ1, e2, r⟩
theorem s_two {σ τ : j_G} (hR : j_Rel σ τ) (a1 : Int32) (a2 : Int32) (a3 : Int32) : ∃ vx : Int32, ∃ σ1 : j_G, f_X11_two a1 a2 a3 σ = some (vx, σ1) ∧ ∃ vm : Int32, ∃ τ1 : j_G, f_X12_two a1 a2 a3 τ = some (vm, τ1) ∧ j_Rel σ1 τ1 ∧ vx = vm := by
  obtain ⟨v, σ1, τ1, e1, e2, r⟩ := z_two hR a1 a2 a3
  exact ⟨v, σ1, e1, v, τ1, e2, r, rfl⟩
theorem s_tickets {σ τ : j_G} (hR : j_Rel σ τ) (a1 : Int32) : ∃ vx : Int32, ∃ σ1 : j_G, f_X11_tickets a1 σ = some (vx, σ1) ∧ ∃ vm : Int32, ∃ τ1 : j_G, f_X12_tickets a1 τ = some (vm, τ1) ∧ j_Rel σ1 τ1 := by
  obtain ⟨v, σ1, τ1, e1, e2, r⟩ := z_tickets hR a1
  exact ⟨v, σ1, e1, v, τ1, e2, r⟩
theorem s_prize {σ τ : j_G} (hR : j_Rel σ τ) (a1 : Int32) : ∃ vx : Int32, ∃ σ1 : j_G, f_X11_prize a1 σ = some (vx, σ1) ∧ ∃ vm : Int32, ∃ τ1 : j_G, f_X12_prize a1 τ = some (vm, τ1) ∧ j_Rel σ1 τ1 := by
  obtain ⟨v, σ1, τ1, e1, e2, r⟩ := z_prize hR a1
  exact ⟨v, σ1, e1, v, τ1, e2, r⟩
theorem s_counted {σ τ : j_G} (hR : j_Rel σ τ) (a1 : Int32) : ∃ vx : Int32, ∃ σ1 : j_G, f_X11_counted a1 σ = some (vx, σ1) ∧ ∃ vm : Int32, ∃ τ1 : j_G, f_X12_counted a1 τ = some (vm, τ1) ∧ j_Rel σ1 τ1 := by
  obtain ⟨v, σ1, τ1, e1, e2, r⟩ := z_counted hR a1
  exact ⟨v, σ1, e1, v, τ1, e2, r⟩
theorem s_scored {σ τ : j_G} (hR : j_Rel σ τ) (a1 : Int32) : ∃ vx : Int32, ∃ σ1 : j_G, f_X11_scored a1 σ = some (vx, σ1) ∧ ∃ vm : Int32, ∃ τ1 : j_G, f_X12_scored a1 τ = some (vm, τ1) ∧ j_Rel σ1 τ1 := by
  obtain ⟨v, σ1, τ1, e1, e2, r⟩ := z_scored hR a1
  exact ⟨v, σ1, e1, v, τ1, e2, r⟩
theorem s_early {σ τ : j_G} (hR : j_Rel σ τ) (a1 : Int32) (a2 : Int32) : ∃ vx : Int32, ∃ σ1 : j_G, f_X11_early a1 a2 σ = some (vx, σ1) ∧ ∃ vm : Int32, ∃ τ1 : j_G, f_X12_early a1 a2 τ = some (vm, τ1) ∧ j_Rel σ1 τ1 := by
  obtain ⟨v, σ1, τ1, e1, e2, r⟩ := z_early hR a1 a2
  exact ⟨v, σ1, e1, v, τ1, e2, r⟩
theorem s_often {σ τ : j_G} (hR : j_Rel σ τ) (a1 : Int32) : ∃ vx : Int32, f_X11_often a1 σ = some vx ∧ ∃ vm : Int32, f_X12_often a1 τ = some vm ∧ j_Rel σ τ := by
  obtain ⟨v, e1, e2⟩ := z_often hR a1
  exact ⟨v, e1, v, e2, hR⟩
theorem s_balance {σ τ : j_G} (hR : j_Rel σ τ) : ∃ vx : Int32, f_X11_balance σ = some vx ∧ ∃ vm : Int32, f_X12_balance τ = some vm ∧ j_Rel σ τ := by
  obtain ⟨v, e1, e2⟩ := z_balance hR
  exact ⟨v, e1, v, e2, hR⟩
theorem s_path {σ τ : j_G} (hR : j_Rel σ τ) : ∃ vx : Int32, f_X11_path σ = some vx ∧ ∃ vm : Int32, f_X12_path τ = some vm ∧ j_Rel σ τ := by
  obtain ⟨v, e1, e2⟩ := z_path hR
  exact ⟨v, e1, v, e2, hR⟩
theorem s_better {σ τ : j_G} (hR : j_Rel σ τ) (a1 : Int32) : ∃ vx : Int32, ∃ σ1 : j_G, f_X11_better a1 σ = some (vx, σ1) ∧ ∃ vm : Int32, ∃ τ1 : j_G, f_X12_better a1 τ = some (vm, τ1) ∧ j_Rel σ1 τ1 := by
  obtain ⟨v, σ1, τ1, e1, e2, r⟩ := z_better hR a1
  exact ⟨v, σ1, e1, v, τ1, e2, r⟩
theorem s_swap {σ τ : j_G} (hR : j_Rel σ τ) (a1 : Int32) (a2 : Int32) : ∃ vx : Int32, ∃ σ1 : j_G, f_X11_swap a1 a2 σ = some (vx, σ1) ∧ ∃ vm : Int32, ∃ τ1 : j_G, f_X12_swap a1 a2 τ = some (vm, τ1) ∧ j_Rel σ1 τ1 := by
  obtain ⟨v, σ1, τ1, e1, e2, r⟩ := z_swap hR a1 a2
  exact ⟨v, σ1, e1, v, τ1, e2, r⟩
theorem s_paint {σ τ : j_G} (hR : j_Rel σ τ) (a1 : Int32) (a2 : Int32) : ∃ vx : Int32, ∃ σ1 : j_G, f_X11_paint a1 a2 σ = some (vx, σ1) ∧ ∃ vm : Int32, ∃ τ1 : j_G, f_X12_paint a1 a2 τ = some (vm, τ1) ∧ j_Rel σ1 τ1 := by
  obtain ⟨v, σ1, τ1, e1, e2, r⟩ := z_paint hR a1 a2
  exact ⟨v, σ1, e1, v, τ1, e2, r⟩
theorem s_turn {σ τ : j_G} (hR : j_Rel σ τ) (a1 : Int32) : ∃ vx : Int32, ∃ σ1 : j_G, f_X11_turn a1 σ = some (vx, σ1) ∧ ∃ vm : Int32, ∃ τ1 : j_G, f_X12_turn a1 τ = some (vm, τ1) ∧ j_Rel σ1 τ1 := by
  obtain ⟨v, σ1, τ1, e1, e2, r⟩ := z_turn hR a1
  exact ⟨v, σ1, e1, v, τ1, e2, r⟩
theorem s_lucky {σ τ : j_G} (hR : j_Rel σ τ) (a1 : Int32) : ∃ vx : Int32, ∃ σ1 : j_G, f_X11_lucky a1 σ = some (vx, σ1) ∧ ∃ vm : Int32, ∃ τ1 : j_G, f_X12_lucky a1 τ = some (vm, τ1) ∧ j_Rel σ1 τ1 := by
  obtain ⟨v, σ1, τ1, e1, e2, r⟩ := z_lucky hR a1
  exact ⟨v, σ1, e1, v, τ1, e2, r⟩
theorem s_shut {σ τ : j_G} (hR : j_Rel σ τ) (a1 : Int32) (a2 : Int32) : ∃ vx : Int32, ∃ σ1 : j_G, f_X11_shut a1 a2 σ = some (vx, σ1) ∧ ∃ vm : Int32, ∃ τ1 : j_G, f_X12_shut a1 a2 τ = some (vm, τ1) ∧ j_Rel σ1 τ1 := by
  obtain ⟨v, σ1, τ1, e1, e2, r⟩ := z_shut hR a1 a2
  exact ⟨v, σ1, e1, v, τ1, e2, r⟩
theorem s_train {σ τ : j_G} (hR : j_Rel σ τ) (a1 : Int32) (a2 : Int32) (a3 : Int32) : ∃ vx : Int32, ∃ σ1 : j_G, f_X11_train a1 a2 a3 σ = some (vx, σ1) ∧ ∃ vm : Int32, ∃ τ1 : j_G, f_X12_train a1 a2 a3 τ = some (vm, τ1) ∧ j_Rel σ1 τ1 := by
  obtain ⟨v, σ1, τ1, e1, e2, r⟩ := z_train hR a1 a2 a3
  exact ⟨v, σ1, e1, v, τ1, e2, r⟩
theorem s_drawn {σ τ : j_G} (hR : j_Rel σ τ) (a1 : Int32) (a2 : Int32) (a3 : Int32) : ∃ vx : Int32, ∃ σ1 : j_G, f_X11_drawn a1 a2 a3 σ = some (vx, σ1) ∧ ∃ vm : Int32, ∃ τ1 : j_G, f_X12_drawn a1 a2 a3 τ = some (vm, τ1) ∧ j_Rel σ1 τ1 := by
  obtain ⟨v, σ1, τ1, e1, e2, r⟩ := z_drawn hR a1 a2 a3
  exact ⟨v, σ1, e1, v, τ1, e2, r⟩
theorem s_night {σ τ : j_G} (hR : j_Rel σ τ) (a1 : Int32) (a2 : Int32) (a3 : Int32) : ∃ vx : Int32, ∃ σ1 : j_G, f_X11_night a1 a2 a3 σ = some (vx, σ1) ∧ ∃ vm : Int32, ∃ τ1 : j_G, f_X12_night a1 a2 a3 τ = some (vm, τ1) ∧ j_Rel σ1 τ1 := by
  obtain ⟨v, σ1, τ1, e1, e2, r⟩ := z_night hR a1 a2 a3
  exact ⟨v, σ1, e1, v, τ1, e2, r⟩
theorem s_years {σ τ : j_G} (hR : j_Rel σ τ) (a1 : Int32) (a2 : Int32) (a3 : Int32) (a4 : Int32) : ∃ vx : Int32, ∃ σ1 : j_G, f_X11_years a1 a2 a3 a4 σ = some (vx, σ1) ∧ ∃ vm : Int32, ∃ τ1 : j_G, f_X12_years a1 a2 a3 a4 τ = some (vm, τ1) ∧ j_Rel σ1 τ1 := by
  obtain ⟨v, σ1, τ1, e1, e2, r⟩ := z_years hR a1 a2 a3 a4
  exact ⟨v, σ1, e1, v, τ1, e2, r⟩
theorem s_count {σ τ : j_G} (hR : j_Rel σ τ) (a1 : Int32) : ∃ vx : Int32, f_X11_count a1 σ = some vx ∧ ∃ vm : Int32, f_X12_count a1 τ = some vm ∧ j_Rel σ τ := by
  obtain ⟨v, e1, e2⟩ := z_count hR a1
  exact ⟨v, e1, v, e2, hR⟩
theorem s_image {σ τ : j_G} (hR : j_Rel σ τ) (a1 : Int32) : ∃ vx : Int32, ∃ σ1 : j_G, f_X11_image a1 σ = some (vx, σ1) ∧ ∃ vm : Int32, ∃ τ1 : j_G, f_X12_image a1 τ = some (vm, τ1) ∧ j_Rel σ1 τ1 := by
  obtain ⟨v, σ1, τ1, e1, e2, r⟩ := z_image hR a1
  exact ⟨v, σ1, e1, v, τ1, e2, r⟩
theorem s_back {σ τ : j_G} (hR : j_Rel σ τ) (a1 : Int32) : ∃ vx : Int32, ∃ σ1 : j_G, f_X11_back a1 σ = some (vx, σ1) ∧ ∃ vm : Int32, ∃ τ1 : j_G, f_X12_back a1 τ = some (vm, τ1) ∧ j_Rel σ1 τ1 := by
  obtain ⟨v, σ1, τ1, e1, e2, r⟩ := z_back hR a1
  exact ⟨v, σ1, e1, v, τ1, e2, r⟩
theorem s_row {σ τ : j_G} (hR : j_Rel σ τ) (a1 : Int32) (a2 : Int32) (a3 : Int32) : ∃ vx : Int32, ∃ σ1 : j_G, f_X11_row a1 a2 a3 σ = some (vx, σ1) ∧ ∃ vm : Int32, ∃ τ1 : j_G, f_X12_row a1 a2 a3 τ = some (vm, τ1) ∧ j_Rel σ1 τ1 := by
  obtain ⟨v, σ1, τ1, e1, e2, r⟩ := z_row hR a1 a2 a3
  exact ⟨v, σ1, e1, v, τ1, e2, r⟩
theorem s_write {σ τ : j_G} (hR : j_Rel σ τ) (a1 : Int32) (a2 : Int32) (a3 : Int64) : ∃ vx : Int32, ∃ σ1 : j_G, f_X11_write a1 a2 a3 σ = some (vx, σ1) ∧ ∃ vm : Int32, ∃ τ1 : j_G, f_X12_write a1 a2 a3 τ = some (vm, τ1) ∧ j_Rel σ1 τ1 := by
  obtain ⟨v, σ1, τ1, e1, e2, r⟩ := z_write hR a1 a2 a3
  exact ⟨v, σ1, e1, v, τ1, e2, r⟩
theorem s_paste {σ τ : j_G} (hR : j_Rel σ τ) (a1 : Int32) (a2 : Int32) (a3 : Int32) (a4 : Int32) (a5 : Int32) : ∃ vx : Int32, ∃ σ1 : j_G, f_X11_paste a1 a2 a3 a4 a5 σ = some (vx, σ1) ∧ ∃ vm : Int32, ∃ τ1 : j_G, f_X12_paste a1 a2 a3 a4 a5 τ = some (vm, τ1) ∧ j_Rel σ1 τ1 := by
  obtain ⟨v, σ1, τ1, e1, e2, r⟩ := z_paste hR a1 a2 a3 a4 a5
  exact ⟨v, σ1, e1, v, τ1, e2, r⟩
/-! ===== each call of the law ===== -/
theorem x_case0 (L : Nat) (xs : Nat → Int32) (i : Int32) (h0 : ¬ (i < 0 ∨ L ≤ (i).toNatClampNeg)) (h1 : ¬ (i + 1 < 0 ∨ L ≤ (i + 1).toNatClampNeg)) (h2 : ¬ (i + 2 < 0 ∨ L ≤ (i + 2).toNatClampNeg)) (h3 : ¬ (i + 3 < 0 ∨ L ≤ (i + 3).toNatClampNeg)) (h4 : ¬ (i + 4 < 0 ∨ L ≤ (i + 4).toNatClampNeg)) (h5 : ¬ (i + 5 < 0 ∨ L ≤ (i + 5).toNatClampNeg)) {σ τ : j_G} (hR : j_Rel σ τ) {P : Option Value × xH × Nat × Nat → Prop} (kk : ∀ σ τ : j_G, j_Rel σ τ → x_R x_mt (some (L, xs)) 10 M_law (18, [(3, .int (i + Int32.ofInt (6))), (2, .ref 75), (1, .ref 0), (0, .ref x_scr)], [], j_hp true σ τ, 98, 10728) P) : x_R x_mt (some (L, xs)) 10 M_law (328, [(3, .int i), (2, .ref 75), (1, .ref 0), (0, .ref x_scr)], [], j_hp true σ τ, 98, 10728) P := by
  obtain ⟨vx, σ1, ex, vm, τ1, em, hR1⟩ := s_feed hR (xs ((i + 1)).toNatClampNeg) (xs ((i + 2)).toNatClampNeg) (xs ((i + 3)).toNatClampNeg) (xs ((i + 4)).toNatClampNeg) (xs ((i + 5)).toNatClampNeg)
  refine x_c0a _ L xs i h0 h1 h2 h3 h4 h5 ?_
  refine j_RcSi (s := true) (D := 1) (ai := 112) (vs := [.ref 0, .int (xs ((i + 1)).toNatClampNeg), .int (xs ((i + 2)).toNatClampNeg), .int (xs ((i + 3)).toNatClampNeg), .int (xs ((i + 4)).toNatClampNeg), .int (xs ((i + 5)).toNatClampNeg)]) (rest := []) (fun _ => j_Lsc lr_354 rfl) (c_X11_feed (xs ((i + 1)).toNatClampNeg) (xs ((i + 2)).toNatClampNeg) (xs ((i + 3)).toNatClampNeg) (xs ((i + 4)).toNatClampNeg) (xs ((i + 5)).toNatClampNeg) σ) (by decide) ex ?_
  refine x_c0b _ L xs i h0 h1 h2 h3 h4 h5 vx ?_
  rw [j_swp]
  refine j_RcSi (s := false) (D := 0) (ai := 208) (vs := [.ref 75, .int (xs ((i + 1)).toNatClampNeg), .int (xs ((i + 2)).toNatClampNeg), .int (xs ((i + 3)).toNatClampNeg), .int (xs ((i + 4)).toNatClampNeg), .int (xs ((i + 5)).toNatClampNeg)]) (rest := []) (fun _ => j_Lsc lr_384 rfl) (c_X12_feed (xs ((i + 1)).toNatClampNeg) (xs ((i + 2)).toNatClampNeg) (xs ((i + 3)).toNatClampNeg) (xs ((i + 4)).toNatClampNeg) (xs ((i + 5)).toNatClampNeg) τ) (by decide) em ?_
  refine x_c0d _ L xs i h0 h1 h2 h3 h4 h5 vm ?_
  rw [← j_swp]
  exact kk _ _ hR1

theorem x_case1 (L : Nat) (xs : Nat → Int32) (i : Int32) (h0 : ¬ (i < 0 ∨ L ≤ (i).toNatClampNeg)) (h1 : ¬ (i + 1 < 0 ∨ L ≤ (i + 1).toNatClampNeg)) (h2 : ¬ (i + 2 < 0 ∨ L ≤ (i + 2).toNatClampNeg)) (h3 : ¬ (i + 3 < 0 ∨ L ≤ (i + 3).toNatClampNeg)) (h4 : ¬ (i + 4 < 0 ∨ L ≤ (i + 4).toNatClampNeg)) (h5 : ¬ (i + 5 < 0 ∨ L ≤ (i + 5).toNatClampNeg)) {σ τ : j_G} (hR : j_Rel σ τ) {P : Option Value × xH × Nat × Nat → Prop} (kk : ∀ σ τ : j_G, j_Rel σ τ → x_R x_mt (some (L, xs)) 10 M_law (18, [(3, .int (i + Int32.ofInt (6))), (2, .ref 75), (1, .ref 0), (0, .ref x_scr)], [], j_hp true σ τ, 98, 10728) P) : x_R x_mt (some (L, xs)) 10 M_law (391, [(3, .int i), (2, .ref 75), (1, .ref 0), (0, .ref x_scr)], [], j_hp true σ τ, 98, 10728) P := by
  obtain ⟨vx, σ1, ex, vm, τ1, em, hR1⟩ := s_end hR (xs ((i + 1)).toNatClampNeg)
  refine x_c1a _ L xs i h0 h1 h2 h3 h4 h5 ?_
  refine j_RcSi (s := true) (D := 0) (ai := 113) (vs := [.ref 0, .int (xs ((i + 1)).toNatClampNeg)]) (rest := []) (fun _ => j_Lsc lr_397 rfl) (c_X11_end (xs ((i + 1)).toNatClampNeg) σ) (by decide) ex ?_
  refine x_c1b _ L xs i h0 h1 h2 h3 h4 h5 vx ?_
  rw [j_swp]
  refine j_RcSi (s := false) (D := 1) (ai := 209) (vs := [.ref 75, .int (xs ((i + 1)).toNatClampNeg)]) (rest := []) (fun _ => j_Lsc lr_407 rfl) (c_X12_end (xs ((i + 1)).toNatClampNeg) τ) (by decide) em ?_
  refine x_c1d _ L xs i h0 h1 h2 h3 h4 h5 vm ?_
  rw [← j_swp]
  exact kk _ _ hR1

theorem x_case2 (L : Nat) (xs : Nat → Int32) (i : Int32) (h0 : ¬ (i < 0 ∨ L ≤ (i).toNatClampNeg)) (h1 : ¬ (i + 1 < 0 ∨ L ≤ (i + 1).toNatClampNeg)) (h2 : ¬ (i + 2 < 0 ∨ L ≤ (i + 2).toNatClampNeg)) (h3 : ¬ (i + 3 < 0 ∨ L ≤ (i + 3).toNatClampNeg)) (h4 : ¬ (i + 4 < 0 ∨ L ≤ (i + 4).toNatClampNeg)) (h5 : ¬ (i + 5 < 0 ∨ L ≤ (i + 5).toNatClampNeg)) {σ τ : j_G} (hR : j_Rel σ τ) {P : Option Value × xH × Nat × Nat → Prop} (kk : ∀ σ τ : j_G, j_Rel σ τ → x_R x_mt (some (L, xs)) 10 M_law (18, [(3, .int (i + Int32.ofInt (6))), (2, .ref 75), (1, .ref 0), (0, .ref x_scr)], [], j_hp true σ τ, 98, 10728) P) : x_R x_mt (some (L, xs)) 10 M_law (414, [(3, .int i), (2, .ref 75), (1, .ref 0), (0, .ref x_scr)], [], j_hp true σ τ, 98, 10728) P := by
  obtain ⟨vx, σ1, ex, vm, τ1, em, hR1⟩ := s_board hR 
  refine x_c2a _ L xs i h0 h1 h2 h3 h4 h5 ?_
  refine j_RcSi (s := true) (D := 6) (ai := 114) (vs := [.ref 0]) (rest := []) (fun _ => j_Lsc lr_415 rfl) (c_X11_board  σ) (by decide) ex ?_
  refine x_c2b _ L xs i h0 h1 h2 h3 h4 h5 vx ?_
  rw [j_swp]
  refine j_RcSi (s := false) (D := 8) (ai := 232) (vs := [.ref 75]) (rest := []) (fun _ => j_Lsc lr_420 rfl) (c_X12_board  τ) (by decide) em ?_
  refine x_c2d _ L xs i h0 h1 h2 h3 h4 h5 vm ?_
  rw [← j_swp]
  exact kk _ _ hR1

theorem x_case3 (L : Nat) (xs : Nat → Int32) (i : Int32) (h0 : ¬ (i < 0 ∨ L ≤ (i).toNatClampNeg)) (h1 : ¬ (i + 1 < 0 ∨ L ≤ (i + 1).toNatClampNeg)) (h2 : ¬ (i + 2 < 0 ∨ L ≤ (i + 2).toNatClampNeg)) (h3 : ¬ (i + 3 < 0 ∨ L ≤ (i + 3).toNatClampNeg)) (h4 : ¬ (i + 4 < 0 ∨ L ≤ (i + 4).toNatClampNeg)) (h5 : ¬ (i + 5 < 0 ∨ L ≤ (i + 5).toNatClampNeg)) {σ τ : j_G} (hR : j_Rel σ τ) {P : Option Value × xH × Nat × Nat → Prop} (kk : ∀ σ τ : j_G, j_Rel σ τ → x_R x_mt (some (L, xs)) 10 M_law (18, [(3, .int (i + Int32.ofInt (6))), (2, .ref 75), (1, .ref 0), (0, .ref x_scr)], [], j_hp true σ τ, 98, 10728) P) : x_R x_mt (some (L, xs)) 10 M_law (427, [(3, .int i), (2, .ref 75), (1, .ref 0), (0, .ref x_scr)], [], j_hp true σ τ, 98, 10728) P := by
  obtain ⟨vx, ex, vm, em, hR1⟩ := s_fault hR (xs ((i + 1)).toNatClampNeg)
  refine x_c3a _ L xs i h0 h1 h2 h3 h4 h5 ?_
  refine j_RcTi (s := true) (D := 0) (ai := 115) (vs := [.ref 0, .int (xs ((i + 1)).toNatClampNeg)]) (rest := []) (fun _ => j_Lsc lr_433 rfl) (c_X11_fault (xs ((i + 1)).toNatClampNeg) σ) (by decide) ex ?_
  refine x_c3b _ L xs i h0 h1 h2 h3 h4 h5 vx ?_
  rw [j_swp]
  refine j_RcTi (s := false) (D := 0) (ai := 219) (vs := [.ref 75, .int (xs ((i + 1)).toNatClampNeg)]) (rest := []) (fun _ => j_Lsc lr_443 rfl) (c_X12_fault (xs ((i + 1)).toNatClampNeg) τ) (by decide) em ?_
  refine x_c3d _ L xs i h0 h1 h2 h3 h4 h5 vm ?_
  rw [← j_swp]
  exact kk _ _ hR1

theorem x_case4 (L : Nat) (xs : Nat → Int32) (i : Int32) (h0 : ¬ (i < 0 ∨ L ≤ (i).toNatClampNeg)) (h1 : ¬ (i + 1 < 0 ∨ L ≤ (i + 1).toNatClampNeg)) (h2 : ¬ (i + 2 < 0 ∨ L ≤ (i + 2).toNatClampNeg)) (h3 : ¬ (i + 3 < 0 ∨ L ≤ (i + 3).toNatClampNeg)) (h4 : ¬ (i + 4 < 0 ∨ L ≤ (i + 4).toNatClampNeg)) (h5 : ¬ (i + 5 < 0 ∨ L ≤ (i + 5).toNatClampNeg)) {σ τ : j_G} (hR : j_Rel σ τ) {P : Option Value × xH × Nat × Nat → Prop} (kk : ∀ σ τ : j_G, j_Rel σ τ → x_R x_mt (some (L, xs)) 10 M_law (18, [(3, .int (i + Int32.ofInt (6))), (2, .ref 75), (1, .ref 0), (0, .ref x_scr)], [], j_hp true σ τ, 98, 10728) P) : x_R x_mt (some (L, xs)) 10 M_law (450, [(3, .int i), (2, .ref 75), (1, .ref 0), (0, .ref x_scr)], [], j_hp true σ τ, 98, 10728) P := by
  obtain ⟨vx, ex, vm, em, hR1⟩ := s_drum hR (xs ((i + 1)).toNatClampNeg) (xs ((i + 2)).toNatClampNeg)
  refine x_c4a _ L xs i h0 h1 h2 h3 h4 h5 ?_
  refine j_RcPi (s := true) (D := 1) (ai := 116) (vs := [.ref 0, .int (xs ((i + 1)).toNatClampNeg), .int (xs ((i + 2)).toNatClampNeg)]) (rest := []) (fun _ => j_Lsc lr_461 rfl) (c_X11_drum (xs ((i + 1)).toNatClampNeg) (xs ((i + 2)).toNatClampNeg) σ) (by decide) ex ?_
  refine x_c4b _ L xs i h0 h1 h2 h3 h4 h5 vx ?_
  rw [j_swp]
  refine j_RcPi (s := false) (D := 2) (ai := 239) (vs := [.ref 75, .int (xs ((i + 1)).toNatClampNeg), .int (xs ((i + 2)).toNatClampNeg)]) (rest := []) (fun _ => j_Lsc lr_476 rfl) (c_X12_drum (xs ((i + 1)).toNatClampNeg) (xs ((i + 2)).toNatClampNeg) τ) (by decide) em ?_
  refine x_c4d _ L xs i h0 h1 h2 h3 h4 h5 vm ?_
  rw [← j_swp]
  exact kk _ _ hR1

theorem x_case5 (L : Nat) (xs : Nat → Int32) (i : Int32) (h0 : ¬ (i < 0 ∨ L ≤ (i).toNatClampNeg)) (h1 : ¬ (i + 1 < 0 ∨ L ≤ (i + 1).toNatClampNeg)) (h2 : ¬ (i + 2 < 0 ∨ L ≤ (i + 2).toNatClampNeg)) (h3 : ¬ (i + 3 < 0 ∨ L ≤ (i + 3).toNatClampNeg)) (h4 : ¬ (i + 4 < 0 ∨ L ≤ (i + 4).toNatClampNeg)) (h5 : ¬ (i + 5 < 0 ∨ L ≤ (i + 5).toNatClampNeg)) {σ τ : j_G} (hR : j_Rel σ τ) {P : Option Value × xH × Nat × Nat → Prop} (kk : ∀ σ τ : j_G, j_Rel σ τ → x_R x_mt (some (L, xs)) 10 M_law (18, [(3, .int (i + Int32.ofInt (6))), (2, .ref 75), (1, .ref 0), (0, .ref x_scr)], [], j_hp true σ τ, 98, 10728) P) : x_R x_mt (some (L, xs)) 10 M_law (483, [(3, .int i), (2, .ref 75), (1, .ref 0), (0, .ref x_scr)], [], j_hp true σ τ, 98, 10728) P := by
  obtain ⟨vx, ex, vm, em, hR1⟩ := s_player hR (xs ((i + 1)).toNatClampNeg) (xs ((i + 2)).toNatClampNeg)
  refine x_c5a _ L xs i h0 h1 h2 h3 h4 h5 ?_
  refine j_RcPi (s := true) (D := 1) (ai := 117) (vs := [.ref 0, .int (xs ((i + 1)).toNatClampNeg), .int (xs ((i + 2)).toNatClampNeg)]) (rest := []) (fun _ => j_Lsc lr_494 rfl) (c_X11_player (xs ((i + 1)).toNatClampNeg) (xs ((i + 2)).toNatClampNeg) σ) (by decide) ex ?_
  refine x_c5b _ L xs i h0 h1 h2 h3 h4 h5 vx ?_
  rw [j_swp]
  refine j_RcPi (s := false) (D := 2) (ai := 240) (vs := [.ref 75, .int (xs ((i + 1)).toNatClampNeg), .int (xs ((i + 2)).toNatClampNeg)]) (rest := []) (fun _ => j_Lsc lr_509 rfl) (c_X12_player (xs ((i + 1)).toNatClampNeg) (xs ((i + 2)).toNatClampNeg) τ) (by decide) em ?_
  refine x_c5d _ L xs i h0 h1 h2 h3 h4 h5 vm ?_
  rw [← j_swp]
  exact kk _ _ hR1

theorem x_case6 (L : Nat) (xs : Nat → Int32) (i : Int32) (h0 : ¬ (i < 0 ∨ L ≤ (i).toNatClampNeg)) (h1 : ¬ (i + 1 < 0 ∨ L ≤ (i + 1).toNatClampNeg)) (h2 : ¬ (i + 2 < 0 ∨ L ≤ (i + 2).toNatClampNeg)) (h3 : ¬ (i + 3 < 0 ∨ L ≤ (i + 3).toNatClampNeg)) (h4 : ¬ (i + 4 < 0 ∨ L ≤ (i + 4).toNatClampNeg)) (h5 : ¬ (i + 5 < 0 ∨ L ≤ (i + 5).toNatClampNeg)) {σ τ : j_G} (hR : j_Rel σ τ) {P : Option Value × xH × Nat × Nat → Prop} (kk : ∀ σ τ : j_G, j_Rel σ τ → x_R x_mt (some (L, xs)) 10 M_law (18, [(3, .int (i + Int32.ofInt (6))), (2, .ref 75), (1, .ref 0), (0, .ref x_scr)], [], j_hp true σ τ, 98, 10728) P) : x_R x_mt (some (L, xs)) 10 M_law (516, [(3, .int i), (2, .ref 75), (1, .ref 0), (0, .ref x_scr)], [], j_hp true σ τ, 98, 10728) P := by
  obtain ⟨vx, ex, vm, em, hR1⟩ := s_stay hR (xs ((i + 1)).toNatClampNeg)
  refine x_c6a _ L xs i h0 h1 h2 h3 h4 h5 ?_
  refine j_RcPi (s := true) (D := 1) (ai := 118) (vs := [.ref 0, .int (xs ((i + 1)).toNatClampNeg)]) (rest := []) (fun _ => j_Lsc lr_522 rfl) (c_X11_stay (xs ((i + 1)).toNatClampNeg) σ) (by decide) ex ?_
  refine x_c6b _ L xs i h0 h1 h2 h3 h4 h5 vx ?_
  rw [j_swp]
  refine j_RcPi (s := false) (D := 2) (ai := 241) (vs := [.ref 75, .int (xs ((i + 1)).toNatClampNeg)]) (rest := []) (fun _ => j_Lsc lr_532 rfl) (c_X12_stay (xs ((i + 1)).toNatClampNeg) τ) (by decide) em ?_
  refine x_c6d _ L xs i h0 h1 h2 h3 h4 h5 vm ?_
  rw [← j_swp]
  exact kk _ _ hR1

theorem x_case7 (L : Nat) (xs : Nat → Int32) (i : Int32) (h0 : ¬ (i < 0 ∨ L ≤ (i).toNatClampNeg)) (h1 : ¬ (i + 1 < 0 ∨ L ≤ (i + 1).toNatClampNeg)) (h2 : ¬ (i + 2 < 0 ∨ L ≤ (i + 2).toNatClampNeg)) (h3 : ¬ (i + 3 < 0 ∨ L ≤ (i + 3).toNatClampNeg)) (h4 : ¬ (i + 4 < 0 ∨ L ≤ (i + 4).toNatClampNeg)) (h5 : ¬ (i + 5 < 0 ∨ L ≤ (i + 5).toNatClampNeg)) {σ τ : j_G} (hR : j_Rel σ τ) {P : Option Value × xH × Nat × Nat → Prop} (kk : ∀ σ τ : j_G, j_Rel σ τ → x_R x_mt (some (L, xs)) 10 M_law (18, [(3, .int (i + Int32.ofInt (6))), (2, .ref 75), (1, .ref 0), (0, .ref x_scr)], [], j_hp true σ τ, 98, 10728) P) : x_R x_mt (some (L, xs)) 10 M_law (539, [(3, .int i), (2, .ref 75), (1, .ref 0), (0, .ref x_scr)], [], j_hp true σ τ, 98, 10728) P := by
  obtain ⟨vx, σ1, ex, vm, τ1, em, hR1⟩ := s_comings hR 
  refine x_c7a _ L xs i h0 h1 h2 h3 h4 h5 ?_
  refine j_RcSi (s := true) (D := 3) (ai := 120) (vs := [.ref 0]) (rest := []) (fun _ => j_Lsc lr_540 rfl) (c_X11_comings  σ) (by decide) ex ?_
  refine x_c7b _ L xs i h0 h1 h2 h3 h4 h5 vx ?_
  rw [j_swp]
  refine j_RcSi (s := false) (D := 3) (ai := 242) (vs := [.ref 75]) (rest := []) (fun _ => j_Lsc lr_545 rfl) (c_X12_comings  τ) (by decide) em ?_
  refine x_c7d _ L xs i h0 h1 h2 h3 h4 h5 vm ?_
  rw [← j_swp]
  exact kk _ _ hR1

theorem x_case8 (L : Nat) (xs : Nat → Int32) (i : Int32) (h0 : ¬ (i < 0 ∨ L ≤ (i).toNatClampNeg)) (h1 : ¬ (i + 1 < 0 ∨ L ≤ (i + 1).toNatClampNeg)) (h2 : ¬ (i + 2 < 0 ∨ L ≤ (i + 2).toNatClampNeg)) (h3 : ¬ (i + 3 < 0 ∨ L ≤ (i + 3).toNatClampNeg)) (h4 : ¬ (i + 4 < 0 ∨ L ≤ (i + 4).toNatClampNeg)) (h5 : ¬ (i + 5 < 0 ∨ L ≤ (i + 5).toNatClampNeg)) {σ τ : j_G} (hR : j_Rel σ τ) {P : Option Value × xH × Nat × Nat → Prop} (kk : ∀ σ τ : j_G, j_Rel σ τ → x_R x_mt (some (L, xs)) 10 M_law (18, [(3, .int (i + Int32.ofInt (6))), (2, .ref 75), (1, .ref 0), (0, .ref x_scr)], [], j_hp true σ τ, 98, 10728) P) : x_R x_mt (some (L, xs)) 10 M_law (552, [(3, .int i), (2, .ref 75), (1, .ref 0), (0, .ref x_scr)], [], j_hp true σ τ, 98, 10728) P := by
  obtain ⟨vx, σ1, ex, vm, τ1, em, hR1⟩ := s_comes hR (xs ((i + 1)).toNatClampNeg) (xs ((i + 2)).toNatClampNeg)
  refine x_c8a _ L xs i h0 h1 h2 h3 h4 h5 ?_
  refine j_RcSi (s := true) (D := 3) (ai := 121) (vs := [.ref 0, .int (xs ((i + 1)).toNatClampNeg), .int (xs ((i + 2)).toNatClampNeg)]) (rest := []) (fun _ => j_Lsc lr_563 rfl) (c_X11_comes (xs ((i + 1)).toNatClampNeg) (xs ((i + 2)).toNatClampNeg) σ) (by decide) ex ?_
  refine x_c8b _ L xs i h0 h1 h2 h3 h4 h5 vx ?_
  rw [j_swp]
  refine j_RcSi (s := false) (D := 3) (ai := 244) (vs := [.ref 75, .int (xs ((i + 1)).toNatClampNeg), .int (xs ((i + 2)).toNatClampNeg)]) (rest := []) (fun _ => j_Lsc lr_578 rfl) (c_X12_comes (xs ((i + 1)).toNatClampNeg) (xs ((i + 2)).toNatClampNeg) τ) (by decide) em ?_
  refine x_c8d _ L xs i h0 h1 h2 h3 h4 h5 vm ?_
  rw [← j_swp]
  exact kk _ _ hR1

theorem x_case9 (L : Nat) (xs : Nat → Int32) (i : Int32) (h0 : ¬ (i < 0 ∨ L ≤ (i).toNatClampNeg)) (h1 : ¬ (i + 1 < 0 ∨ L ≤ (i + 1).toNatClampNeg)) (h2 : ¬ (i + 2 < 0 ∨ L ≤ (i + 2).toNatClampNeg)) (h3 : ¬ (i + 3 < 0 ∨ L ≤ (i + 3).toNatClampNeg)) (h4 : ¬ (i + 4 < 0 ∨ L ≤ (i + 4).toNatClampNeg)) (h5 : ¬ (i + 5 < 0 ∨ L ≤ (i + 5).toNatClampNeg)) {σ τ : j_G} (hR : j_Rel σ τ) {P : Option Value × xH × Nat × Nat → Prop} (kk : ∀ σ τ : j_G, j_Rel σ τ → x_R x_mt (some (L, xs)) 10 M_law (18, [(3, .int (i + Int32.ofInt (6))), (2, .ref 75), (1, .ref 0), (0, .ref x_scr)], [], j_hp true σ τ, 98, 10728) P) : x_R x_mt (some (L, xs)) 10 M_law (585, [(3, .int i), (2, .ref 75), (1, .ref 0), (0, .ref x_scr)], [], j_hp true σ τ, 98, 10728) P := by
  obtain ⟨vx, σ1, ex, vm, τ1, em, hR1⟩ := s_up hR (xs ((i + 1)).toNatClampNeg)
  refine x_c9a _ L xs i h0 h1 h2 h3 h4 h5 ?_
  refine j_RcSi (s := true) (D := 3) (ai := 122) (vs := [.ref 0, .int (xs ((i + 1)).toNatClampNeg)]) (rest := []) (fun _ => j_Lsc lr_591 rfl) (c_X11_up (xs ((i + 1)).toNatClampNeg) σ) (by decide) ex ?_
  refine x_c9b _ L xs i h0 h1 h2 h3 h4 h5 vx ?_
  rw [j_swp]
  refine j_RcSi (s := false) (D := 3) (ai := 246) (vs := [.ref 75, .int (xs ((i + 1)).toNatClampNeg)]) (rest := []) (fun _ => j_Lsc lr_601 rfl) (c_X12_up (xs ((i + 1)).toNatClampNeg) τ) (by decide) em ?_
  refine x_c9d _ L xs i h0 h1 h2 h3 h4 h5 vm ?_
  rw [← j_swp]
  exact kk _ _ hR1

theorem x_case10 (L : Nat) (xs : Nat → Int32) (i : Int32) (h0 : ¬ (i < 0 ∨ L ≤ (i).toNatClampNeg)) (h1 : ¬ (i + 1 < 0 ∨ L ≤ (i + 1).toNatClampNeg)) (h2 : ¬ (i + 2 < 0 ∨ L ≤ (i + 2).toNatClampNeg)) (h3 : ¬ (i + 3 < 0 ∨ L ≤ (i + 3).toNatClampNeg)) (h4 : ¬ (i + 4 < 0 ∨ L ≤ (i + 4).toNatClampNeg)) (h5 : ¬ (i + 5 < 0 ∨ L ≤ (i + 5).toNatClampNeg)) {σ τ : j_G} (hR : j_Rel σ τ) {P : Option Value × xH × Nat × Nat → Prop} (kk : ∀ σ τ : j_G, j_Rel σ τ → x_R x_mt (some (L, xs)) 10 M_law (18, [(3, .int (i + Int32.ofInt (6))), (2, .ref 75), (1, .ref 0), (0, .ref x_scr)], [], j_hp true σ τ, 98, 10728) P) : x_R x_mt (some (L, xs)) 10 M_law (608, [(3, .int i), (2, .ref 75), (1, .ref 0), (0, .ref x_scr)], [], j_hp true σ τ, 98, 10728) P := by
  obtain ⟨vx, σ1, ex, vm, τ1, em, hR1⟩ := s_calm hR 
  refine x_c10a _ L xs i h0 h1 h2 h3 h4 h5 ?_
  refine j_RcSi (s := true) (D := 3) (ai := 123) (vs := [.ref 0]) (rest := []) (fun _ => j_Lsc lr_609 rfl) (c_X11_calm  σ) (by decide) ex ?_
  refine x_c10b _ L xs i h0 h1 h2 h3 h4 h5 vx ?_
  rw [j_swp]
  refine j_RcSi (s := false) (D := 3) (ai := 247) (vs := [.ref 75]) (rest := []) (fun _ => j_Lsc lr_614 rfl) (c_X12_calm  τ) (by decide) em ?_
  refine x_c10d _ L xs i h0 h1 h2 h3 h4 h5 vm ?_
  rw [← j_swp]
  exact kk _ _ hR1

theorem x_case11 (L : Nat) (xs : Nat → Int32) (i : Int32) (h0 : ¬ (i < 0 ∨ L ≤ (i).toNatClampNeg)) (h1 : ¬ (i + 1 < 0 ∨ L ≤ (i + 1).toNatClampNeg)) (h2 : ¬ (i + 2 < 0 ∨ L ≤ (i + 2).toNatClampNeg)) (h3 : ¬ (i + 3 < 0 ∨ L ≤ (i + 3).toNatClampNeg)) (h4 : ¬ (i + 4 < 0 ∨ L ≤ (i + 4).toNatClampNeg)) (h5 : ¬ (i + 5 < 0 ∨ L ≤ (i + 5).toNatClampNeg)) {σ τ : j_G} (hR : j_Rel σ τ) {P : Option Value × xH × Nat × Nat → Prop} (kk : ∀ σ τ : j_G, j_Rel σ τ → x_R x_mt (some (L, xs)) 10 M_law (18, [(3, .int (i + Int32.ofInt (6))), (2, .ref 75), (1, .ref 0), (0, .ref x_scr)], [], j_hp true σ τ, 98, 10728) P) : x_R x_mt (some (L, xs)) 10 M_law (621, [(3, .int i), (2, .ref 75), (1, .ref 0), (0, .ref x_scr)], [], j_hp true σ τ, 98, 10728) P := by
  obtain ⟨vx, ex, vm, em, hR1⟩ := s_steps hR (xs ((i + 1)).toNatClampNeg) (xs ((i + 2)).toNatClampNeg)
  refine x_c11a _ L xs i h0 h1 h2 h3 h4 h5 ?_
  refine j_RcPi (s := true) (D := 2) (ai := 124) (vs := [.ref 0, .int (xs ((i + 1)).toNatClampNeg), .int (xs ((i + 2)).toNatClampNeg)]) (rest := []) (fun _ => j_Lsc lr_632 rfl) (c_X11_steps (xs ((i + 1)).toNatClampNeg) (xs ((i + 2)).toNatClampNeg) σ) (by decide) ex ?_
  refine x_c11b _ L xs i h0 h1 h2 h3 h4 h5 vx ?_
  rw [j_swp]
  refine j_RcPi (s := false) (D := 2) (ai := 249) (vs := [.ref 75, .int (xs ((i + 1)).toNatClampNeg), .int (xs ((i + 2)).toNatClampNeg)]) (rest := []) (fun _ => j_Lsc lr_647 rfl) (c_X12_steps (xs ((i + 1)).toNatClampNeg) (xs ((i + 2)).toNatClampNeg) τ) (by decide) em ?_
  refine x_c11d _ L xs i h0 h1 h2 h3 h4 h5 vm ?_
  rw [← j_swp]
  exact kk _ _ hR1

theorem x_case12 (L : Nat) (xs : Nat → Int32) (i : Int32) (h0 : ¬ (i < 0 ∨ L ≤ (i).toNatClampNeg)) (h1 : ¬ (i + 1 < 0 ∨ L ≤ (i + 1).toNatClampNeg)) (h2 : ¬ (i + 2 < 0 ∨ L ≤ (i + 2).toNatClampNeg)) (h3 : ¬ (i + 3 < 0 ∨ L ≤ (i + 3).toNatClampNeg)) (h4 : ¬ (i + 4 < 0 ∨ L ≤ (i + 4).toNatClampNeg)) (h5 : ¬ (i + 5 < 0 ∨ L ≤ (i + 5).toNatClampNeg)) {σ τ : j_G} (hR : j_Rel σ τ) {P : Option Value × xH × Nat × Nat → Prop} (kk : ∀ σ τ : j_G, j_Rel σ τ → x_R x_mt (some (L, xs)) 10 M_law (18, [(3, .int (i + Int32.ofInt (6))), (2, .ref 75), (1, .ref 0), (0, .ref x_scr)], [], j_hp true σ τ, 98, 10728) P) : x_R x_mt (some (L, xs)) 10 M_law (654, [(3, .int i), (2, .ref 75), (1, .ref 0), (0, .ref x_scr)], [], j_hp true σ τ, 98, 10728) P := by
  obtain ⟨vx, σ1, ex, vm, em, hR1⟩ := s_pace hR (xs ((i + 1)).toNatClampNeg) (xs ((i + 2)).toNatClampNeg)
  refine x_c12a _ L xs i h0 h1 h2 h3 h4 h5 ?_
  refine j_RcSi (s := true) (D := 2) (ai := 125) (vs := [.ref 0, .int (xs ((i + 1)).toNatClampNeg), .int (xs ((i + 2)).toNatClampNeg)]) (rest := []) (fun _ => j_Lsc lr_665 rfl) (c_X11_pace (xs ((i + 1)).toNatClampNeg) (xs ((i + 2)).toNatClampNeg) σ) (by decide) ex ?_
  refine x_c12b _ L xs i h0 h1 h2 h3 h4 h5 vx ?_
  rw [j_swp]
  refine j_RcPi (s := false) (D := 2) (ai := 251) (vs := [.ref 75, .int (xs ((i + 1)).toNatClampNeg), .int (xs ((i + 2)).toNatClampNeg)]) (rest := []) (fun _ => j_Lsc lr_680 rfl) (c_X12_pace (xs ((i + 1)).toNatClampNeg) (xs ((i + 2)).toNatClampNeg) τ) (by decide) em ?_
  refine x_c12d _ L xs i h0 h1 h2 h3 h4 h5 vm ?_
  rw [← j_swp]
  exact kk _ _ hR1

theorem x_case13 (L : Nat) (xs : Nat → Int32) (i : Int32) (h0 : ¬ (i < 0 ∨ L ≤ (i).toNatClampNeg)) (h1 : ¬ (i + 1 < 0 ∨ L ≤ (i + 1).toNatClampNeg)) (h2 : ¬ (i + 2 < 0 ∨ L ≤ (i + 2).toNatClampNeg)) (h3 : ¬ (i + 3 < 0 ∨ L ≤ (i + 3).toNatClampNeg)) (h4 : ¬ (i + 4 < 0 ∨ L ≤ (i + 4).toNatClampNeg)) (h5 : ¬ (i + 5 < 0 ∨ L ≤ (i + 5).toNatClampNeg)) {σ τ : j_G} (hR : j_Rel σ τ) {P : Option Value × xH × Nat × Nat → Prop} (kk : ∀ σ τ : j_G, j_Rel σ τ → x_R x_mt (some (L, xs)) 10 M_law (18, [(3, .int (i + Int32.ofInt (6))), (2, .ref 75), (1, .ref 0), (0, .ref x_scr)], [], j_hp true σ τ, 98, 10728) P) : x_R x_mt (some (L, xs)) 10 M_law (687, [(3, .int i), (2, .ref 75), (1, .ref 0), (0, .ref x_scr)], [], j_hp true σ τ, 98, 10728) P := by
  obtain ⟨vx, σ1, ex, vm, τ1, em, hR1⟩ := s_aware hR (xs ((i + 1)).toNatClampNeg) (xs ((i + 2)).toNatClampNeg)
  refine x_c13a _ L xs i h0 h1 h2 h3 h4 h5 ?_
  refine j_RcSi (s := true) (D := 4) (ai := 126) (vs := [.ref 0, .int (xs ((i + 1)).toNatClampNeg), .int (xs ((i + 2)).toNatClampNeg)]) (rest := []) (fun _ => j_Lsc lr_698 rfl) (c_X11_aware (xs ((i + 1)).toNatClampNeg) (xs ((i + 2)).toNatClampNeg) σ) (by decide) ex ?_
  refine x_c13b _ L xs i h0 h1 h2 h3 h4 h5 vx ?_
  rw [j_swp]
  refine j_RcSi (s := false) (D := 3) (ai := 254) (vs := [.ref 75, .int (xs ((i + 1)).toNatClampNeg), .int (xs ((i + 2)).toNatClampNeg)]) (rest := []) (fun _ => j_Lsc lr_713 rfl) (c_X12_aware (xs ((i + 1)).toNatClampNeg) (xs ((i + 2)).toNatClampNeg) τ) (by decide) em ?_
  refine x_c13d _ L xs i h0 h1 h2 h3 h4 h5 vm ?_
  rw [← j_swp]
  exact kk _ _ hR1

theorem x_case14 (L : Nat) (xs : Nat → Int32) (i : Int32) (h0 : ¬ (i < 0 ∨ L ≤ (i).toNatClampNeg)) (h1 : ¬ (i + 1 < 0 ∨ L ≤ (i + 1).toNatClampNeg)) (h2 : ¬ (i + 2 < 0 ∨ L ≤ (i + 2).toNatClampNeg)) (h3 : ¬ (i + 3 < 0 ∨ L ≤ (i + 3).toNatClampNeg)) (h4 : ¬ (i + 4 < 0 ∨ L ≤ (i + 4).toNatClampNeg)) (h5 : ¬ (i + 5 < 0 ∨ L ≤ (i + 5).toNatClampNeg)) {σ τ : j_G} (hR : j_Rel σ τ) {P : Option Value × xH × Nat × Nat → Prop} (kk : ∀ σ τ : j_G, j_Rel σ τ → x_R x_mt (some (L, xs)) 10 M_law (18, [(3, .int (i + Int32.ofInt (6))), (2, .ref 75), (1, .ref 0), (0, .ref x_scr)], [], j_hp true σ τ, 98, 10728) P) : x_R x_mt (some (L, xs)) 10 M_law (720, [(3, .int i), (2, .ref 75), (1, .ref 0), (0, .ref x_scr)], [], j_hp true σ τ, 98, 10728) P := by
  obtain ⟨vx, σ1, ex, vm, τ1, em, hR1⟩ := s_hits hR (xs ((i + 1)).toNatClampNeg)
  refine x_c14a _ L xs i h0 h1 h2 h3 h4 h5 ?_
  refine j_RcSi (s := true) (D := 6) (ai := 127) (vs := [.ref 0, .int (xs ((i + 1)).toNatClampNeg)]) (rest := []) (fun _ => j_Lsc lr_726 rfl) (c_X11_hits (xs ((i + 1)).toNatClampNeg) σ) (by decide) ex ?_
  refine x_c14b _ L xs i h0 h1 h2 h3 h4 h5 vx ?_
  rw [j_swp]
  refine j_RcSi (s := false) (D := 6) (ai := 260) (vs := [.ref 75, .int (xs ((i + 1)).toNatClampNeg)]) (rest := []) (fun _ => j_Lsc lr_736 rfl) (c_X12_hits (xs ((i + 1)).toNatClampNeg) τ) (by decide) em ?_
  refine x_c14d _ L xs i h0 h1 h2 h3 h4 h5 vm ?_
  rw [← j_swp]
  exact kk _ _ hR1

theorem x_case15 (L : Nat) (xs : Nat → Int32) (i : Int32) (h0 : ¬ (i < 0 ∨ L ≤ (i).toNatClampNeg)) (h1 : ¬ (i + 1 < 0 ∨ L ≤ (i + 1).toNatClampNeg)) (h2 : ¬ (i + 2 < 0 ∨ L ≤ (i + 2).toNatClampNeg)) (h3 : ¬ (i + 3 < 0 ∨ L ≤ (i + 3).toNatClampNeg)) (h4 : ¬ (i + 4 < 0 ∨ L ≤ (i + 4).toNatClampNeg)) (h5 : ¬ (i + 5 < 0 ∨ L ≤ (i + 5).toNatClampNeg)) {σ τ : j_G} (hR : j_Rel σ τ) {P : Option Value × xH × Nat × Nat → Prop} (kk : ∀ σ τ : j_G, j_Rel σ τ → x_R x_mt (some (L, xs)) 10 M_law (18, [(3, .int (i + Int32.ofInt (6))), (2, .ref 75), (1, .ref 0), (0, .ref x_scr)], [], j_hp true σ τ, 98, 10728) P) : x_R x_mt (some (L, xs)) 10 M_law (743, [(3, .int i), (2, .ref 75), (1, .ref 0), (0, .ref x_scr)], [], j_hp true σ τ, 98, 10728) P := by
  obtain ⟨vx, σ1, ex, vm, τ1, em, hR1⟩ := s_hit hR (xs ((i + 1)).toNatClampNeg) (xs ((i + 2)).toNatClampNeg)
  refine x_c15a _ L xs i h0 h1 h2 h3 h4 h5 ?_
  refine j_RcSi (s := true) (D := 6) (ai := 128) (vs := [.ref 0, .int (xs ((i + 1)).toNatClampNeg), .int (xs ((i + 2)).toNatClampNeg)]) (rest := []) (fun _ => j_Lsc lr_754 rfl) (c_X11_hit (xs ((i + 1)).toNatClampNeg) (xs ((i + 2)).toNatClampNeg) σ) (by decide) ex ?_
  refine x_c15b _ L xs i h0 h1 h2 h3 h4 h5 vx ?_
  rw [j_swp]
  refine j_RcSi (s := false) (D := 6) (ai := 261) (vs := [.ref 75, .int (xs ((i + 1)).toNatClampNeg), .int (xs ((i + 2)).toNatClampNeg)]) (rest := []) (fun _ => j_Lsc lr_769 rfl) (c_X12_hit (xs ((i + 1)).toNatClampNeg) (xs ((i + 2)).toNatClampNeg) τ) (by decide) em ?_
  refine x_c15d _ L xs i h0 h1 h2 h3 h4 h5 vm ?_
  rw [← j_swp]
  exact kk _ _ hR1

theorem x_case16 (L : Nat) (xs : Nat → Int32) (i : Int32) (h0 : ¬ (i < 0 ∨ L ≤ (i).toNatClampNeg)) (h1 : ¬ (i + 1 < 0 ∨ L ≤ (i + 1).toNatClampNeg)) (h2 : ¬ (i + 2 < 0 ∨ L ≤ (i + 2).toNatClampNeg)) (h3 : ¬ (i + 3 < 0 ∨ L ≤ (i + 3).toNatClampNeg)) (h4 : ¬ (i + 4 < 0 ∨ L ≤ (i + 4).toNatClampNeg)) (h5 : ¬ (i + 5 < 0 ∨ L ≤ (i + 5).toNatClampNeg)) {σ τ : j_G} (hR : j_Rel σ τ) {P : Option Value × xH × Nat × Nat → Prop} (kk : ∀ σ τ : j_G, j_Rel σ τ → x_R x_mt (some (L, xs)) 10 M_law (18, [(3, .int (i + Int32.ofInt (6))), (2, .ref 75), (1, .ref 0), (0, .ref x_scr)], [], j_hp true σ τ, 98, 10728) P) : x_R x_mt (some (L, xs)) 10 M_law (776, [(3, .int i), (2, .ref 75), (1, .ref 0), (0, .ref x_scr)], [], j_hp true σ τ, 98, 10728) P := by
  obtain ⟨vx, σ1, ex, vm, τ1, em, hR1⟩ := s_twice hR (xs ((i + 1)).toNatClampNeg) (xs ((i + 2)).toNatClampNeg)
  refine x_c16a _ L xs i h0 h1 h2 h3 h4 h5 ?_
  refine j_RcSi (s := true) (D := 6) (ai := 129) (vs := [.ref 0, .int (xs ((i + 1)).toNatClampNeg), .int (xs ((i + 2)).toNatClampNeg)]) (rest := []) (fun _ => j_Lsc lr_787 rfl) (c_X11_twice (xs ((i + 1)).toNatClampNeg) (xs ((i + 2)).toNatClampNeg) σ) (by decide) ex ?_
  refine x_c16b _ L xs i h0 h1 h2 h3 h4 h5 vx ?_
  rw [j_swp]
  refine j_RcSi (s := false) (D := 6) (ai := 262) (vs := [.ref 75, .int (xs ((i + 1)).toNatClampNeg), .int (xs ((i + 2)).toNatClampNeg)]) (rest := []) (fun _ => j_Lsc lr_802 rfl) (c_X12_twice (xs ((i + 1)).toNatClampNeg) (xs ((i + 2)).toNatClampNeg) τ) (by decide) em ?_
  refine x_c16d _ L xs i h0 h1 h2 h3 h4 h5 vm ?_
  rw [← j_swp]
  exact kk _ _ hR1

theorem x_case17 (L : Nat) (xs : Nat → Int32) (i : Int32) (h0 : ¬ (i < 0 ∨ L ≤ (i).toNatClampNeg)) (h1 : ¬ (i + 1 < 0 ∨ L ≤ (i + 1).toNatClampNeg)) (h2 : ¬ (i + 2 < 0 ∨ L ≤ (i + 2).toNatClampNeg)) (h3 : ¬ (i + 3 < 0 ∨ L ≤ (i + 3).toNatClampNeg)) (h4 : ¬ (i + 4 < 0 ∨ L ≤ (i + 4).toNatClampNeg)) (h5 : ¬ (i + 5 < 0 ∨ L ≤ (i + 5).toNatClampNeg)) {σ τ : j_G} (hR : j_Rel σ τ) {P : Option Value × xH × Nat × Nat → Prop} (kk : ∀ σ τ : j_G, j_Rel σ τ → x_R x_mt (some (L, xs)) 10 M_law (18, [(3, .int (i + Int32.ofInt (6))), (2, .ref 75), (1, .ref 0), (0, .ref x_scr)], [], j_hp true σ τ, 98, 10728) P) : x_R x_mt (some (L, xs)) 10 M_law (809, [(3, .int i), (2, .ref 75), (1, .ref 0), (0, .ref x_scr)], [], j_hp true σ τ, 98, 10728) P := by
  obtain ⟨vx, σ1, ex, vm, τ1, em, hR1⟩ := s_where hR (xs ((i + 1)).toNatClampNeg) (xs ((i + 2)).toNatClampNeg)
  refine x_c17a _ L xs i h0 h1 h2 h3 h4 h5 ?_
  refine j_RcSi (s := true) (D := 6) (ai := 130) (vs := [.ref 0, .int (xs ((i + 1)).toNatClampNeg), .int (xs ((i + 2)).toNatClampNeg)]) (rest := []) (fun _ => j_Lsc lr_820 rfl) (c_X11_where (xs ((i + 1)).toNatClampNeg) (xs ((i + 2)).toNatClampNeg) σ) (by decide) ex ?_
  refine x_c17b _ L xs i h0 h1 h2 h3 h4 h5 vx ?_
  rw [j_swp]
  refine j_RcSi (s := false) (D := 6) (ai := 263) (vs := [.ref 75, .int (xs ((i + 1)).toNatClampNeg), .int (xs ((i + 2)).toNatClampNeg)]) (rest := []) (fun _ => j_Lsc lr_835 rfl) (c_X12_where (xs ((i + 1)).toNatClampNeg) (xs ((i + 2)).toNatClampNeg) τ) (by decide) em ?_
  refine x_c17d _ L xs i h0 h1 h2 h3 h4 h5 vm ?_
  rw [← j_swp]
  exact kk _ _ hR1

theorem x_case18 (L : Nat) (xs : Nat → Int32) (i : Int32) (h0 : ¬ (i < 0 ∨ L ≤ (i).toNatClampNeg)) (h1 : ¬ (i + 1 < 0 ∨ L ≤ (i + 1).toNatClampNeg)) (h2 : ¬ (i + 2 < 0 ∨ L ≤ (i + 2).toNatClampNeg)) (h3 : ¬ (i + 3 < 0 ∨ L ≤ (i + 3).toNatClampNeg)) (h4 : ¬ (i + 4 < 0 ∨ L ≤ (i + 4).toNatClampNeg)) (h5 : ¬ (i + 5 < 0 ∨ L ≤ (i + 5).toNatClampNeg)) {σ τ : j_G} (hR : j_Rel σ τ) {P : Option Value × xH × Nat × Nat → Prop} (kk : ∀ σ τ : j_G, j_Rel σ τ → x_R x_mt (some (L, xs)) 10 M_law (18, [(3, .int (i + Int32.ofInt (6))), (2, .ref 75), (1, .ref 0), (0, .ref x_scr)], [], j_hp true σ τ, 98, 10728) P) : x_R x_mt (some (L, xs)) 10 M_law (842, [(3, .int i), (2, .ref 75), (1, .ref 0), (0, .ref x_scr)], [], j_hp true σ τ, 98, 10728) P := by
  obtain ⟨vx, σ1, ex, vm, τ1, em, hR1⟩ := s_missed hR (xs ((i + 1)).toNatClampNeg)
  refine x_c18a _ L xs i h0 h1 h2 h3 h4 h5 ?_
  refine j_RcSi (s := true) (D := 6) (ai := 131) (vs := [.ref 0, .int (xs ((i + 1)).toNatClampNeg)]) (rest := []) (fun _ => j_Lsc lr_848 rfl) (c_X11_missed (xs ((i + 1)).toNatClampNeg) σ) (by decide) ex ?_
  refine x_c18b _ L xs i h0 h1 h2 h3 h4 h5 vx ?_
  rw [j_swp]
  refine j_RcSi (s := false) (D := 6) (ai := 264) (vs := [.ref 75, .int (xs ((i + 1)).toNatClampNeg)]) (rest := []) (fun _ => j_Lsc lr_858 rfl) (c_X12_missed (xs ((i + 1)).toNatClampNeg) τ) (by decide) em ?_
  refine x_c18d _ L xs i h0 h1 h2 h3 h4 h5 vm ?_
  rw [← j_swp]
  exact kk _ _ hR1

theorem x_case19 (L : Nat) (xs : Nat → Int32) (i : Int32) (h0 : ¬ (i < 0 ∨ L ≤ (i).toNatClampNeg)) (h1 : ¬ (i + 1 < 0 ∨ L ≤ (i + 1).toNatClampNeg)) (h2 : ¬ (i + 2 < 0 ∨ L ≤ (i + 2).toNatClampNeg)) (h3 : ¬ (i + 3 < 0 ∨ L ≤ (i + 3).toNatClampNeg)) (h4 : ¬ (i + 4 < 0 ∨ L ≤ (i + 4).toNatClampNeg)) (h5 : ¬ (i + 5 < 0 ∨ L ≤ (i + 5).toNatClampNeg)) {σ τ : j_G} (hR : j_Rel σ τ) {P : Option Value × xH × Nat × Nat → Prop} (kk : ∀ σ τ : j_G, j_Rel σ τ → x_R x_mt (some (L, xs)) 10 M_law (18, [(3, .int (i + Int32.ofInt (6))), (2, .ref 75), (1, .ref 0), (0, .ref x_scr)], [], j_hp true σ τ, 98, 10728) P) : x_R x_mt (some (L, xs)) 10 M_law (865, [(3, .int i), (2, .ref 75), (1, .ref 0), (0, .ref x_scr)], [], j_hp true σ τ, 98, 10728) P := by
  obtain ⟨vx, σ1, ex, vm, τ1, em, hR1⟩ := s_walked hR (xs ((i + 1)).toNatClampNeg)
  refine x_c19a _ L xs i h0 h1 h2 h3 h4 h5 ?_
  refine j_RcSi (s := true) (D := 6) (ai := 132) (vs := [.ref 0, .int (xs ((i + 1)).toNatClampNeg)]) (rest := []) (fun _ => j_Lsc lr_871 rfl) (c_X11_walked (xs ((i + 1)).toNatClampNeg) σ) (by decide) ex ?_
  refine x_c19b _ L xs i h0 h1 h2 h3 h4 h5 vx ?_
  rw [j_swp]
  refine j_RcSi (s := false) (D := 6) (ai := 265) (vs := [.ref 75, .int (xs ((i + 1)).toNatClampNeg)]) (rest := []) (fun _ => j_Lsc lr_881 rfl) (c_X12_walked (xs ((i + 1)).toNatClampNeg) τ) (by decide) em ?_
  refine x_c19d _ L xs i h0 h1 h2 h3 h4 h5 vm ?_
  rw [← j_swp]
  exact kk _ _ hR1

theorem x_case20 (L : Nat) (xs : Nat → Int32) (i : Int32) (h0 : ¬ (i < 0 ∨ L ≤ (i).toNatClampNeg)) (h1 : ¬ (i + 1 < 0 ∨ L ≤ (i + 1).toNatClampNeg)) (h2 : ¬ (i + 2 < 0 ∨ L ≤ (i + 2).toNatClampNeg)) (h3 : ¬ (i + 3 < 0 ∨ L ≤ (i + 3).toNatClampNeg)) (h4 : ¬ (i + 4 < 0 ∨ L ≤ (i + 4).toNatClampNeg)) (h5 : ¬ (i + 5 < 0 ∨ L ≤ (i + 5).toNatClampNeg)) {σ τ : j_G} (hR : j_Rel σ τ) {P : Option Value × xH × Nat × Nat → Prop} (kk : ∀ σ τ : j_G, j_Rel σ τ → x_R x_mt (some (L, xs)) 10 M_law (18, [(3, .int (i + Int32.ofInt (6))), (2, .ref 75), (1, .ref 0), (0, .ref x_scr)], [], j_hp true σ τ, 98, 10728) P) : x_R x_mt (some (L, xs)) 10 M_law (888, [(3, .int i), (2, .ref 75), (1, .ref 0), (0, .ref x_scr)], [], j_hp true σ τ, 98, 10728) P := by
  obtain ⟨vx, σ1, ex, vm, τ1, em, hR1⟩ := s_best hR (xs ((i + 1)).toNatClampNeg)
  refine x_c20a _ L xs i h0 h1 h2 h3 h4 h5 ?_
  refine j_RcSi (s := true) (D := 5) (ai := 133) (vs := [.ref 0, .int (xs ((i + 1)).toNatClampNeg)]) (rest := []) (fun _ => j_Lsc lr_894 rfl) (c_X11_best (xs ((i + 1)).toNatClampNeg) σ) (by decide) ex ?_
  refine x_c20b _ L xs i h0 h1 h2 h3 h4 h5 vx ?_
  rw [j_swp]
  refine j_RcSi (s := false) (D := 5) (ai := 271) (vs := [.ref 75, .int (xs ((i + 1)).toNatClampNeg)]) (rest := []) (fun _ => j_Lsc lr_904 rfl) (c_X12_best (xs ((i + 1)).toNatClampNeg) τ) (by decide) em ?_
  refine x_c20d _ L xs i h0 h1 h2 h3 h4 h5 vm ?_
  rw [← j_swp]
  exact kk _ _ hR1

theorem x_case21 (L : Nat) (xs : Nat → Int32) (i : Int32) (h0 : ¬ (i < 0 ∨ L ≤ (i).toNatClampNeg)) (h1 : ¬ (i + 1 < 0 ∨ L ≤ (i + 1).toNatClampNeg)) (h2 : ¬ (i + 2 < 0 ∨ L ≤ (i + 2).toNatClampNeg)) (h3 : ¬ (i + 3 < 0 ∨ L ≤ (i + 3).toNatClampNeg)) (h4 : ¬ (i + 4 < 0 ∨ L ≤ (i + 4).toNatClampNeg)) (h5 : ¬ (i + 5 < 0 ∨ L ≤ (i + 5).toNatClampNeg)) {σ τ : j_G} (hR : j_Rel σ τ) {P : Option Value × xH × Nat × Nat → Prop} (kk : ∀ σ τ : j_G, j_Rel σ τ → x_R x_mt (some (L, xs)) 10 M_law (18, [(3, .int (i + Int32.ofInt (6))), (2, .ref 75), (1, .ref 0), (0, .ref x_scr)], [], j_hp true σ τ, 98, 10728) P) : x_R x_mt (some (L, xs)) 10 M_law (911, [(3, .int i), (2, .ref 75), (1, .ref 0), (0, .ref x_scr)], [], j_hp true σ τ, 98, 10728) P := by
  obtain ⟨vx, σ1, ex, vm, τ1, em, hR1⟩ := s_ahead hR (xs ((i + 1)).toNatClampNeg) (xs ((i + 2)).toNatClampNeg)
  refine x_c21a _ L xs i h0 h1 h2 h3 h4 h5 ?_
  refine j_RcSi (s := true) (D := 4) (ai := 134) (vs := [.ref 0, .int (xs ((i + 1)).toNatClampNeg), .int (xs ((i + 2)).toNatClampNeg)]) (rest := []) (fun _ => j_Lsc lr_922 rfl) (c_X11_ahead (xs ((i + 1)).toNatClampNeg) (xs ((i + 2)).toNatClampNeg) σ) (by decide) ex ?_
  refine x_c21b _ L xs i h0 h1 h2 h3 h4 h5 vx ?_
  rw [j_swp]
  refine j_RcSi (s := false) (D := 5) (ai := 272) (vs := [.ref 75, .int (xs ((i + 1)).toNatClampNeg), .int (xs ((i + 2)).toNatClampNeg)]) (rest := []) (fun _ => j_Lsc lr_937 rfl) (c_X12_ahead (xs ((i + 1)).toNatClampNeg) (xs ((i + 2)).toNatClampNeg) τ) (by decide) em ?_
  refine x_c21d _ L xs i h0 h1 h2 h3 h4 h5 vm ?_
  rw [← j_swp]
  exact kk _ _ hR1

theorem x_case22 (L : Nat) (xs : Nat → Int32) (i : Int32) (h0 : ¬ (i < 0 ∨ L ≤ (i).toNatClampNeg)) (h1 : ¬ (i + 1 < 0 ∨ L ≤ (i + 1).toNatClampNeg)) (h2 : ¬ (i + 2 < 0 ∨ L ≤ (i + 2).toNatClampNeg)) (h3 : ¬ (i + 3 < 0 ∨ L ≤ (i + 3).toNatClampNeg)) (h4 : ¬ (i + 4 < 0 ∨ L ≤ (i + 4).toNatClampNeg)) (h5 : ¬ (i + 5 < 0 ∨ L ≤ (i + 5).toNatClampNeg)) {σ τ : j_G} (hR : j_Rel σ τ) {P : Option Value × xH × Nat × Nat → Prop} (kk : ∀ σ τ : j_G, j_Rel σ τ → x_R x_mt (some (L, xs)) 10 M_law (18, [(3, .int (i + Int32.ofInt (6))), (2, .ref 75), (1, .ref 0), (0, .ref x_scr)], [], j_hp true σ τ, 98, 10728) P) : x_R x_mt (some (L, xs)) 10 M_law (944, [(3, .int i), (2, .ref 75), (1, .ref 0), (0, .ref x_scr)], [], j_hp true σ τ, 98, 10728) P := by
  obtain ⟨vx, σ1, ex, vm, τ1, em, hR1⟩ := s_learns hR (xs ((i + 1)).toNatClampNeg) (xs ((i + 2)).toNatClampNeg)
  refine x_c22a _ L xs i h0 h1 h2 h3 h4 h5 ?_
  refine j_RcSi (s := true) (D := 6) (ai := 135) (vs := [.ref 0, .int (xs ((i + 1)).toNatClampNeg), .int (xs ((i + 2)).toNatClampNeg)]) (rest := []) (fun _ => j_Lsc lr_955 rfl) (c_X11_learns (xs ((i + 1)).toNatClampNeg) (xs ((i + 2)).toNatClampNeg) σ) (by decide) ex ?_
  refine x_c22b _ L xs i h0 h1 h2 h3 h4 h5 vx ?_
  rw [j_swp]
  refine j_RcSi (s := false) (D := 6) (ai := 274) (vs := [.ref 75, .int (xs ((i + 1)).toNatClampNeg), .int (xs ((i + 2)).toNatClampNeg)]) (rest := []) (fun _ => j_Lsc lr_970 rfl) (c_X12_learns (xs ((i + 1)).toNatClampNeg) (xs ((i + 2)).toNatClampNeg) τ) (by decide) em ?_
  refine x_c22d _ L xs i h0 h1 h2 h3 h4 h5 vm ?_
  rw [← j_swp]
  exact kk _ _ hR1

theorem x_case23 (L : Nat) (xs : Nat → Int32) (i : Int32) (h0 : ¬ (i < 0 ∨ L ≤ (i).toNatClampNeg)) (h1 : ¬ (i + 1 < 0 ∨ L ≤ (i + 1).toNatClampNeg)) (h2 : ¬ (i + 2 < 0 ∨ L ≤ (i + 2).toNatClampNeg)) (h3 : ¬ (i + 3 < 0 ∨ L ≤ (i + 3).toNatClampNeg)) (h4 : ¬ (i + 4 < 0 ∨ L ≤ (i + 4).toNatClampNeg)) (h5 : ¬ (i + 5 < 0 ∨ L ≤ (i + 5).toNatClampNeg)) {σ τ : j_G} (hR : j_Rel σ τ) {P : Option Value × xH × Nat × Nat → Prop} (kk : ∀ σ τ : j_G, j_Rel σ τ → x_R x_mt (some (L, xs)) 10 M_law (18, [(3, .int (i + Int32.ofInt (6))), (2, .ref 75), (1, .ref 0), (0, .ref x_scr)], [], j_hp true σ τ, 98, 10728) P) : x_R x_mt (some (L, xs)) 10 M_law (977, [(3, .int i), (2, .ref 75), (1, .ref 0), (0, .ref x_scr)], [], j_hp true σ τ, 98, 10728) P := by
  obtain ⟨vx, σ1, ex, vm, τ1, em, hR1⟩ := s_enough hR (xs ((i + 1)).toNatClampNeg)
  refine x_c23a _ L xs i h0 h1 h2 h3 h4 h5 ?_
  refine j_RcSi (s := true) (D := 6) (ai := 136) (vs := [.ref 0, .int (xs ((i + 1)).toNatClampNeg)]) (rest := []) (fun _ => j_Lsc lr_983 rfl) (c_X11_enough (xs ((i + 1)).toNatClampNeg) σ) (by decide) ex ?_
  refine x_c23b _ L xs i h0 h1 h2 h3 h4 h5 vx ?_
  rw [j_swp]
  refine j_RcSi (s := false) (D := 6) (ai := 275) (vs := [.ref 75, .int (xs ((i + 1)).toNatClampNeg)]) (rest := []) (fun _ => j_Lsc lr_993 rfl) (c_X12_enough (xs ((i + 1)).toNatClampNeg) τ) (by decide) em ?_
  refine x_c23d _ L xs i h0 h1 h2 h3 h4 h5 vm ?_
  rw [← j_swp]
  exact kk _ _ hR1

theorem x_case24 (L : Nat) (xs : Nat → Int32) (i : Int32) (h0 : ¬ (i < 0 ∨ L ≤ (i).toNatClampNeg)) (h1 : ¬ (i + 1 < 0 ∨ L ≤ (i + 1).toNatClampNeg)) (h2 : ¬ (i + 2 < 0 ∨ L ≤ (i + 2).toNatClampNeg)) (h3 : ¬ (i + 3 < 0 ∨ L ≤ (i + 3).toNatClampNeg)) (h4 : ¬ (i + 4 < 0 ∨ L ≤ (i + 4).toNatClampNeg)) (h5 : ¬ (i + 5 < 0 ∨ L ≤ (i + 5).toNatClampNeg)) {σ τ : j_G} (hR : j_Rel σ τ) {P : Option Value × xH × Nat × Nat → Prop} (kk : ∀ σ τ : j_G, j_Rel σ τ → x_R x_mt (some (L, xs)) 10 M_law (18, [(3, .int (i + Int32.ofInt (6))), (2, .ref 75), (1, .ref 0), (0, .ref x_scr)], [], j_hp true σ τ, 98, 10728) P) : x_R x_mt (some (L, xs)) 10 M_law (1000, [(3, .int i), (2, .ref 75), (1, .ref 0), (0, .ref x_scr)], [], j_hp true σ τ, 98, 10728) P := by
  obtain ⟨vx, σ1, ex, vm, τ1, em, hR1⟩ := s_waits hR (xs ((i + 1)).toNatClampNeg) (xs ((i + 2)).toNatClampNeg)
  refine x_c24a _ L xs i h0 h1 h2 h3 h4 h5 ?_
  refine j_RcSi (s := true) (D := 5) (ai := 137) (vs := [.ref 0, .int (xs ((i + 1)).toNatClampNeg), .int (xs ((i + 2)).toNatClampNeg)]) (rest := []) (fun _ => j_Lsc lr_1011 rfl) (c_X11_waits (xs ((i + 1)).toNatClampNeg) (xs ((i + 2)).toNatClampNeg) σ) (by decide) ex ?_
  refine x_c24b _ L xs i h0 h1 h2 h3 h4 h5 vx ?_
  rw [j_swp]
  refine j_RcSi (s := false) (D := 6) (ai := 277) (vs := [.ref 75, .int (xs ((i + 1)).toNatClampNeg), .int (xs ((i + 2)).toNatClampNeg)]) (rest := []) (fun _ => j_Lsc lr_1026 rfl) (c_X12_waits (xs ((i + 1)).toNatClampNeg) (xs ((i + 2)).toNatClampNeg) τ) (by decide) em ?_
  refine x_c24d _ L xs i h0 h1 h2 h3 h4 h5 vm ?_
  rw [← j_swp]
  exact kk _ _ hR1

theorem x_case25 (L : Nat) (xs : Nat → Int32) (i : Int32) (h0 : ¬ (i < 0 ∨ L ≤ (i).toNatClampNeg)) (h1 : ¬ (i + 1 < 0 ∨ L ≤ (i + 1).toNatClampNeg)) (h2 : ¬ (i + 2 < 0 ∨ L ≤ (i + 2).toNatClampNeg)) (h3 : ¬ (i + 3 < 0 ∨ L ≤ (i + 3).toNatClampNeg)) (h4 : ¬ (i + 4 < 0 ∨ L ≤ (i + 4).toNatClampNeg)) (h5 : ¬ (i + 5 < 0 ∨ L ≤ (i + 5).toNatClampNeg)) {σ τ : j_G} (hR : j_Rel σ τ) {P : Option Value × xH × Nat × Nat → Prop} (kk : ∀ σ τ : j_G, j_Rel σ τ → x_R x_mt (some (L, xs)) 10 M_law (18, [(3, .int (i + Int32.ofInt (6))), (2, .ref 75), (1, .ref 0), (0, .ref x_scr)], [], j_hp true σ τ, 98, 10728) P) : x_R x_mt (some (L, xs)) 10 M_law (1033, [(3, .int i), (2, .ref 75), (1, .ref 0), (0, .ref x_scr)], [], j_hp true σ τ, 98, 10728) P := by
  obtain ⟨vx, ex, vm, em, hR1⟩ := s_mean hR (xs ((i + 1)).toNatClampNeg) (xs ((i + 2)).toNatClampNeg)
  refine x_c25a _ L xs i h0 h1 h2 h3 h4 h5 ?_
  refine j_RcPi (s := true) (D := 2) (ai := 140) (vs := [.ref 0, .int (xs ((i + 1)).toNatClampNeg), .int (xs ((i + 2)).toNatClampNeg)]) (rest := []) (fun _ => j_Lsc lr_1044 rfl) (c_X11_mean (xs ((i + 1)).toNatClampNeg) (xs ((i + 2)).toNatClampNeg) σ) (by decide) ex ?_
  refine x_c25b _ L xs i h0 h1 h2 h3 h4 h5 vx ?_
  rw [j_swp]
  refine j_RcPi (s := false) (D := 2) (ai := 281) (vs := [.ref 75, .int (xs ((i + 1)).toNatClampNeg), .int (xs ((i + 2)).toNatClampNeg)]) (rest := []) (fun _ => j_Lsc lr_1059 rfl) (c_X12_mean (xs ((i + 1)).toNatClampNeg) (xs ((i + 2)).toNatClampNeg) τ) (by decide) em ?_
  refine x_c25d _ L xs i h0 h1 h2 h3 h4 h5 vm ?_
  rw [← j_swp]
  exact kk _ _ hR1

theorem x_case26 (L : Nat) (xs : Nat → Int32) (i : Int32) (h0 : ¬ (i < 0 ∨ L ≤ (i).toNatClampNeg)) (h1 : ¬ (i + 1 < 0 ∨ L ≤ (i + 1).toNatClampNeg)) (h2 : ¬ (i + 2 < 0 ∨ L ≤ (i + 2).toNatClampNeg)) (h3 : ¬ (i + 3 < 0 ∨ L ≤ (i + 3).toNatClampNeg)) (h4 : ¬ (i + 4 < 0 ∨ L ≤ (i + 4).toNatClampNeg)) (h5 : ¬ (i + 5 < 0 ∨ L ≤ (i + 5).toNatClampNeg)) {σ τ : j_G} (hR : j_Rel σ τ) {P : Option Value × xH × Nat × Nat → Prop} (kk : ∀ σ τ : j_G, j_Rel σ τ → x_R x_mt (some (L, xs)) 10 M_law (18, [(3, .int (i + Int32.ofInt (6))), (2, .ref 75), (1, .ref 0), (0, .ref x_scr)], [], j_hp true σ τ, 98, 10728) P) : x_R x_mt (some (L, xs)) 10 M_law (1066, [(3, .int i), (2, .ref 75), (1, .ref 0), (0, .ref x_scr)], [], j_hp true σ τ, 98, 10728) P := by
  obtain ⟨vx, ex, vm, em, hR1⟩ := s_middle hR (xs ((i + 1)).toNatClampNeg)
  refine x_c26a _ L xs i h0 h1 h2 h3 h4 h5 ?_
  refine j_RcPi (s := true) (D := 2) (ai := 141) (vs := [.ref 0, .int (xs ((i + 1)).toNatClampNeg)]) (rest := []) (fun _ => j_Lsc lr_1072 rfl) (c_X11_middle (xs ((i + 1)).toNatClampNeg) σ) (by decide) ex ?_
  refine x_c26b _ L xs i h0 h1 h2 h3 h4 h5 vx ?_
  rw [j_swp]
  refine j_RcPi (s := false) (D := 2) (ai := 282) (vs := [.ref 75, .int (xs ((i + 1)).toNatClampNeg)]) (rest := []) (fun _ => j_Lsc lr_1082 rfl) (c_X12_middle (xs ((i + 1)).toNatClampNeg) τ) (by decide) em ?_
  refine x_c26d _ L xs i h0 h1 h2 h3 h4 h5 vm ?_
  rw [← j_swp]
  exact kk _ _ hR1

theorem x_case27 (L : Nat) (xs : Nat → Int32) (i : Int32) (h0 : ¬ (i < 0 ∨ L ≤ (i).toNatClampNeg)) (h1 : ¬ (i + 1 < 0 ∨ L ≤ (i + 1).toNatClampNeg)) (h2 : ¬ (i + 2 < 0 ∨ L ≤ (i + 2).toNatClampNeg)) (h3 : ¬ (i + 3 < 0 ∨ L ≤ (i + 3).toNatClampNeg)) (h4 : ¬ (i + 4 < 0 ∨ L ≤ (i + 4).toNatClampNeg)) (h5 : ¬ (i + 5 < 0 ∨ L ≤ (i + 5).toNatClampNeg)) {σ τ : j_G} (hR : j_Rel σ τ) {P : Option Value × xH × Nat × Nat → Prop} (kk : ∀ σ τ : j_G, j_Rel σ τ → x_R x_mt (some (L, xs)) 10 M_law (18, [(3, .int (i + Int32.ofInt (6))), (2, .ref 75), (1, .ref 0), (0, .ref x_scr)], [], j_hp true σ τ, 98, 10728) P) : x_R x_mt (some (L, xs)) 10 M_law (1089, [(3, .int i), (2, .ref 75), (1, .ref 0), (0, .ref x_scr)], [], j_hp true σ τ, 98, 10728) P := by
  obtain ⟨vx, σ1, ex, vm, em, hR1⟩ := s_reach hR (xs ((i + 1)).toNatClampNeg) (xs ((i + 2)).toNatClampNeg)
  refine x_c27a _ L xs i h0 h1 h2 h3 h4 h5 ?_
  refine j_RcSi (s := true) (D := 3) (ai := 142) (vs := [.ref 0, .int (xs ((i + 1)).toNatClampNeg), .int (xs ((i + 2)).toNatClampNeg)]) (rest := []) (fun _ => j_Lsc lr_1100 rfl) (c_X11_reach (xs ((i + 1)).toNatClampNeg) (xs ((i + 2)).toNatClampNeg) σ) (by decide) ex ?_
  refine x_c27b _ L xs i h0 h1 h2 h3 h4 h5 vx ?_
  rw [j_swp]
  refine j_RcPi (s := false) (D := 3) (ai := 284) (vs := [.ref 75, .int (xs ((i + 1)).toNatClampNeg), .int (xs ((i + 2)).toNatClampNeg)]) (rest := []) (fun _ => j_Lsc lr_1115 rfl) (c_X12_reach (xs ((i + 1)).toNatClampNeg) (xs ((i + 2)).toNatClampNeg) τ) (by decide) em ?_
  refine x_c27d _ L xs i h0 h1 h2 h3 h4 h5 vm ?_
  rw [← j_swp]
  exact kk _ _ hR1

theorem x_case28 (L : Nat) (xs : Nat → Int32) (i : Int32) (h0 : ¬ (i < 0 ∨ L ≤ (i).toNatClampNeg)) (h1 : ¬ (i + 1 < 0 ∨ L ≤ (i + 1).toNatClampNeg)) (h2 : ¬ (i + 2 < 0 ∨ L ≤ (i + 2).toNatClampNeg)) (h3 : ¬ (i + 3 < 0 ∨ L ≤ (i + 3).toNatClampNeg)) (h4 : ¬ (i + 4 < 0 ∨ L ≤ (i + 4).toNatClampNeg)) (h5 : ¬ (i + 5 < 0 ∨ L ≤ (i + 5).toNatClampNeg)) {σ τ : j_G} (hR : j_Rel σ τ) {P : Option Value × xH × Nat × Nat → Prop} (kk : ∀ σ τ : j_G, j_Rel σ τ → x_R x_mt (some (L, xs)) 10 M_law (18, [(3, .int (i + Int32.ofInt (6))), (2, .ref 75), (1, .ref 0), (0, .ref x_scr)], [], j_hp true σ τ, 98, 10728) P) : x_R x_mt (some (L, xs)) 10 M_law (1122, [(3, .int i), (2, .ref 75), (1, .ref 0), (0, .ref x_scr)], [], j_hp true σ τ, 98, 10728) P := by
  obtain ⟨vx, σ1, ex, vm, em, hR1⟩ := s_post hR (xs ((i + 1)).toNatClampNeg)
  refine x_c28a _ L xs i h0 h1 h2 h3 h4 h5 ?_
  refine j_RcSi (s := true) (D := 3) (ai := 143) (vs := [.ref 0, .int (xs ((i + 1)).toNatClampNeg)]) (rest := []) (fun _ => j_Lsc lr_1128 rfl) (c_X11_post (xs ((i + 1)).toNatClampNeg) σ) (by decide) ex ?_
  refine x_c28b _ L xs i h0 h1 h2 h3 h4 h5 vx ?_
  rw [j_swp]
  refine j_RcPi (s := false) (D := 3) (ai := 286) (vs := [.ref 75, .int (xs ((i + 1)).toNatClampNeg)]) (rest := []) (fun _ => j_Lsc lr_1138 rfl) (c_X12_post (xs ((i + 1)).toNatClampNeg) τ) (by decide) em ?_
  refine x_c28d _ L xs i h0 h1 h2 h3 h4 h5 vm ?_
  rw [← j_swp]
  exact kk _ _ hR1

theorem x_case29 (L : Nat) (xs : Nat → Int32) (i : Int32) (h0 : ¬ (i < 0 ∨ L ≤ (i).toNatClampNeg)) (h1 : ¬ (i + 1 < 0 ∨ L ≤ (i + 1).toNatClampNeg)) (h2 : ¬ (i + 2 < 0 ∨ L ≤ (i + 2).toNatClampNeg)) (h3 : ¬ (i + 3 < 0 ∨ L ≤ (i + 3).toNatClampNeg)) (h4 : ¬ (i + 4 < 0 ∨ L ≤ (i + 4).toNatClampNeg)) (h5 : ¬ (i + 5 < 0 ∨ L ≤ (i + 5).toNatClampNeg)) {σ τ : j_G} (hR : j_Rel σ τ) {P : Option Value × xH × Nat × Nat → Prop} (kk : ∀ σ τ : j_G, j_Rel σ τ → x_R x_mt (some (L, xs)) 10 M_law (18, [(3, .int (i + Int32.ofInt (6))), (2, .ref 75), (1, .ref 0), (0, .ref x_scr)], [], j_hp true σ τ, 98, 10728) P) : x_R x_mt (some (L, xs)) 10 M_law (1145, [(3, .int i), (2, .ref 75), (1, .ref 0), (0, .ref x_scr)], [], j_hp true σ τ, 98, 10728) P := by
  obtain ⟨vx, σ1, ex, vm, τ1, em, hR1⟩ := s_slack hR (xs ((i + 1)).toNatClampNeg)
  refine x_c29a _ L xs i h0 h1 h2 h3 h4 h5 ?_
  refine j_RcSi (s := true) (D := 6) (ai := 138) (vs := [.ref 0, .int (xs ((i + 1)).toNatClampNeg)]) (rest := []) (fun _ => j_Lsc lr_1151 rfl) (c_X11_slack (xs ((i + 1)).toNatClampNeg) σ) (by decide) ex ?_
  refine x_c29b _ L xs i h0 h1 h2 h3 h4 h5 vx ?_
  rw [j_swp]
  refine j_RcSi (s := false) (D := 6) (ai := 288) (vs := [.ref 75, .int (xs ((i + 1)).toNatClampNeg)]) (rest := []) (fun _ => j_Lsc lr_1161 rfl) (c_X12_slack (xs ((i + 1)).toNatClampNeg) τ) (by decide) em ?_
  refine x_c29d _ L xs i h0 h1 h2 h3 h4 h5 vm ?_
  rw [← j_swp]
  exact kk _ _ hR1

theorem x_case30 (L : Nat) (xs : Nat → Int32) (i : Int32) (h0 : ¬ (i < 0 ∨ L ≤ (i).toNatClampNeg)) (h1 : ¬ (i + 1 < 0 ∨ L ≤ (i + 1).toNatClampNeg)) (h2 : ¬ (i + 2 < 0 ∨ L ≤ (i + 2).toNatClampNeg)) (h3 : ¬ (i + 3 < 0 ∨ L ≤ (i + 3).toNatClampNeg)) (h4 : ¬ (i + 4 < 0 ∨ L ≤ (i + 4).toNatClampNeg)) (h5 : ¬ (i + 5 < 0 ∨ L ≤ (i + 5).toNatClampNeg)) {σ τ : j_G} (hR : j_Rel σ τ) {P : Option Value × xH × Nat × Nat → Prop} (kk : ∀ σ τ : j_G, j_Rel σ τ → x_R x_mt (some (L, xs)) 10 M_law (18, [(3, .int (i + Int32.ofInt (6))), (2, .ref 75), (1, .ref 0), (0, .ref x_scr)], [], j_hp true σ τ, 98, 10728) P) : x_R x_mt (some (L, xs)) 10 M_law (1168, [(3, .int i), (2, .ref 75), (1, .ref 0), (0, .ref x_scr)], [], j_hp true σ τ, 98, 10728) P := by
  obtain ⟨vx, σ1, ex, vm, τ1, em, hR1⟩ := s_rows hR (xs ((i + 1)).toNatClampNeg) (xs ((i + 2)).toNatClampNeg)
  refine x_c30a _ L xs i h0 h1 h2 h3 h4 h5 ?_
  refine j_RcSl (s := true) (D := 5) (ai := 144) (vs := [.ref 0, .int (xs ((i + 1)).toNatClampNeg), .int (xs ((i + 2)).toNatClampNeg)]) (rest := []) (fun _ => j_Lsc lr_1179 rfl) (c_X11_rows (xs ((i + 1)).toNatClampNeg) (xs ((i + 2)).toNatClampNeg) σ) (by decide) ex ?_
  refine x_c30b _ L xs i h0 h1 h2 h3 h4 h5 vx ?_
  rw [j_swp]
  refine j_RcSl (s := false) (D := 3) (ai := 293) (vs := [.ref 75, .int (xs ((i + 1)).toNatClampNeg), .int (xs ((i + 2)).toNatClampNeg)]) (rest := []) (fun _ => j_Lsc lr_1194 rfl) (c_X12_rows (xs ((i + 1)).toNatClampNeg) (xs ((i + 2)).toNatClampNeg) τ) (by decide) em ?_
  refine x_c30d _ L xs i h0 h1 h2 h3 h4 h5 vm ?_
  rw [← j_swp]
  exact kk _ _ hR1

theorem x_case31 (L : Nat) (xs : Nat → Int32) (i : Int32) (h0 : ¬ (i < 0 ∨ L ≤ (i).toNatClampNeg)) (h1 : ¬ (i + 1 < 0 ∨ L ≤ (i + 1).toNatClampNeg)) (h2 : ¬ (i + 2 < 0 ∨ L ≤ (i + 2).toNatClampNeg)) (h3 : ¬ (i + 3 < 0 ∨ L ≤ (i + 3).toNatClampNeg)) (h4 : ¬ (i + 4 < 0 ∨ L ≤ (i + 4).toNatClampNeg)) (h5 : ¬ (i + 5 < 0 ∨ L ≤ (i + 5).toNatClampNeg)) {σ τ : j_G} (hR : j_Rel σ τ) {P : Option Value × xH × Nat × Nat → Prop} (kk : ∀ σ τ : j_G, j_Rel σ τ → x_R x_mt (some (L, xs)) 10 M_law (18, [(3, .int (i + Int32.ofInt (6))), (2, .ref 75), (1, .ref 0), (0, .ref x_scr)], [], j_hp true σ τ, 98, 10728) P) : x_R x_mt (some (L, xs)) 10 M_law (1201, [(3, .int i), (2, .ref 75), (1, .ref 0), (0, .ref x_scr)], [], j_hp true σ τ, 98, 10728) P := by
  obtain ⟨vx, σ1, ex, vm, τ1, em, hR1⟩ := s_ends hR (xs ((i + 1)).toNatClampNeg) (xs ((i + 2)).toNatClampNeg) (xs ((i + 3)).toNatClampNeg)
  refine x_c31a _ L xs i h0 h1 h2 h3 h4 h5 ?_
  refine j_RcSl (s := true) (D := 5) (ai := 145) (vs := [.ref 0, .int (xs ((i + 1)).toNatClampNeg), .int (xs ((i + 2)).toNatClampNeg), .int (xs ((i + 3)).toNatClampNeg)]) (rest := []) (fun _ => j_Lsc lr_1217 rfl) (c_X11_ends (xs ((i + 1)).toNatClampNeg) (xs ((i + 2)).toNatClampNeg) (xs ((i + 3)).toNatClampNeg) σ) (by decide) ex ?_
  refine x_c31b _ L xs i h0 h1 h2 h3 h4 h5 vx ?_
  rw [j_swp]
  refine j_RcSl (s := false) (D := 3) (ai := 294) (vs := [.ref 75, .int (xs ((i + 1)).toNatClampNeg), .int (xs ((i + 2)).toNatClampNeg), .int (xs ((i + 3)).toNatClampNeg)]) (rest := []) (fun _ => j_Lsc lr_1237 rfl) (c_X12_ends (xs ((i + 1)).toNatClampNeg) (xs ((i + 2)).toNatClampNeg) (xs ((i + 3)).toNatClampNeg) τ) (by decide) em ?_
  refine x_c31d _ L xs i h0 h1 h2 h3 h4 h5 vm ?_
  rw [← j_swp]
  exact kk _ _ hR1

theorem x_case32 (L : Nat) (xs : Nat → Int32) (i : Int32) (h0 : ¬ (i < 0 ∨ L ≤ (i).toNatClampNeg)) (h1 : ¬ (i + 1 < 0 ∨ L ≤ (i + 1).toNatClampNeg)) (h2 : ¬ (i + 2 < 0 ∨ L ≤ (i + 2).toNatClampNeg)) (h3 : ¬ (i + 3 < 0 ∨ L ≤ (i + 3).toNatClampNeg)) (h4 : ¬ (i + 4 < 0 ∨ L ≤ (i + 4).toNatClampNeg)) (h5 : ¬ (i + 5 < 0 ∨ L ≤ (i + 5).toNatClampNeg)) {σ τ : j_G} (hR : j_Rel σ τ) {P : Option Value × xH × Nat × Nat → Prop} (kk : ∀ σ τ : j_G, j_Rel σ τ → x_R x_mt (some (L, xs)) 10 M_law (18, [(3, .int (i + Int32.ofInt (6))), (2, .ref 75), (1, .ref 0), (0, .ref x_scr)], [], j_hp true σ τ, 98, 10728) P) : x_R x_mt (some (L, xs)) 10 M_law (1244, [(3, .int i), (2, .ref 75), (1, .ref 0), (0, .ref x_scr)], [], j_hp true σ τ, 98, 10728) P := by
  obtain ⟨vx, σ1, ex, vm, τ1, em, hR1⟩ := s_fair hR (xs ((i + 1)).toNatClampNeg)
  refine x_c32a _ L xs i h0 h1 h2 h3 h4 h5 ?_
  refine j_RcSi (s := true) (D := 4) (ai := 146) (vs := [.ref 0, .int (xs ((i + 1)).toNatClampNeg)]) (rest := []) (fun _ => j_Lsc lr_1250 rfl) (c_X11_fair (xs ((i + 1)).toNatClampNeg) σ) (by decide) ex ?_
  refine x_c32b _ L xs i h0 h1 h2 h3 h4 h5 vx ?_
  rw [j_swp]
  refine j_RcSi (s := false) (D := 3) (ai := 295) (vs := [.ref 75, .int (xs ((i + 1)).toNatClampNeg)]) (rest := []) (fun _ => j_Lsc lr_1260 rfl) (c_X12_fair (xs ((i + 1)).toNatClampNeg) τ) (by decide) em ?_
  refine x_c32d _ L xs i h0 h1 h2 h3 h4 h5 vm ?_
  rw [← j_swp]
  exact kk _ _ hR1

theorem x_case33 (L : Nat) (xs : Nat → Int32) (i : Int32) (h0 : ¬ (i < 0 ∨ L ≤ (i).toNatClampNeg)) (h1 : ¬ (i + 1 < 0 ∨ L ≤ (i + 1).toNatClampNeg)) (h2 : ¬ (i + 2 < 0 ∨ L ≤ (i + 2).toNatClampNeg)) (h3 : ¬ (i + 3 < 0 ∨ L ≤ (i + 3).toNatClampNeg)) (h4 : ¬ (i + 4 < 0 ∨ L ≤ (i + 4).toNatClampNeg)) (h5 : ¬ (i + 5 < 0 ∨ L ≤ (i + 5).toNatClampNeg)) {σ τ : j_G} (hR : j_Rel σ τ) {P : Option Value × xH × Nat × Nat → Prop} (kk : ∀ σ τ : j_G, j_Rel σ τ → x_R x_mt (some (L, xs)) 10 M_law (18, [(3, .int (i + Int32.ofInt (6))), (2, .ref 75), (1, .ref 0), (0, .ref x_scr)], [], j_hp true σ τ, 98, 10728) P) : x_R x_mt (some (L, xs)) 10 M_law (1267, [(3, .int i), (2, .ref 75), (1, .ref 0), (0, .ref x_scr)], [], j_hp true σ τ, 98, 10728) P := by
  obtain ⟨vx, ex, vm, em, hR1⟩ := s_breaks hR (xs ((i + 1)).toNatClampNeg)
  refine x_c33a _ L xs i h0 h1 h2 h3 h4 h5 ?_
  refine j_RcPi (s := true) (D := 2) (ai := 147) (vs := [.ref 0, .int (xs ((i + 1)).toNatClampNeg)]) (rest := []) (fun _ => j_Lsc lr_1273 rfl) (c_X11_breaks (xs ((i + 1)).toNatClampNeg) σ) (by decide) ex ?_
  refine x_c33b _ L xs i h0 h1 h2 h3 h4 h5 vx ?_
  rw [j_swp]
  refine j_RcPi (s := false) (D := 2) (ai := 297) (vs := [.ref 75, .int (xs ((i + 1)).toNatClampNeg)]) (rest := []) (fun _ => j_Lsc lr_1283 rfl) (c_X12_breaks (xs ((i + 1)).toNatClampNeg) τ) (by decide) em ?_
  refine x_c33d _ L xs i h0 h1 h2 h3 h4 h5 vm ?_
  rw [← j_swp]
  exact kk _ _ hR1

theorem x_case34 (L : Nat) (xs : Nat → Int32) (i : Int32) (h0 : ¬ (i < 0 ∨ L ≤ (i).toNatClampNeg)) (h1 : ¬ (i + 1 < 0 ∨ L ≤ (i + 1).toNatClampNeg)) (h2 : ¬ (i + 2 < 0 ∨ L ≤ (i + 2).toNatClampNeg)) (h3 : ¬ (i + 3 < 0 ∨ L ≤ (i + 3).toNatClampNeg)) (h4 : ¬ (i + 4 < 0 ∨ L ≤ (i + 4).toNatClampNeg)) (h5 : ¬ (i + 5 < 0 ∨ L ≤ (i + 5).toNatClampNeg)) {σ τ : j_G} (hR : j_Rel σ τ) {P : Option Value × xH × Nat × Nat → Prop} (kk : ∀ σ τ : j_G, j_Rel σ τ → x_R x_mt (some (L, xs)) 10 M_law (18, [(3, .int (i + Int32.ofInt (6))), (2, .ref 75), (1, .ref 0), (0, .ref x_scr)], [], j_hp true σ τ, 98, 10728) P) : x_R x_mt (some (L, xs)) 10 M_law (1290, [(3, .int i), (2, .ref 75), (1, .ref 0), (0, .ref x_scr)], [], j_hp true σ τ, 98, 10728) P := by
  obtain ⟨vx, ex, vm, em, hR1⟩ := s_period hR (xs ((i + 1)).toNatClampNeg)
  refine x_c34a _ L xs i h0 h1 h2 h3 h4 h5 ?_
  refine j_RcPi (s := true) (D := 2) (ai := 148) (vs := [.ref 0, .int (xs ((i + 1)).toNatClampNeg)]) (rest := []) (fun _ => j_Lsc lr_1296 rfl) (c_X11_period (xs ((i + 1)).toNatClampNeg) σ) (by decide) ex ?_
  refine x_c34b _ L xs i h0 h1 h2 h3 h4 h5 vx ?_
  rw [j_swp]
  refine j_RcPi (s := false) (D := 3) (ai := 302) (vs := [.ref 75, .int (xs ((i + 1)).toNatClampNeg)]) (rest := []) (fun _ => j_Lsc lr_1306 rfl) (c_X12_period (xs ((i + 1)).toNatClampNeg) τ) (by decide) em ?_
  refine x_c34d _ L xs i h0 h1 h2 h3 h4 h5 vm ?_
  rw [← j_swp]
  exact kk _ _ hR1

theorem x_case35 (L : Nat) (xs : Nat → Int32) (i : Int32) (h0 : ¬ (i < 0 ∨ L ≤ (i).toNatClampNeg)) (h1 : ¬ (i + 1 < 0 ∨ L ≤ (i + 1).toNatClampNeg)) (h2 : ¬ (i + 2 < 0 ∨ L ≤ (i + 2).toNatClampNeg)) (h3 : ¬ (i + 3 < 0 ∨ L ≤ (i + 3).toNatClampNeg)) (h4 : ¬ (i + 4 < 0 ∨ L ≤ (i + 4).toNatClampNeg)) (h5 : ¬ (i + 5 < 0 ∨ L ≤ (i + 5).toNatClampNeg)) {σ τ : j_G} (hR : j_Rel σ τ) {P : Option Value × xH × Nat × Nat → Prop} (kk : ∀ σ τ : j_G, j_Rel σ τ → x_R x_mt (some (L, xs)) 10 M_law (18, [(3, .int (i + Int32.ofInt (6))), (2, .ref 75), (1, .ref 0), (0, .ref x_scr)], [], j_hp true σ τ, 98, 10728) P) : x_R x_mt (some (L, xs)) 10 M_law (1313, [(3, .int i), (2, .ref 75), (1, .ref 0), (0, .ref x_scr)], [], j_hp true σ τ, 98, 10728) P := by
  obtain ⟨vx, ex, vm, em, hR1⟩ := s_periods hR (xs ((i + 1)).toNatClampNeg)
  refine x_c35a _ L xs i h0 h1 h2 h3 h4 h5 ?_
  refine j_RcPi (s := true) (D := 2) (ai := 149) (vs := [.ref 0, .int (xs ((i + 1)).toNatClampNeg)]) (rest := []) (fun _ => j_Lsc lr_1319 rfl) (c_X11_periods (xs ((i + 1)).toNatClampNeg) σ) (by decide) ex ?_
  refine x_c35b _ L xs i h0 h1 h2 h3 h4 h5 vx ?_
  rw [j_swp]
  refine j_RcPi (s := false) (D := 3) (ai := 303) (vs := [.ref 75, .int (xs ((i + 1)).toNatClampNeg)]) (rest := []) (fun _ => j_Lsc lr_1329 rfl) (c_X12_periods (xs ((i + 1)).toNatClampNeg) τ) (by decide) em ?_
  refine x_c35d _ L xs i h0 h1 h2 h3 h4 h5 vm ?_
  rw [← j_swp]
  exact kk _ _ hR1

theorem x_case36 (L : Nat) (xs : Nat → Int32) (i : Int32) (h0 : ¬ (i < 0 ∨ L ≤ (i).toNatClampNeg)) (h1 : ¬ (i + 1 < 0 ∨ L ≤ (i + 1).toNatClampNeg)) (h2 : ¬ (i + 2 < 0 ∨ L ≤ (i + 2).toNatClampNeg)) (h3 : ¬ (i + 3 < 0 ∨ L ≤ (i + 3).toNatClampNeg)) (h4 : ¬ (i + 4 < 0 ∨ L ≤ (i + 4).toNatClampNeg)) (h5 : ¬ (i + 5 < 0 ∨ L ≤ (i + 5).toNatClampNeg)) {σ τ : j_G} (hR : j_Rel σ τ) {P : Option Value × xH × Nat × Nat → Prop} (kk : ∀ σ τ : j_G, j_Rel σ τ → x_R x_mt (some (L, xs)) 10 M_law (18, [(3, .int (i + Int32.ofInt (6))), (2, .ref 75), (1, .ref 0), (0, .ref x_scr)], [], j_hp true σ τ, 98, 10728) P) : x_R x_mt (some (L, xs)) 10 M_law (1336, [(3, .int i), (2, .ref 75), (1, .ref 0), (0, .ref x_scr)], [], j_hp true σ τ, 98, 10728) P := by
  obtain ⟨vx, ex, vm, em, hR1⟩ := s_luck hR (xs ((i + 1)).toNatClampNeg)
  refine x_c36a _ L xs i h0 h1 h2 h3 h4 h5 ?_
  refine j_RcPi (s := true) (D := 2) (ai := 150) (vs := [.ref 0, .int (xs ((i + 1)).toNatClampNeg)]) (rest := []) (fun _ => j_Lsc lr_1342 rfl) (c_X11_luck (xs ((i + 1)).toNatClampNeg) σ) (by decide) ex ?_
  refine x_c36b _ L xs i h0 h1 h2 h3 h4 h5 vx ?_
  rw [j_swp]
  refine j_RcPi (s := false) (D := 3) (ai := 304) (vs := [.ref 75, .int (xs ((i + 1)).toNatClampNeg)]) (rest := []) (fun _ => j_Lsc lr_1352 rfl) (c_X12_luck (xs ((i + 1)).toNatClampNeg) τ) (by decide) em ?_
  refine x_c36d _ L xs i h0 h1 h2 h3 h4 h5 vm ?_
  rw [← j_swp]
  exact kk _ _ hR1

theorem x_case37 (L : Nat) (xs : Nat → Int32) (i : Int32) (h0 : ¬ (i < 0 ∨ L ≤ (i).toNatClampNeg)) (h1 : ¬ (i + 1 < 0 ∨ L ≤ (i + 1).toNatClampNeg)) (h2 : ¬ (i + 2 < 0 ∨ L ≤ (i + 2).toNatClampNeg)) (h3 : ¬ (i + 3 < 0 ∨ L ≤ (i + 3).toNatClampNeg)) (h4 : ¬ (i + 4 < 0 ∨ L ≤ (i + 4).toNatClampNeg)) (h5 : ¬ (i + 5 < 0 ∨ L ≤ (i + 5).toNatClampNeg)) {σ τ : j_G} (hR : j_Rel σ τ) {P : Option Value × xH × Nat × Nat → Prop} (kk : ∀ σ τ : j_G, j_Rel σ τ → x_R x_mt (some (L, xs)) 10 M_law (18, [(3, .int (i + Int32.ofInt (6))), (2, .ref 75), (1, .ref 0), (0, .ref x_scr)], [], j_hp true σ τ, 98, 10728) P) : x_R x_mt (some (L, xs)) 10 M_law (1359, [(3, .int i), (2, .ref 75), (1, .ref 0), (0, .ref x_scr)], [], j_hp true σ τ, 98, 10728) P := by
  obtain ⟨vx, ex, vm, em, hR1⟩ := s_fits hR (xs ((i + 1)).toNatClampNeg)
  refine x_c37a _ L xs i h0 h1 h2 h3 h4 h5 ?_
  refine j_RcPi (s := true) (D := 3) (ai := 151) (vs := [.ref 0, .int (xs ((i + 1)).toNatClampNeg)]) (rest := []) (fun _ => j_Lsc lr_1365 rfl) (c_X11_fits (xs ((i + 1)).toNatClampNeg) σ) (by decide) ex ?_
  refine x_c37b _ L xs i h0 h1 h2 h3 h4 h5 vx ?_
  rw [j_swp]
  refine j_RcPi (s := false) (D := 3) (ai := 306) (vs := [.ref 75, .int (xs ((i + 1)).toNatClampNeg)]) (rest := []) (fun _ => j_Lsc lr_1375 rfl) (c_X12_fits (xs ((i + 1)).toNatClampNeg) τ) (by decide) em ?_
  refine x_c37d _ L xs i h0 h1 h2 h3 h4 h5 vm ?_
  rw [← j_swp]
  exact kk _ _ hR1

theorem x_case38 (L : Nat) (xs : Nat → Int32) (i : Int32) (h0 : ¬ (i < 0 ∨ L ≤ (i).toNatClampNeg)) (h1 : ¬ (i + 1 < 0 ∨ L ≤ (i + 1).toNatClampNeg)) (h2 : ¬ (i + 2 < 0 ∨ L ≤ (i + 2).toNatClampNeg)) (h3 : ¬ (i + 3 < 0 ∨ L ≤ (i + 3).toNatClampNeg)) (h4 : ¬ (i + 4 < 0 ∨ L ≤ (i + 4).toNatClampNeg)) (h5 : ¬ (i + 5 < 0 ∨ L ≤ (i + 5).toNatClampNeg)) {σ τ : j_G} (hR : j_Rel σ τ) {P : Option Value × xH × Nat × Nat → Prop} (kk : ∀ σ τ : j_G, j_Rel σ τ → x_R x_mt (some (L, xs)) 10 M_law (18, [(3, .int (i + Int32.ofInt (6))), (2, .ref 75), (1, .ref 0), (0, .ref x_scr)], [], j_hp true σ τ, 98, 10728) P) : x_R x_mt (some (L, xs)) 10 M_law (1382, [(3, .int i), (2, .ref 75), (1, .ref 0), (0, .ref x_scr)], [], j_hp true σ τ, 98, 10728) P := by
  obtain ⟨vx, ex, vm, em, hR1⟩ := s_place hR (xs ((i + 1)).toNatClampNeg) (xs ((i + 2)).toNatClampNeg)
  refine x_c38a _ L xs i h0 h1 h2 h3 h4 h5 ?_
  refine j_RcPi (s := true) (D := 3) (ai := 152) (vs := [.ref 0, .int (xs ((i + 1)).toNatClampNeg), .int (xs ((i + 2)).toNatClampNeg)]) (rest := []) (fun _ => j_Lsc lr_1393 rfl) (c_X11_place (xs ((i + 1)).toNatClampNeg) (xs ((i + 2)).toNatClampNeg) σ) (by decide) ex ?_
  refine x_c38b _ L xs i h0 h1 h2 h3 h4 h5 vx ?_
  rw [j_swp]
  refine j_RcPi (s := false) (D := 3) (ai := 307) (vs := [.ref 75, .int (xs ((i + 1)).toNatClampNeg), .int (xs ((i + 2)).toNatClampNeg)]) (rest := []) (fun _ => j_Lsc lr_1408 rfl) (c_X12_place (xs ((i + 1)).toNatClampNeg) (xs ((i + 2)).toNatClampNeg) τ) (by decide) em ?_
  refine x_c38d _ L xs i h0 h1 h2 h3 h4 h5 vm ?_
  rw [← j_swp]
  exact kk _ _ hR1

theorem x_case39 (L : Nat) (xs : Nat → Int32) (i : Int32) (h0 : ¬ (i < 0 ∨ L ≤ (i).toNatClampNeg)) (h1 : ¬ (i + 1 < 0 ∨ L ≤ (i + 1).toNatClampNeg)) (h2 : ¬ (i + 2 < 0 ∨ L ≤ (i + 2).toNatClampNeg)) (h3 : ¬ (i + 3 < 0 ∨ L ≤ (i + 3).toNatClampNeg)) (h4 : ¬ (i + 4 < 0 ∨ L ≤ (i + 4).toNatClampNeg)) (h5 : ¬ (i + 5 < 0 ∨ L ≤ (i + 5).toNatClampNeg)) {σ τ : j_G} (hR : j_Rel σ τ) {P : Option Value × xH × Nat × Nat → Prop} (kk : ∀ σ τ : j_G, j_Rel σ τ → x_R x_mt (some (L, xs)) 10 M_law (18, [(3, .int (i + Int32.ofInt (6))), (2, .ref 75), (1, .ref 0), (0, .ref x_scr)], [], j_hp true σ τ, 98, 10728) P) : x_R x_mt (some (L, xs)) 10 M_law (1415, [(3, .int i), (2, .ref 75), (1, .ref 0), (0, .ref x_scr)], [], j_hp true σ τ, 98, 10728) P := by
  obtain ⟨vx, ex, vm, em, hR1⟩ := s_next hR (xs ((i + 1)).toNatClampNeg)
  refine x_c39a _ L xs i h0 h1 h2 h3 h4 h5 ?_
  refine j_RcPi (s := true) (D := 3) (ai := 153) (vs := [.ref 0, .int (xs ((i + 1)).toNatClampNeg)]) (rest := []) (fun _ => j_Lsc lr_1421 rfl) (c_X11_next (xs ((i + 1)).toNatClampNeg) σ) (by decide) ex ?_
  refine x_c39b _ L xs i h0 h1 h2 h3 h4 h5 vx ?_
  rw [j_swp]
  refine j_RcPi (s := false) (D := 3) (ai := 308) (vs := [.ref 75, .int (xs ((i + 1)).toNatClampNeg)]) (rest := []) (fun _ => j_Lsc lr_1431 rfl) (c_X12_next (xs ((i + 1)).toNatClampNeg) τ) (by decide) em ?_
  refine x_c39d _ L xs i h0 h1 h2 h3 h4 h5 vm ?_
  rw [← j_swp]
  exact kk _ _ hR1

theorem x_case40 (L : Nat) (xs : Nat → Int32) (i : Int32) (h0 : ¬ (i < 0 ∨ L ≤ (i).toNatClampNeg)) (h1 : ¬ (i + 1 < 0 ∨ L ≤ (i + 1).toNatClampNeg)) (h2 : ¬ (i + 2 < 0 ∨ L ≤ (i + 2).toNatClampNeg)) (h3 : ¬ (i + 3 < 0 ∨ L ≤ (i + 3).toNatClampNeg)) (h4 : ¬ (i + 4 < 0 ∨ L ≤ (i + 4).toNatClampNeg)) (h5 : ¬ (i + 5 < 0 ∨ L ≤ (i + 5).toNatClampNeg)) {σ τ : j_G} (hR : j_Rel σ τ) {P : Option Value × xH × Nat × Nat → Prop} (kk : ∀ σ τ : j_G, j_Rel σ τ → x_R x_mt (some (L, xs)) 10 M_law (18, [(3, .int (i + Int32.ofInt (6))), (2, .ref 75), (1, .ref 0), (0, .ref x_scr)], [], j_hp true σ τ, 98, 10728) P) : x_R x_mt (some (L, xs)) 10 M_law (1438, [(3, .int i), (2, .ref 75), (1, .ref 0), (0, .ref x_scr)], [], j_hp true σ τ, 98, 10728) P := by
  obtain ⟨vx, ex, vm, em, hR1⟩ := s_needed hR (xs ((i + 1)).toNatClampNeg)
  refine x_c40a _ L xs i h0 h1 h2 h3 h4 h5 ?_
  refine j_RcPi (s := true) (D := 4) (ai := 154) (vs := [.ref 0, .int (xs ((i + 1)).toNatClampNeg)]) (rest := []) (fun _ => j_Lsc lr_1444 rfl) (c_X11_needed (xs ((i + 1)).toNatClampNeg) σ) (by decide) ex ?_
  refine x_c40b _ L xs i h0 h1 h2 h3 h4 h5 vx ?_
  rw [j_swp]
  refine j_RcPi (s := false) (D := 4) (ai := 311) (vs := [.ref 75, .int (xs ((i + 1)).toNatClampNeg)]) (rest := []) (fun _ => j_Lsc lr_1454 rfl) (c_X12_needed (xs ((i + 1)).toNatClampNeg) τ) (by decide) em ?_
  refine x_c40d _ L xs i h0 h1 h2 h3 h4 h5 vm ?_
  rw [← j_swp]
  exact kk _ _ hR1

theorem x_case41 (L : Nat) (xs : Nat → Int32) (i : Int32) (h0 : ¬ (i < 0 ∨ L ≤ (i).toNatClampNeg)) (h1 : ¬ (i + 1 < 0 ∨ L ≤ (i + 1).toNatClampNeg)) (h2 : ¬ (i + 2 < 0 ∨ L ≤ (i + 2).toNatClampNeg)) (h3 : ¬ (i + 3 < 0 ∨ L ≤ (i + 3).toNatClampNeg)) (h4 : ¬ (i + 4 < 0 ∨ L ≤ (i + 4).toNatClampNeg)) (h5 : ¬ (i + 5 < 0 ∨ L ≤ (i + 5).toNatClampNeg)) {σ τ : j_G} (hR : j_Rel σ τ) {P : Option Value × xH × Nat × Nat → Prop} (kk : ∀ σ τ : j_G, j_Rel σ τ → x_R x_mt (some (L, xs)) 10 M_law (18, [(3, .int (i + Int32.ofInt (6))), (2, .ref 75), (1, .ref 0), (0, .ref x_scr)], [], j_hp true σ τ, 98, 10728) P) : x_R x_mt (some (L, xs)) 10 M_law (1461, [(3, .int i), (2, .ref 75), (1, .ref 0), (0, .ref x_scr)], [], j_hp true σ τ, 98, 10728) P := by
  obtain ⟨vx, ex, vm, em, hR1⟩ := s_known hR 
  refine x_c41a _ L xs i h0 h1 h2 h3 h4 h5 ?_
  refine j_RcPi (s := true) (D := 4) (ai := 155) (vs := [.ref 0]) (rest := []) (fun _ => j_Lsc lr_1462 rfl) (c_X11_known  σ) (by decide) ex ?_
  refine x_c41b _ L xs i h0 h1 h2 h3 h4 h5 vx ?_
  rw [j_swp]
  refine j_RcPi (s := false) (D := 4) (ai := 312) (vs := [.ref 75]) (rest := []) (fun _ => j_Lsc lr_1467 rfl) (c_X12_known  τ) (by decide) em ?_
  refine x_c41d _ L xs i h0 h1 h2 h3 h4 h5 vm ?_
  rw [← j_swp]
  exact kk _ _ hR1

theorem x_case42 (L : Nat) (xs : Nat → Int32) (i : Int32) (h0 : ¬ (i < 0 ∨ L ≤ (i).toNatClampNeg)) (h1 : ¬ (i + 1 < 0 ∨ L ≤ (i + 1).toNatClampNeg)) (h2 : ¬ (i + 2 < 0 ∨ L ≤ (i + 2).toNatClampNeg)) (h3 : ¬ (i + 3 < 0 ∨ L ≤ (i + 3).toNatClampNeg)) (h4 : ¬ (i + 4 < 0 ∨ L ≤ (i + 4).toNatClampNeg)) (h5 : ¬ (i + 5 < 0 ∨ L ≤ (i + 5).toNatClampNeg)) {σ τ : j_G} (hR : j_Rel σ τ) {P : Option Value × xH × Nat × Nat → Prop} (kk : ∀ σ τ : j_G, j_Rel σ τ → x_R x_mt (some (L, xs)) 10 M_law (18, [(3, .int (i + Int32.ofInt (6))), (2, .ref 75), (1, .ref 0), (0, .ref x_scr)], [], j_hp true σ τ, 98, 10728) P) : x_R x_mt (some (L, xs)) 10 M_law (1474, [(3, .int i), (2, .ref 75), (1, .ref 0), (0, .ref x_scr)], [], j_hp true σ τ, 98, 10728) P := by
  obtain ⟨vx, σ1, ex, vm, τ1, em, hR1⟩ := s_rash hR (xs ((i + 1)).toNatClampNeg)
  refine x_c42a _ L xs i h0 h1 h2 h3 h4 h5 ?_
  refine j_RcSi (s := true) (D := 5) (ai := 156) (vs := [.ref 0, .int (xs ((i + 1)).toNatClampNeg)]) (rest := []) (fun _ => j_Lsc lr_1480 rfl) (c_X11_rash (xs ((i + 1)).toNatClampNeg) σ) (by decide) ex ?_
  refine x_c42b _ L xs i h0 h1 h2 h3 h4 h5 vx ?_
  rw [j_swp]
  refine j_RcSi (s := false) (D := 6) (ai := 314) (vs := [.ref 75, .int (xs ((i + 1)).toNatClampNeg)]) (rest := []) (fun _ => j_Lsc lr_1490 rfl) (c_X12_rash (xs ((i + 1)).toNatClampNeg) τ) (by decide) em ?_
  refine x_c42d _ L xs i h0 h1 h2 h3 h4 h5 vm ?_
  rw [← j_swp]
  exact kk _ _ hR1

theorem x_case43 (L : Nat) (xs : Nat → Int32) (i : Int32) (h0 : ¬ (i < 0 ∨ L ≤ (i).toNatClampNeg)) (h1 : ¬ (i + 1 < 0 ∨ L ≤ (i + 1).toNatClampNeg)) (h2 : ¬ (i + 2 < 0 ∨ L ≤ (i + 2).toNatClampNeg)) (h3 : ¬ (i + 3 < 0 ∨ L ≤ (i + 3).toNatClampNeg)) (h4 : ¬ (i + 4 < 0 ∨ L ≤ (i + 4).toNatClampNeg)) (h5 : ¬ (i + 5 < 0 ∨ L ≤ (i + 5).toNatClampNeg)) {σ τ : j_G} (hR : j_Rel σ τ) {P : Option Value × xH × Nat × Nat → Prop} (kk : ∀ σ τ : j_G, j_Rel σ τ → x_R x_mt (some (L, xs)) 10 M_law (18, [(3, .int (i + Int32.ofInt (6))), (2, .ref 75), (1, .ref 0), (0, .ref x_scr)], [], j_hp true σ τ, 98, 10728) P) : x_R x_mt (some (L, xs)) 10 M_law (1497, [(3, .int i), (2, .ref 75), (1, .ref 0), (0, .ref x_scr)], [], j_hp true σ τ, 98, 10728) P := by
  obtain ⟨vx, σ1, ex, vm, τ1, em, hR1⟩ := s_look hR (xs ((i + 1)).toNatClampNeg) (xs ((i + 2)).toNatClampNeg)
  refine x_c43a _ L xs i h0 h1 h2 h3 h4 h5 ?_
  refine j_RcSi (s := true) (D := 6) (ai := 157) (vs := [.ref 0, .int (xs ((i + 1)).toNatClampNeg), .int (xs ((i + 2)).toNatClampNeg)]) (rest := []) (fun _ => j_Lsc lr_1508 rfl) (c_X11_look (xs ((i + 1)).toNatClampNeg) (xs ((i + 2)).toNatClampNeg) σ) (by decide) ex ?_
  refine x_c43b _ L xs i h0 h1 h2 h3 h4 h5 vx ?_
  rw [j_swp]
  refine j_RcSi (s := false) (D := 6) (ai := 316) (vs := [.ref 75, .int (xs ((i + 1)).toNatClampNeg), .int (xs ((i + 2)).toNatClampNeg)]) (rest := []) (fun _ => j_Lsc lr_1523 rfl) (c_X12_look (xs ((i + 1)).toNatClampNeg) (xs ((i + 2)).toNatClampNeg) τ) (by decide) em ?_
  refine x_c43d _ L xs i h0 h1 h2 h3 h4 h5 vm ?_
  rw [← j_swp]
  exact kk _ _ hR1

theorem x_case44 (L : Nat) (xs : Nat → Int32) (i : Int32) (h0 : ¬ (i < 0 ∨ L ≤ (i).toNatClampNeg)) (h1 : ¬ (i + 1 < 0 ∨ L ≤ (i + 1).toNatClampNeg)) (h2 : ¬ (i + 2 < 0 ∨ L ≤ (i + 2).toNatClampNeg)) (h3 : ¬ (i + 3 < 0 ∨ L ≤ (i + 3).toNatClampNeg)) (h4 : ¬ (i + 4 < 0 ∨ L ≤ (i + 4).toNatClampNeg)) (h5 : ¬ (i + 5 < 0 ∨ L ≤ (i + 5).toNatClampNeg)) {σ τ : j_G} (hR : j_Rel σ τ) {P : Option Value × xH × Nat × Nat → Prop} (kk : ∀ σ τ : j_G, j_Rel σ τ → x_R x_mt (some (L, xs)) 10 M_law (18, [(3, .int (i + Int32.ofInt (6))), (2, .ref 75), (1, .ref 0), (0, .ref x_scr)], [], j_hp true σ τ, 98, 10728) P) : x_R x_mt (some (L, xs)) 10 M_law (1530, [(3, .int i), (2, .ref 75), (1, .ref 0), (0, .ref x_scr)], [], j_hp true σ τ, 98, 10728) P := by
  obtain ⟨vx, σ1, ex, vm, τ1, em, hR1⟩ := s_line hR (xs ((i + 1)).toNatClampNeg)
  refine x_c44a _ L xs i h0 h1 h2 h3 h4 h5 ?_
  refine j_RcSi (s := true) (D := 6) (ai := 158) (vs := [.ref 0, .int (xs ((i + 1)).toNatClampNeg)]) (rest := []) (fun _ => j_Lsc lr_1536 rfl) (c_X11_line (xs ((i + 1)).toNatClampNeg) σ) (by decide) ex ?_
  refine x_c44b _ L xs i h0 h1 h2 h3 h4 h5 vx ?_
  rw [j_swp]
  refine j_RcSi (s := false) (D := 6) (ai := 317) (vs := [.ref 75, .int (xs ((i + 1)).toNatClampNeg)]) (rest := []) (fun _ => j_Lsc lr_1546 rfl) (c_X12_line (xs ((i + 1)).toNatClampNeg) τ) (by decide) em ?_
  refine x_c44d _ L xs i h0 h1 h2 h3 h4 h5 vm ?_
  rw [← j_swp]
  exact kk _ _ hR1

theorem x_case45 (L : Nat) (xs : Nat → Int32) (i : Int32) (h0 : ¬ (i < 0 ∨ L ≤ (i).toNatClampNeg)) (h1 : ¬ (i + 1 < 0 ∨ L ≤ (i + 1).toNatClampNeg)) (h2 : ¬ (i + 2 < 0 ∨ L ≤ (i + 2).toNatClampNeg)) (h3 : ¬ (i + 3 < 0 ∨ L ≤ (i + 3).toNatClampNeg)) (h4 : ¬ (i + 4 < 0 ∨ L ≤ (i + 4).toNatClampNeg)) (h5 : ¬ (i + 5 < 0 ∨ L ≤ (i + 5).toNatClampNeg)) {σ τ : j_G} (hR : j_Rel σ τ) {P : Option Value × xH × Nat × Nat → Prop} (kk : ∀ σ τ : j_G, j_Rel σ τ → x_R x_mt (some (L, xs)) 10 M_law (18, [(3, .int (i + Int32.ofInt (6))), (2, .ref 75), (1, .ref 0), (0, .ref x_scr)], [], j_hp true σ τ, 98, 10728) P) : x_R x_mt (some (L, xs)) 10 M_law (1553, [(3, .int i), (2, .ref 75), (1, .ref 0), (0, .ref x_scr)], [], j_hp true σ τ, 98, 10728) P := by
  obtain ⟨vx, σ1, ex, vm, τ1, em, hR1, eq⟩ := s_two hR (xs ((i + 1)).toNatClampNeg) (xs ((i + 2)).toNatClampNeg) (xs ((i + 3)).toNatClampNeg)
  refine x_c45a _ L xs i h0 h1 h2 h3 h4 h5 ?_
  refine j_RcSi (s := true) (D := 5) (ai := 159) (vs := [.ref 0, .int (xs ((i + 1)).toNatClampNeg), .int (xs ((i + 2)).toNatClampNeg), .int (xs ((i + 3)).toNatClampNeg)]) (rest := []) (fun _ => j_Lsc lr_1569 rfl) (c_X11_two (xs ((i + 1)).toNatClampNeg) (xs ((i + 2)).toNatClampNeg) (xs ((i + 3)).toNatClampNeg) σ) (by decide) ex ?_
  refine x_c45b _ L xs i h0 h1 h2 h3 h4 h5 vx ?_
  rw [j_swp]
  refine j_RcSi (s := false) (D := 6) (ai := 319) (vs := [.ref 75, .int (xs ((i + 1)).toNatClampNeg), .int (xs ((i + 2)).toNatClampNeg), .int (xs ((i + 3)).toNatClampNeg)]) (rest := [.int vx]) (fun _ => j_Lsc lr_1588 rfl) (c_X12_two (xs ((i + 1)).toNatClampNeg) (xs ((i + 2)).toNatClampNeg) (xs ((i + 3)).toNatClampNeg) τ) (by decide) em ?_
  subst eq
  refine x_c45c _ L xs i vx ?_
  refine x_c45d _ L xs i h0 h1 h2 h3 h4 h5 ?_
  rw [← j_swp]
  exact kk _ _ hR1

theorem x_case46 (L : Nat) (xs : Nat → Int32) (i : Int32) (h0 : ¬ (i < 0 ∨ L ≤ (i).toNatClampNeg)) (h1 : ¬ (i + 1 < 0 ∨ L ≤ (i + 1).toNatClampNeg)) (h2 : ¬ (i + 2 < 0 ∨ L ≤ (i + 2).toNatClampNeg)) (h3 : ¬ (i + 3 < 0 ∨ L ≤ (i + 3).toNatClampNeg)) (h4 : ¬ (i + 4 < 0 ∨ L ≤ (i + 4).toNatClampNeg)) (h5 : ¬ (i + 5 < 0 ∨ L ≤ (i + 5).toNatClampNeg)) {σ τ : j_G} (hR : j_Rel σ τ) {P : Option Value × xH × Nat × Nat → Prop} (kk : ∀ σ τ : j_G, j_Rel σ τ → x_R x_mt (some (L, xs)) 10 M_law (18, [(3, .int (i + Int32.ofInt (6))), (2, .ref 75), (1, .ref 0), (0, .ref x_scr)], [], j_hp true σ τ, 98, 10728) P) : x_R x_mt (some (L, xs)) 10 M_law (1596, [(3, .int i), (2, .ref 75), (1, .ref 0), (0, .ref x_scr)], [], j_hp true σ τ, 98, 10728) P := by
  obtain ⟨vx, σ1, ex, vm, τ1, em, hR1⟩ := s_tickets hR (xs ((i + 1)).toNatClampNeg)
  refine x_c46a _ L xs i h0 h1 h2 h3 h4 h5 ?_
  refine j_RcSi (s := true) (D := 6) (ai := 160) (vs := [.ref 0, .int (xs ((i + 1)).toNatClampNeg)]) (rest := []) (fun _ => j_Lsc lr_1602 rfl) (c_X11_tickets (xs ((i + 1)).toNatClampNeg) σ) (by decide) ex ?_
  refine x_c46b _ L xs i h0 h1 h2 h3 h4 h5 vx ?_
  rw [j_swp]
  refine j_RcSi (s := false) (D := 7) (ai := 321) (vs := [.ref 75, .int (xs ((i + 1)).toNatClampNeg)]) (rest := []) (fun _ => j_Lsc lr_1612 rfl) (c_X12_tickets (xs ((i + 1)).toNatClampNeg) τ) (by decide) em ?_
  refine x_c46d _ L xs i h0 h1 h2 h3 h4 h5 vm ?_
  rw [← j_swp]
  exact kk _ _ hR1

theorem x_case47 (L : Nat) (xs : Nat → Int32) (i : Int32) (h0 : ¬ (i < 0 ∨ L ≤ (i).toNatClampNeg)) (h1 : ¬ (i + 1 < 0 ∨ L ≤ (i + 1).toNatClampNeg)) (h2 : ¬ (i + 2 < 0 ∨ L ≤ (i + 2).toNatClampNeg)) (h3 : ¬ (i + 3 < 0 ∨ L ≤ (i + 3).toNatClampNeg)) (h4 : ¬ (i + 4 < 0 ∨ L ≤ (i + 4).toNatClampNeg)) (h5 : ¬ (i + 5 < 0 ∨ L ≤ (i + 5).toNatClampNeg)) {σ τ : j_G} (hR : j_Rel σ τ) {P : Option Value × xH × Nat × Nat → Prop} (kk : ∀ σ τ : j_G, j_Rel σ τ → x_R x_mt (some (L, xs)) 10 M_law (18, [(3, .int (i + Int32.ofInt (6))), (2, .ref 75), (1, .ref 0), (0, .ref x_scr)], [], j_hp true σ τ, 98, 10728) P) : x_R x_mt (some (L, xs)) 10 M_law (1619, [(3, .int i), (2, .ref 75), (1, .ref 0), (0, .ref x_scr)], [], j_hp true σ τ, 98, 10728) P := by
  obtain ⟨vx, σ1, ex, vm, τ1, em, hR1⟩ := s_prize hR (xs ((i + 1)).toNatClampNeg)
  refine x_c47a _ L xs i h0 h1 h2 h3 h4 h5 ?_
  refine j_RcSi (s := true) (D := 6) (ai := 161) (vs := [.ref 0, .int (xs ((i + 1)).toNatClampNeg)]) (rest := []) (fun _ => j_Lsc lr_1625 rfl) (c_X11_prize (xs ((i + 1)).toNatClampNeg) σ) (by decide) ex ?_
  refine x_c47b _ L xs i h0 h1 h2 h3 h4 h5 vx ?_
  rw [j_swp]
  refine j_RcSi (s := false) (D := 7) (ai := 322) (vs := [.ref 75, .int (xs ((i + 1)).toNatClampNeg)]) (rest := []) (fun _ => j_Lsc lr_1635 rfl) (c_X12_prize (xs ((i + 1)).toNatClampNeg) τ) (by decide) em ?_
  refine x_c47d _ L xs i h0 h1 h2 h3 h4 h5 vm ?_
  rw [← j_swp]
  exact kk _ _ hR1

theorem x_case48 (L : Nat) (xs : Nat → Int32) (i : Int32) (h0 : ¬ (i < 0 ∨ L ≤ (i).toNatClampNeg)) (h1 : ¬ (i + 1 < 0 ∨ L ≤ (i + 1).toNatClampNeg)) (h2 : ¬ (i + 2 < 0 ∨ L ≤ (i + 2).toNatClampNeg)) (h3 : ¬ (i + 3 < 0 ∨ L ≤ (i + 3).toNatClampNeg)) (h4 : ¬ (i + 4 < 0 ∨ L ≤ (i + 4).toNatClampNeg)) (h5 : ¬ (i + 5 < 0 ∨ L ≤ (i + 5).toNatClampNeg)) {σ τ : j_G} (hR : j_Rel σ τ) {P : Option Value × xH × Nat × Nat → Prop} (kk : ∀ σ τ : j_G, j_Rel σ τ → x_R x_mt (some (L, xs)) 10 M_law (18, [(3, .int (i + Int32.ofInt (6))), (2, .ref 75), (1, .ref 0), (0, .ref x_scr)], [], j_hp true σ τ, 98, 10728) P) : x_R x_mt (some (L, xs)) 10 M_law (1642, [(3, .int i), (2, .ref 75), (1, .ref 0), (0, .ref x_scr)], [], j_hp true σ τ, 98, 10728) P := by
  obtain ⟨vx, σ1, ex, vm, τ1, em, hR1⟩ := s_counted hR (xs ((i + 1)).toNatClampNeg)
  refine x_c48a _ L xs i h0 h1 h2 h3 h4 h5 ?_
  refine j_RcSi (s := true) (D := 4) (ai := 162) (vs := [.ref 0, .int (xs ((i + 1)).toNatClampNeg)]) (rest := []) (fun _ => j_Lsc lr_1648 rfl) (c_X11_counted (xs ((i + 1)).toNatClampNeg) σ) (by decide) ex ?_
  refine x_c48b _ L xs i h0 h1 h2 h3 h4 h5 vx ?_
  rw [j_swp]
  refine j_RcSi (s := false) (D := 4) (ai := 326) (vs := [.ref 75, .int (xs ((i + 1)).toNatClampNeg)]) (rest := []) (fun _ => j_Lsc lr_1658 rfl) (c_X12_counted (xs ((i + 1)).toNatClampNeg) τ) (by decide) em ?_
  refine x_c48d _ L xs i h0 h1 h2 h3 h4 h5 vm ?_
  rw [← j_swp]
  exact kk _ _ hR1

theorem x_case49 (L : Nat) (xs : Nat → Int32) (i : Int32) (h0 : ¬ (i < 0 ∨ L ≤ (i).toNatClampNeg)) (h1 : ¬ (i + 1 < 0 ∨ L ≤ (i + 1).toNatClampNeg)) (h2 : ¬ (i + 2 < 0 ∨ L ≤ (i + 2).toNatClampNeg)) (h3 : ¬ (i + 3 < 0 ∨ L ≤ (i + 3).toNatClampNeg)) (h4 : ¬ (i + 4 < 0 ∨ L ≤ (i + 4).toNatClampNeg)) (h5 : ¬ (i + 5 < 0 ∨ L ≤ (i + 5).toNatClampNeg)) {σ τ : j_G} (hR : j_Rel σ τ) {P : Option Value × xH × Nat × Nat → Prop} (kk : ∀ σ τ : j_G, j_Rel σ τ → x_R x_mt (some (L, xs)) 10 M_law (18, [(3, .int (i + Int32.ofInt (6))), (2, .ref 75), (1, .ref 0), (0, .ref x_scr)], [], j_hp true σ τ, 98, 10728) P) : x_R x_mt (some (L, xs)) 10 M_law (1665, [(3, .int i), (2, .ref 75), (1, .ref 0), (0, .ref x_scr)], [], j_hp true σ τ, 98, 10728) P := by
  obtain ⟨vx, σ1, ex, vm, τ1, em, hR1⟩ := s_scored hR (xs ((i + 1)).toNatClampNeg)
  refine x_c49a _ L xs i h0 h1 h2 h3 h4 h5 ?_
  refine j_RcSi (s := true) (D := 4) (ai := 163) (vs := [.ref 0, .int (xs ((i + 1)).toNatClampNeg)]) (rest := []) (fun _ => j_Lsc lr_1671 rfl) (c_X11_scored (xs ((i + 1)).toNatClampNeg) σ) (by decide) ex ?_
  refine x_c49b _ L xs i h0 h1 h2 h3 h4 h5 vx ?_
  rw [j_swp]
  refine j_RcSi (s := false) (D := 4) (ai := 327) (vs := [.ref 75, .int (xs ((i + 1)).toNatClampNeg)]) (rest := []) (fun _ => j_Lsc lr_1681 rfl) (c_X12_scored (xs ((i + 1)).toNatClampNeg) τ) (by decide) em ?_
  refine x_c49d _ L xs i h0 h1 h2 h3 h4 h5 vm ?_
  rw [← j_swp]
  exact kk _ _ hR1

theorem x_case50 (L : Nat) (xs : Nat → Int32) (i : Int32) (h0 : ¬ (i < 0 ∨ L ≤ (i).toNatClampNeg)) (h1 : ¬ (i + 1 < 0 ∨ L ≤ (i + 1).toNatClampNeg)) (h2 : ¬ (i + 2 < 0 ∨ L ≤ (i + 2).toNatClampNeg)) (h3 : ¬ (i + 3 < 0 ∨ L ≤ (i + 3).toNatClampNeg)) (h4 : ¬ (i + 4 < 0 ∨ L ≤ (i + 4).toNatClampNeg)) (h5 : ¬ (i + 5 < 0 ∨ L ≤ (i + 5).toNatClampNeg)) {σ τ : j_G} (hR : j_Rel σ τ) {P : Option Value × xH × Nat × Nat → Prop} (kk : ∀ σ τ : j_G, j_Rel σ τ → x_R x_mt (some (L, xs)) 10 M_law (18, [(3, .int (i + Int32.ofInt (6))), (2, .ref 75), (1, .ref 0), (0, .ref x_scr)], [], j_hp true σ τ, 98, 10728) P) : x_R x_mt (some (L, xs)) 10 M_law (1688, [(3, .int i), (2, .ref 75), (1, .ref 0), (0, .ref x_scr)], [], j_hp true σ τ, 98, 10728) P := by
  obtain ⟨vx, σ1, ex, vm, τ1, em, hR1⟩ := s_early hR (xs ((i + 1)).toNatClampNeg) (xs ((i + 2)).toNatClampNeg)
  refine x_c50a _ L xs i h0 h1 h2 h3 h4 h5 ?_
  refine j_RcSi (s := true) (D := 4) (ai := 164) (vs := [.ref 0, .int (xs ((i + 1)).toNatClampNeg), .int (xs ((i + 2)).toNatClampNeg)]) (rest := []) (fun _ => j_Lsc lr_1699 rfl) (c_X11_early (xs ((i + 1)).toNatClampNeg) (xs ((i + 2)).toNatClampNeg) σ) (by decide) ex ?_
  refine x_c50b _ L xs i h0 h1 h2 h3 h4 h5 vx ?_
  rw [j_swp]
  refine j_RcSi (s := false) (D := 4) (ai := 328) (vs := [.ref 75, .int (xs ((i + 1)).toNatClampNeg), .int (xs ((i + 2)).toNatClampNeg)]) (rest := []) (fun _ => j_Lsc lr_1714 rfl) (c_X12_early (xs ((i + 1)).toNatClampNeg) (xs ((i + 2)).toNatClampNeg) τ) (by decide) em ?_
  refine x_c50d _ L xs i h0 h1 h2 h3 h4 h5 vm ?_
  rw [← j_swp]
  exact kk _ _ hR1

theorem x_case51 (L : Nat) (xs : Nat → Int32) (i : Int32) (h0 : ¬ (i < 0 ∨ L ≤ (i).toNatClampNeg)) (h1 : ¬ (i + 1 < 0 ∨ L ≤ (i + 1).toNatClampNeg)) (h2 : ¬ (i + 2 < 0 ∨ L ≤ (i + 2).toNatClampNeg)) (h3 : ¬ (i + 3 < 0 ∨ L ≤ (i + 3).toNatClampNeg)) (h4 : ¬ (i + 4 < 0 ∨ L ≤ (i + 4).toNatClampNeg)) (h5 : ¬ (i + 5 < 0 ∨ L ≤ (i + 5).toNatClampNeg)) {σ τ : j_G} (hR : j_Rel σ τ) {P : Option Value × xH × Nat × Nat → Prop} (kk : ∀ σ τ : j_G, j_Rel σ τ → x_R x_mt (some (L, xs)) 10 M_law (18, [(3, .int (i + Int32.ofInt (6))), (2, .ref 75), (1, .ref 0), (0, .ref x_scr)], [], j_hp true σ τ, 98, 10728) P) : x_R x_mt (some (L, xs)) 10 M_law (1721, [(3, .int i), (2, .ref 75), (1, .ref 0), (0, .ref x_scr)], [], j_hp true σ τ, 98, 10728) P := by
  obtain ⟨vx, ex, vm, em, hR1⟩ := s_often hR (xs ((i + 1)).toNatClampNeg)
  refine x_c51a _ L xs i h0 h1 h2 h3 h4 h5 ?_
  refine j_RcPi (s := true) (D := 2) (ai := 165) (vs := [.ref 0, .int (xs ((i + 1)).toNatClampNeg)]) (rest := []) (fun _ => j_Lsc lr_1727 rfl) (c_X11_often (xs ((i + 1)).toNatClampNeg) σ) (by decide) ex ?_
  refine x_c51b _ L xs i h0 h1 h2 h3 h4 h5 vx ?_
  rw [j_swp]
  refine j_RcPi (s := false) (D := 2) (ai := 330) (vs := [.ref 75, .int (xs ((i + 1)).toNatClampNeg)]) (rest := []) (fun _ => j_Lsc lr_1737 rfl) (c_X12_often (xs ((i + 1)).toNatClampNeg) τ) (by decide) em ?_
  refine x_c51d _ L xs i h0 h1 h2 h3 h4 h5 vm ?_
  rw [← j_swp]
  exact kk _ _ hR1

theorem x_case52 (L : Nat) (xs : Nat → Int32) (i : Int32) (h0 : ¬ (i < 0 ∨ L ≤ (i).toNatClampNeg)) (h1 : ¬ (i + 1 < 0 ∨ L ≤ (i + 1).toNatClampNeg)) (h2 : ¬ (i + 2 < 0 ∨ L ≤ (i + 2).toNatClampNeg)) (h3 : ¬ (i + 3 < 0 ∨ L ≤ (i + 3).toNatClampNeg)) (h4 : ¬ (i + 4 < 0 ∨ L ≤ (i + 4).toNatClampNeg)) (h5 : ¬ (i + 5 < 0 ∨ L ≤ (i + 5).toNatClampNeg)) {σ τ : j_G} (hR : j_Rel σ τ) {P : Option Value × xH × Nat × Nat → Prop} (kk : ∀ σ τ : j_G, j_Rel σ τ → x_R x_mt (some (L, xs)) 10 M_law (18, [(3, .int (i + Int32.ofInt (6))), (2, .ref 75), (1, .ref 0), (0, .ref x_scr)], [], j_hp true σ τ, 98, 10728) P) : x_R x_mt (some (L, xs)) 10 M_law (1744, [(3, .int i), (2, .ref 75), (1, .ref 0), (0, .ref x_scr)], [], j_hp true σ τ, 98, 10728) P := by
  obtain ⟨vx, ex, vm, em, hR1⟩ := s_balance hR 
  refine x_c52a _ L xs i h0 h1 h2 h3 h4 h5 ?_
  refine j_RcPi (s := true) (D := 1) (ai := 166) (vs := [.ref 0]) (rest := []) (fun _ => j_Lsc lr_1745 rfl) (c_X11_balance  σ) (by decide) ex ?_
  refine x_c52b _ L xs i h0 h1 h2 h3 h4 h5 vx ?_
  rw [j_swp]
  refine j_RcPi (s := false) (D := 2) (ai := 331) (vs := [.ref 75]) (rest := []) (fun _ => j_Lsc lr_1750 rfl) (c_X12_balance  τ) (by decide) em ?_
  refine x_c52d _ L xs i h0 h1 h2 h3 h4 h5 vm ?_
  rw [← j_swp]
  exact kk _ _ hR1

theorem x_case53 (L : Nat) (xs : Nat → Int32) (i : Int32) (h0 : ¬ (i < 0 ∨ L ≤ (i).toNatClampNeg)) (h1 : ¬ (i + 1 < 0 ∨ L ≤ (i + 1).toNatClampNeg)) (h2 : ¬ (i + 2 < 0 ∨ L ≤ (i + 2).toNatClampNeg)) (h3 : ¬ (i + 3 < 0 ∨ L ≤ (i + 3).toNatClampNeg)) (h4 : ¬ (i + 4 < 0 ∨ L ≤ (i + 4).toNatClampNeg)) (h5 : ¬ (i + 5 < 0 ∨ L ≤ (i + 5).toNatClampNeg)) {σ τ : j_G} (hR : j_Rel σ τ) {P : Option Value × xH × Nat × Nat → Prop} (kk : ∀ σ τ : j_G, j_Rel σ τ → x_R x_mt (some (L, xs)) 10 M_law (18, [(3, .int (i + Int32.ofInt (6))), (2, .ref 75), (1, .ref 0), (0, .ref x_scr)], [], j_hp true σ τ, 98, 10728) P) : x_R x_mt (some (L, xs)) 10 M_law (1757, [(3, .int i), (2, .ref 75), (1, .ref 0), (0, .ref x_scr)], [], j_hp true σ τ, 98, 10728) P := by
  obtain ⟨vx, ex, vm, em, hR1⟩ := s_path hR 
  refine x_c53a _ L xs i h0 h1 h2 h3 h4 h5 ?_
  refine j_RcPi (s := true) (D := 3) (ai := 167) (vs := [.ref 0]) (rest := []) (fun _ => j_Lsc lr_1758 rfl) (c_X11_path  σ) (by decide) ex ?_
  refine x_c53b _ L xs i h0 h1 h2 h3 h4 h5 vx ?_
  rw [j_swp]
  refine j_RcPi (s := false) (D := 3) (ai := 333) (vs := [.ref 75]) (rest := []) (fun _ => j_Lsc lr_1763 rfl) (c_X12_path  τ) (by decide) em ?_
  refine x_c53d _ L xs i h0 h1 h2 h3 h4 h5 vm ?_
  rw [← j_swp]
  exact kk _ _ hR1

theorem x_case54 (L : Nat) (xs : Nat → Int32) (i : Int32) (h0 : ¬ (i < 0 ∨ L ≤ (i).toNatClampNeg)) (h1 : ¬ (i + 1 < 0 ∨ L ≤ (i + 1).toNatClampNeg)) (h2 : ¬ (i + 2 < 0 ∨ L ≤ (i + 2).toNatClampNeg)) (h3 : ¬ (i + 3 < 0 ∨ L ≤ (i + 3).toNatClampNeg)) (h4 : ¬ (i + 4 < 0 ∨ L ≤ (i + 4).toNatClampNeg)) (h5 : ¬ (i + 5 < 0 ∨ L ≤ (i + 5).toNatClampNeg)) {σ τ : j_G} (hR : j_Rel σ τ) {P : Option Value × xH × Nat × Nat → Prop} (kk : ∀ σ τ : j_G, j_Rel σ τ → x_R x_mt (some (L, xs)) 10 M_law (18, [(3, .int (i + Int32.ofInt (6))), (2, .ref 75), (1, .ref 0), (0, .ref x_scr)], [], j_hp true σ τ, 98, 10728) P) : x_R x_mt (some (L, xs)) 10 M_law (1770, [(3, .int i), (2, .ref 75), (1, .ref 0), (0, .ref x_scr)], [], j_hp true σ τ, 98, 10728) P := by
  obtain ⟨vx, σ1, ex, vm, τ1, em, hR1⟩ := s_better hR (xs ((i + 1)).toNatClampNeg)
  refine x_c54a _ L xs i h0 h1 h2 h3 h4 h5 ?_
  refine j_RcSi (s := true) (D := 3) (ai := 168) (vs := [.ref 0, .int (xs ((i + 1)).toNatClampNeg)]) (rest := []) (fun _ => j_Lsc lr_1776 rfl) (c_X11_better (xs ((i + 1)).toNatClampNeg) σ) (by decide) ex ?_
  refine x_c54b _ L xs i h0 h1 h2 h3 h4 h5 vx ?_
  rw [j_swp]
  refine j_RcSi (s := false) (D := 3) (ai := 335) (vs := [.ref 75, .int (xs ((i + 1)).toNatClampNeg)]) (rest := []) (fun _ => j_Lsc lr_1786 rfl) (c_X12_better (xs ((i + 1)).toNatClampNeg) τ) (by decide) em ?_
  refine x_c54d _ L xs i h0 h1 h2 h3 h4 h5 vm ?_
  rw [← j_swp]
  exact kk _ _ hR1

theorem x_case55 (L : Nat) (xs : Nat → Int32) (i : Int32) (h0 : ¬ (i < 0 ∨ L ≤ (i).toNatClampNeg)) (h1 : ¬ (i + 1 < 0 ∨ L ≤ (i + 1).toNatClampNeg)) (h2 : ¬ (i + 2 < 0 ∨ L ≤ (i + 2).toNatClampNeg)) (h3 : ¬ (i + 3 < 0 ∨ L ≤ (i + 3).toNatClampNeg)) (h4 : ¬ (i + 4 < 0 ∨ L ≤ (i + 4).toNatClampNeg)) (h5 : ¬ (i + 5 < 0 ∨ L ≤ (i + 5).toNatClampNeg)) {σ τ : j_G} (hR : j_Rel σ τ) {P : Option Value × xH × Nat × Nat → Prop} (kk : ∀ σ τ : j_G, j_Rel σ τ → x_R x_mt (some (L, xs)) 10 M_law (18, [(3, .int (i + Int32.ofInt (6))), (2, .ref 75), (1, .ref 0), (0, .ref x_scr)], [], j_hp true σ τ, 98, 10728) P) : x_R x_mt (some (L, xs)) 10 M_law (1793, [(3, .int i), (2, .ref 75), (1, .ref 0), (0, .ref x_scr)], [], j_hp true σ τ, 98, 10728) P := by
  obtain ⟨vx, σ1, ex, vm, τ1, em, hR1⟩ := s_swap hR (xs ((i + 1)).toNatClampNeg) (xs ((i + 2)).toNatClampNeg)
  refine x_c55a _ L xs i h0 h1 h2 h3 h4 h5 ?_
  refine j_RcSi (s := true) (D := 2) (ai := 169) (vs := [.ref 0, .int (xs ((i + 1)).toNatClampNeg), .int (xs ((i + 2)).toNatClampNeg)]) (rest := []) (fun _ => j_Lsc lr_1804 rfl) (c_X11_swap (xs ((i + 1)).toNatClampNeg) (xs ((i + 2)).toNatClampNeg) σ) (by decide) ex ?_
  refine x_c55b _ L xs i h0 h1 h2 h3 h4 h5 vx ?_
  rw [j_swp]
  refine j_RcSi (s := false) (D := 2) (ai := 336) (vs := [.ref 75, .int (xs ((i + 1)).toNatClampNeg), .int (xs ((i + 2)).toNatClampNeg)]) (rest := []) (fun _ => j_Lsc lr_1819 rfl) (c_X12_swap (xs ((i + 1)).toNatClampNeg) (xs ((i + 2)).toNatClampNeg) τ) (by decide) em ?_
  refine x_c55d _ L xs i h0 h1 h2 h3 h4 h5 vm ?_
  rw [← j_swp]
  exact kk _ _ hR1

theorem x_case56 (L : Nat) (xs : Nat → Int32) (i : Int32) (h0 : ¬ (i < 0 ∨ L ≤ (i).toNatClampNeg)) (h1 : ¬ (i + 1 < 0 ∨ L ≤ (i + 1).toNatClampNeg)) (h2 : ¬ (i + 2 < 0 ∨ L ≤ (i + 2).toNatClampNeg)) (h3 : ¬ (i + 3 < 0 ∨ L ≤ (i + 3).toNatClampNeg)) (h4 : ¬ (i + 4 < 0 ∨ L ≤ (i + 4).toNatClampNeg)) (h5 : ¬ (i + 5 < 0 ∨ L ≤ (i + 5).toNatClampNeg)) {σ τ : j_G} (hR : j_Rel σ τ) {P : Option Value × xH × Nat × Nat → Prop} (kk : ∀ σ τ : j_G, j_Rel σ τ → x_R x_mt (some (L, xs)) 10 M_law (18, [(3, .int (i + Int32.ofInt (6))), (2, .ref 75), (1, .ref 0), (0, .ref x_scr)], [], j_hp true σ τ, 98, 10728) P) : x_R x_mt (some (L, xs)) 10 M_law (1826, [(3, .int i), (2, .ref 75), (1, .ref 0), (0, .ref x_scr)], [], j_hp true σ τ, 98, 10728) P := by
  obtain ⟨vx, σ1, ex, vm, τ1, em, hR1⟩ := s_paint hR (xs ((i + 1)).toNatClampNeg) (xs ((i + 2)).toNatClampNeg)
  refine x_c56a _ L xs i h0 h1 h2 h3 h4 h5 ?_
  refine j_RcSi (s := true) (D := 1) (ai := 170) (vs := [.ref 0, .int (xs ((i + 1)).toNatClampNeg), .int (xs ((i + 2)).toNatClampNeg)]) (rest := []) (fun _ => j_Lsc lr_1837 rfl) (c_X11_paint (xs ((i + 1)).toNatClampNeg) (xs ((i + 2)).toNatClampNeg) σ) (by decide) ex ?_
  refine x_c56b _ L xs i h0 h1 h2 h3 h4 h5 vx ?_
  rw [j_swp]
  refine j_RcSi (s := false) (D := 2) (ai := 337) (vs := [.ref 75, .int (xs ((i + 1)).toNatClampNeg), .int (xs ((i + 2)).toNatClampNeg)]) (rest := []) (fun _ => j_Lsc lr_1852 rfl) (c_X12_paint (xs ((i + 1)).toNatClampNeg) (xs ((i + 2)).toNatClampNeg) τ) (by decide) em ?_
  refine x_c56d _ L xs i h0 h1 h2 h3 h4 h5 vm ?_
  rw [← j_swp]
  exact kk _ _ hR1

theorem x_case57 (L : Nat) (xs : Nat → Int32) (i : Int32) (h0 : ¬ (i < 0 ∨ L ≤ (i).toNatClampNeg)) (h1 : ¬ (i + 1 < 0 ∨ L ≤ (i + 1).toNatClampNeg)) (h2 : ¬ (i + 2 < 0 ∨ L ≤ (i + 2).toNatClampNeg)) (h3 : ¬ (i + 3 < 0 ∨ L ≤ (i + 3).toNatClampNeg)) (h4 : ¬ (i + 4 < 0 ∨ L ≤ (i + 4).toNatClampNeg)) (h5 : ¬ (i + 5 < 0 ∨ L ≤ (i + 5).toNatClampNeg)) {σ τ : j_G} (hR : j_Rel σ τ) {P : Option Value × xH × Nat × Nat → Prop} (kk : ∀ σ τ : j_G, j_Rel σ τ → x_R x_mt (some (L, xs)) 10 M_law (18, [(3, .int (i + Int32.ofInt (6))), (2, .ref 75), (1, .ref 0), (0, .ref x_scr)], [], j_hp true σ τ, 98, 10728) P) : x_R x_mt (some (L, xs)) 10 M_law (1859, [(3, .int i), (2, .ref 75), (1, .ref 0), (0, .ref x_scr)], [], j_hp true σ τ, 98, 10728) P := by
  obtain ⟨vx, σ1, ex, vm, τ1, em, hR1⟩ := s_turn hR (xs ((i + 1)).toNatClampNeg)
  refine x_c57a _ L xs i h0 h1 h2 h3 h4 h5 ?_
  refine j_RcSi (s := true) (D := 1) (ai := 171) (vs := [.ref 0, .int (xs ((i + 1)).toNatClampNeg)]) (rest := []) (fun _ => j_Lsc lr_1865 rfl) (c_X11_turn (xs ((i + 1)).toNatClampNeg) σ) (by decide) ex ?_
  refine x_c57b _ L xs i h0 h1 h2 h3 h4 h5 vx ?_
  rw [j_swp]
  refine j_RcSi (s := false) (D := 2) (ai := 338) (vs := [.ref 75, .int (xs ((i + 1)).toNatClampNeg)]) (rest := []) (fun _ => j_Lsc lr_1875 rfl) (c_X12_turn (xs ((i + 1)).toNatClampNeg) τ) (by decide) em ?_
  refine x_c57d _ L xs i h0 h1 h2 h3 h4 h5 vm ?_
  rw [← j_swp]
  exact kk _ _ hR1

theorem x_case58 (L : Nat) (xs : Nat → Int32) (i : Int32) (h0 : ¬ (i < 0 ∨ L ≤ (i).toNatClampNeg)) (h1 : ¬ (i + 1 < 0 ∨ L ≤ (i + 1).toNatClampNeg)) (h2 : ¬ (i + 2 < 0 ∨ L ≤ (i + 2).toNatClampNeg)) (h3 : ¬ (i + 3 < 0 ∨ L ≤ (i + 3).toNatClampNeg)) (h4 : ¬ (i + 4 < 0 ∨ L ≤ (i + 4).toNatClampNeg)) (h5 : ¬ (i + 5 < 0 ∨ L ≤ (i + 5).toNatClampNeg)) {σ τ : j_G} (hR : j_Rel σ τ) {P : Option Value × xH × Nat × Nat → Prop} (kk : ∀ σ τ : j_G, j_Rel σ τ → x_R x_mt (some (L, xs)) 10 M_law (18, [(3, .int (i + Int32.ofInt (6))), (2, .ref 75), (1, .ref 0), (0, .ref x_scr)], [], j_hp true σ τ, 98, 10728) P) : x_R x_mt (some (L, xs)) 10 M_law (1882, [(3, .int i), (2, .ref 75), (1, .ref 0), (0, .ref x_scr)], [], j_hp true σ τ, 98, 10728) P := by
  obtain ⟨vx, σ1, ex, vm, τ1, em, hR1⟩ := s_lucky hR (xs ((i + 1)).toNatClampNeg)
  refine x_c58a _ L xs i h0 h1 h2 h3 h4 h5 ?_
  refine j_RcSi (s := true) (D := 5) (ai := 139) (vs := [.ref 0, .int (xs ((i + 1)).toNatClampNeg)]) (rest := []) (fun _ => j_Lsc lr_1888 rfl) (c_X11_lucky (xs ((i + 1)).toNatClampNeg) σ) (by decide) ex ?_
  refine x_c58b _ L xs i h0 h1 h2 h3 h4 h5 vx ?_
  rw [j_swp]
  refine j_RcSi (s := false) (D := 6) (ai := 339) (vs := [.ref 75, .int (xs ((i + 1)).toNatClampNeg)]) (rest := []) (fun _ => j_Lsc lr_1898 rfl) (c_X12_lucky (xs ((i + 1)).toNatClampNeg) τ) (by decide) em ?_
  refine x_c58d _ L xs i h0 h1 h2 h3 h4 h5 vm ?_
  rw [← j_swp]
  exact kk _ _ hR1

theorem x_case59 (L : Nat) (xs : Nat → Int32) (i : Int32) (h0 : ¬ (i < 0 ∨ L ≤ (i).toNatClampNeg)) (h1 : ¬ (i + 1 < 0 ∨ L ≤ (i + 1).toNatClampNeg)) (h2 : ¬ (i + 2 < 0 ∨ L ≤ (i + 2).toNatClampNeg)) (h3 : ¬ (i + 3 < 0 ∨ L ≤ (i + 3).toNatClampNeg)) (h4 : ¬ (i + 4 < 0 ∨ L ≤ (i + 4).toNatClampNeg)) (h5 : ¬ (i + 5 < 0 ∨ L ≤ (i + 5).toNatClampNeg)) {σ τ : j_G} (hR : j_Rel σ τ) {P : Option Value × xH × Nat × Nat → Prop} (kk : ∀ σ τ : j_G, j_Rel σ τ → x_R x_mt (some (L, xs)) 10 M_law (18, [(3, .int (i + Int32.ofInt (6))), (2, .ref 75), (1, .ref 0), (0, .ref x_scr)], [], j_hp true σ τ, 98, 10728) P) : x_R x_mt (some (L, xs)) 10 M_law (1905, [(3, .int i), (2, .ref 75), (1, .ref 0), (0, .ref x_scr)], [], j_hp true σ τ, 98, 10728) P := by
  obtain ⟨vx, σ1, ex, vm, τ1, em, hR1⟩ := s_shut hR (xs ((i + 1)).toNatClampNeg) (xs ((i + 2)).toNatClampNeg)
  refine x_c59a _ L xs i h0 h1 h2 h3 h4 h5 ?_
  refine j_RcSi (s := true) (D := 2) (ai := 172) (vs := [.ref 0, .int (xs ((i + 1)).toNatClampNeg), .int (xs ((i + 2)).toNatClampNeg)]) (rest := []) (fun _ => j_Lsc lr_1916 rfl) (c_X11_shut (xs ((i + 1)).toNatClampNeg) (xs ((i + 2)).toNatClampNeg) σ) (by decide) ex ?_
  refine x_c59b _ L xs i h0 h1 h2 h3 h4 h5 vx ?_
  rw [j_swp]
  refine j_RcSi (s := false) (D := 2) (ai := 340) (vs := [.ref 75, .int (xs ((i + 1)).toNatClampNeg), .int (xs ((i + 2)).toNatClampNeg)]) (rest := []) (fun _ => j_Lsc lr_1931 rfl) (c_X12_shut (xs ((i + 1)).toNatClampNeg) (xs ((i + 2)).toNatClampNeg) τ) (by decide) em ?_
  refine x_c59d _ L xs i h0 h1 h2 h3 h4 h5 vm ?_
  rw [← j_swp]
  exact kk _ _ hR1

theorem x_case60 (L : Nat) (xs : Nat → Int32) (i : Int32) (h0 : ¬ (i < 0 ∨ L ≤ (i).toNatClampNeg)) (h1 : ¬ (i + 1 < 0 ∨ L ≤ (i + 1).toNatClampNeg)) (h2 : ¬ (i + 2 < 0 ∨ L ≤ (i + 2).toNatClampNeg)) (h3 : ¬ (i + 3 < 0 ∨ L ≤ (i + 3).toNatClampNeg)) (h4 : ¬ (i + 4 < 0 ∨ L ≤ (i + 4).toNatClampNeg)) (h5 : ¬ (i + 5 < 0 ∨ L ≤ (i + 5).toNatClampNeg)) {σ τ : j_G} (hR : j_Rel σ τ) {P : Option Value × xH × Nat × Nat → Prop} (kk : ∀ σ τ : j_G, j_Rel σ τ → x_R x_mt (some (L, xs)) 10 M_law (18, [(3, .int (i + Int32.ofInt (6))), (2, .ref 75), (1, .ref 0), (0, .ref x_scr)], [], j_hp true σ τ, 98, 10728) P) : x_R x_mt (some (L, xs)) 10 M_law (1938, [(3, .int i), (2, .ref 75), (1, .ref 0), (0, .ref x_scr)], [], j_hp true σ τ, 98, 10728) P := by
  obtain ⟨vx, σ1, ex, vm, τ1, em, hR1⟩ := s_train hR (xs ((i + 1)).toNatClampNeg) (xs ((i + 2)).toNatClampNeg) (xs ((i + 3)).toNatClampNeg)
  refine x_c60a _ L xs i h0 h1 h2 h3 h4 h5 ?_
  refine j_RcSi (s := true) (D := 3) (ai := 173) (vs := [.ref 0, .int (xs ((i + 1)).toNatClampNeg), .int (xs ((i + 2)).toNatClampNeg), .int (xs ((i + 3)).toNatClampNeg)]) (rest := []) (fun _ => j_Lsc lr_1954 rfl) (c_X11_train (xs ((i + 1)).toNatClampNeg) (xs ((i + 2)).toNatClampNeg) (xs ((i + 3)).toNatClampNeg) σ) (by decide) ex ?_
  refine x_c60b _ L xs i h0 h1 h2 h3 h4 h5 vx ?_
  rw [j_swp]
  refine j_RcSi (s := false) (D := 2) (ai := 341) (vs := [.ref 75, .int (xs ((i + 1)).toNatClampNeg), .int (xs ((i + 2)).toNatClampNeg), .int (xs ((i + 3)).toNatClampNeg)]) (rest := []) (fun _ => j_Lsc lr_1974 rfl) (c_X12_train (xs ((i + 1)).toNatClampNeg) (xs ((i + 2)).toNatClampNeg) (xs ((i + 3)).toNatClampNeg) τ) (by decide) em ?_
  refine x_c60d _ L xs i h0 h1 h2 h3 h4 h5 vm ?_
  rw [← j_swp]
  exact kk _ _ hR1

theorem x_case61 (L : Nat) (xs : Nat → Int32) (i : Int32) (h0 : ¬ (i < 0 ∨ L ≤ (i).toNatClampNeg)) (h1 : ¬ (i + 1 < 0 ∨ L ≤ (i + 1).toNatClampNeg)) (h2 : ¬ (i + 2 < 0 ∨ L ≤ (i + 2).toNatClampNeg)) (h3 : ¬ (i + 3 < 0 ∨ L ≤ (i + 3).toNatClampNeg)) (h4 : ¬ (i + 4 < 0 ∨ L ≤ (i + 4).toNatClampNeg)) (h5 : ¬ (i + 5 < 0 ∨ L ≤ (i + 5).toNatClampNeg)) {σ τ : j_G} (hR : j_Rel σ τ) {P : Option Value × xH × Nat × Nat → Prop} (kk : ∀ σ τ : j_G, j_Rel σ τ → x_R x_mt (some (L, xs)) 10 M_law (18, [(3, .int (i + Int32.ofInt (6))), (2, .ref 75), (1, .ref 0), (0, .ref x_scr)], [], j_hp true σ τ, 98, 10728) P) : x_R x_mt (some (L, xs)) 10 M_law (1981, [(3, .int i), (2, .ref 75), (1, .ref 0), (0, .ref x_scr)], [], j_hp true σ τ, 98, 10728) P := by
  obtain ⟨vx, σ1, ex, vm, τ1, em, hR1⟩ := s_drawn hR (xs ((i + 1)).toNatClampNeg) (xs ((i + 2)).toNatClampNeg) (xs ((i + 3)).toNatClampNeg)
  refine x_c61a _ L xs i h0 h1 h2 h3 h4 h5 ?_
  refine j_RcSi (s := true) (D := 4) (ai := 174) (vs := [.ref 0, .int (xs ((i + 1)).toNatClampNeg), .int (xs ((i + 2)).toNatClampNeg), .int (xs ((i + 3)).toNatClampNeg)]) (rest := []) (fun _ => j_Lsc lr_1997 rfl) (c_X11_drawn (xs ((i + 1)).toNatClampNeg) (xs ((i + 2)).toNatClampNeg) (xs ((i + 3)).toNatClampNeg) σ) (by decide) ex ?_
  refine x_c61b _ L xs i h0 h1 h2 h3 h4 h5 vx ?_
  rw [j_swp]
  refine j_RcSi (s := false) (D := 4) (ai := 346) (vs := [.ref 75, .int (xs ((i + 1)).toNatClampNeg), .int (xs ((i + 2)).toNatClampNeg), .int (xs ((i + 3)).toNatClampNeg)]) (rest := []) (fun _ => j_Lsc lr_2017 rfl) (c_X12_drawn (xs ((i + 1)).toNatClampNeg) (xs ((i + 2)).toNatClampNeg) (xs ((i + 3)).toNatClampNeg) τ) (by decide) em ?_
  refine x_c61d _ L xs i h0 h1 h2 h3 h4 h5 vm ?_
  rw [← j_swp]
  exact kk _ _ hR1

theorem x_case62 (L : Nat) (xs : Nat → Int32) (i : Int32) (h0 : ¬ (i < 0 ∨ L ≤ (i).toNatClampNeg)) (h1 : ¬ (i + 1 < 0 ∨ L ≤ (i + 1).toNatClampNeg)) (h2 : ¬ (i + 2 < 0 ∨ L ≤ (i + 2).toNatClampNeg)) (h3 : ¬ (i + 3 < 0 ∨ L ≤ (i + 3).toNatClampNeg)) (h4 : ¬ (i + 4 < 0 ∨ L ≤ (i + 4).toNatClampNeg)) (h5 : ¬ (i + 5 < 0 ∨ L ≤ (i + 5).toNatClampNeg)) {σ τ : j_G} (hR : j_Rel σ τ) {P : Option Value × xH × Nat × Nat → Prop} (kk : ∀ σ τ : j_G, j_Rel σ τ → x_R x_mt (some (L, xs)) 10 M_law (18, [(3, .int (i + Int32.ofInt (6))), (2, .ref 75), (1, .ref 0), (0, .ref x_scr)], [], j_hp true σ τ, 98, 10728) P) : x_R x_mt (some (L, xs)) 10 M_law (2024, [(3, .int i), (2, .ref 75), (1, .ref 0), (0, .ref x_scr)], [], j_hp true σ τ, 98, 10728) P := by
  obtain ⟨vx, σ1, ex, vm, τ1, em, hR1⟩ := s_night hR (xs ((i + 1)).toNatClampNeg) (xs ((i + 2)).toNatClampNeg) (xs ((i + 3)).toNatClampNeg)
  refine x_c62a _ L xs i h0 h1 h2 h3 h4 h5 ?_
  refine j_RcSi (s := true) (D := 6) (ai := 175) (vs := [.ref 0, .int (xs ((i + 1)).toNatClampNeg), .int (xs ((i + 2)).toNatClampNeg), .int (xs ((i + 3)).toNatClampNeg)]) (rest := []) (fun _ => j_Lsc lr_2040 rfl) (c_X11_night (xs ((i + 1)).toNatClampNeg) (xs ((i + 2)).toNatClampNeg) (xs ((i + 3)).toNatClampNeg) σ) (by decide) ex ?_
  refine x_c62b _ L xs i h0 h1 h2 h3 h4 h5 vx ?_
  rw [j_swp]
  refine j_RcSi (s := false) (D := 6) (ai := 348) (vs := [.ref 75, .int (xs ((i + 1)).toNatClampNeg), .int (xs ((i + 2)).toNatClampNeg), .int (xs ((i + 3)).toNatClampNeg)]) (rest := []) (fun _ => j_Lsc lr_2060 rfl) (c_X12_night (xs ((i + 1)).toNatClampNeg) (xs ((i + 2)).toNatClampNeg) (xs ((i + 3)).toNatClampNeg) τ) (by decide) em ?_
  refine x_c62d _ L xs i h0 h1 h2 h3 h4 h5 vm ?_
  rw [← j_swp]
  exact kk _ _ hR1

theorem x_case63 (L : Nat) (xs : Nat → Int32) (i : Int32) (h0 : ¬ (i < 0 ∨ L ≤ (i).toNatClampNeg)) (h1 : ¬ (i + 1 < 0 ∨ L ≤ (i + 1).toNatClampNeg)) (h2 : ¬ (i + 2 < 0 ∨ L ≤ (i + 2).toNatClampNeg)) (h3 : ¬ (i + 3 < 0 ∨ L ≤ (i + 3).toNatClampNeg)) (h4 : ¬ (i + 4 < 0 ∨ L ≤ (i + 4).toNatClampNeg)) (h5 : ¬ (i + 5 < 0 ∨ L ≤ (i + 5).toNatClampNeg)) {σ τ : j_G} (hR : j_Rel σ τ) {P : Option Value × xH × Nat × Nat → Prop} (kk : ∀ σ τ : j_G, j_Rel σ τ → x_R x_mt (some (L, xs)) 10 M_law (18, [(3, .int (i + Int32.ofInt (6))), (2, .ref 75), (1, .ref 0), (0, .ref x_scr)], [], j_hp true σ τ, 98, 10728) P) : x_R x_mt (some (L, xs)) 10 M_law (2067, [(3, .int i), (2, .ref 75), (1, .ref 0), (0, .ref x_scr)], [], j_hp true σ τ, 98, 10728) P := by
  obtain ⟨vx, σ1, ex, vm, τ1, em, hR1⟩ := s_years hR (xs ((i + 1)).toNatClampNeg) (xs ((i + 2)).toNatClampNeg) (xs ((i + 3)).toNatClampNeg) (xs ((i + 4)).toNatClampNeg)
  refine x_c63a _ L xs i h0 h1 h2 h3 h4 h5 ?_
  refine j_RcSi (s := true) (D := 5) (ai := 176) (vs := [.ref 0, .int (xs ((i + 1)).toNatClampNeg), .int (xs ((i + 2)).toNatClampNeg), .int (xs ((i + 3)).toNatClampNeg), .int (xs ((i + 4)).toNatClampNeg)]) (rest := []) (fun _ => j_Lsc lr_2088 rfl) (c_X11_years (xs ((i + 1)).toNatClampNeg) (xs ((i + 2)).toNatClampNeg) (xs ((i + 3)).toNatClampNeg) (xs ((i + 4)).toNatClampNeg) σ) (by decide) ex ?_
  refine x_c63b _ L xs i h0 h1 h2 h3 h4 h5 vx ?_
  rw [j_swp]
  refine j_RcSi (s := false) (D := 6) (ai := 349) (vs := [.ref 75, .int (xs ((i + 1)).toNatClampNeg), .int (xs ((i + 2)).toNatClampNeg), .int (xs ((i + 3)).toNatClampNeg), .int (xs ((i + 4)).toNatClampNeg)]) (rest := []) (fun _ => j_Lsc lr_2113 rfl) (c_X12_years (xs ((i + 1)).toNatClampNeg) (xs ((i + 2)).toNatClampNeg) (xs ((i + 3)).toNatClampNeg) (xs ((i + 4)).toNatClampNeg) τ) (by decide) em ?_
  refine x_c63d _ L xs i h0 h1 h2 h3 h4 h5 vm ?_
  rw [← j_swp]
  exact kk _ _ hR1

theorem x_case64 (L : Nat) (xs : Nat → Int32) (i : Int32) (h0 : ¬ (i < 0 ∨ L ≤ (i).toNatClampNeg)) (h1 : ¬ (i + 1 < 0 ∨ L ≤ (i + 1).toNatClampNeg)) (h2 : ¬ (i + 2 < 0 ∨ L ≤ (i + 2).toNatClampNeg)) (h3 : ¬ (i + 3 < 0 ∨ L ≤ (i + 3).toNatClampNeg)) (h4 : ¬ (i + 4 < 0 ∨ L ≤ (i + 4).toNatClampNeg)) (h5 : ¬ (i + 5 < 0 ∨ L ≤ (i + 5).toNatClampNeg)) {σ τ : j_G} (hR : j_Rel σ τ) {P : Option Value × xH × Nat × Nat → Prop} (kk : ∀ σ τ : j_G, j_Rel σ τ → x_R x_mt (some (L, xs)) 10 M_law (18, [(3, .int (i + Int32.ofInt (6))), (2, .ref 75), (1, .ref 0), (0, .ref x_scr)], [], j_hp true σ τ, 98, 10728) P) : x_R x_mt (some (L, xs)) 10 M_law (2120, [(3, .int i), (2, .ref 75), (1, .ref 0), (0, .ref x_scr)], [], j_hp true σ τ, 98, 10728) P := by
  obtain ⟨vx, ex, vm, em, hR1⟩ := s_count hR (xs ((i + 1)).toNatClampNeg)
  refine x_c64a _ L xs i h0 h1 h2 h3 h4 h5 ?_
  refine j_RcPi (s := true) (D := 2) (ai := 119) (vs := [.ref 0, .int (xs ((i + 1)).toNatClampNeg)]) (rest := []) (fun _ => j_Lsc lr_2126 rfl) (c_X11_count (xs ((i + 1)).toNatClampNeg) σ) (by decide) ex ?_
  refine x_c64b _ L xs i h0 h1 h2 h3 h4 h5 vx ?_
  rw [j_swp]
  refine j_RcPi (s := false) (D := 0) (ai := 350) (vs := [.ref 75, .int (xs ((i + 1)).toNatClampNeg)]) (rest := []) (fun _ => j_Lsc lr_2136 rfl) (c_X12_count (xs ((i + 1)).toNatClampNeg) τ) (by decide) em ?_
  refine x_c64d _ L xs i h0 h1 h2 h3 h4 h5 vm ?_
  rw [← j_swp]
  exact kk _ _ hR1

theorem x_case65 (L : Nat) (xs : Nat → Int32) (i : Int32) (h0 : ¬ (i < 0 ∨ L ≤ (i).toNatClampNeg)) (h1 : ¬ (i + 1 < 0 ∨ L ≤ (i + 1).toNatClampNeg)) (h2 : ¬ (i + 2 < 0 ∨ L ≤ (i + 2).toNatClampNeg)) (h3 : ¬ (i + 3 < 0 ∨ L ≤ (i + 3).toNatClampNeg)) (h4 : ¬ (i + 4 < 0 ∨ L ≤ (i + 4).toNatClampNeg)) (h5 : ¬ (i + 5 < 0 ∨ L ≤ (i + 5).toNatClampNeg)) {σ τ : j_G} (hR : j_Rel σ τ) {P : Option Value × xH × Nat × Nat → Prop} (kk : ∀ σ τ : j_G, j_Rel σ τ → x_R x_mt (some (L, xs)) 10 M_law (18, [(3, .int (i + Int32.ofInt (6))), (2, .ref 75), (1, .ref 0), (0, .ref x_scr)], [], j_hp true σ τ, 98, 10728) P) : x_R x_mt (some (L, xs)) 10 M_law (2143, [(3, .int i), (2, .ref 75), (1, .ref 0), (0, .ref x_scr)], [], j_hp true σ τ, 98, 10728) P := by
  obtain ⟨vx, σ1, ex, vm, τ1, em, hR1⟩ := s_image hR (xs ((i + 1)).toNatClampNeg)
  refine x_c65a _ L xs i h0 h1 h2 h3 h4 h5 ?_
  refine j_RcSi (s := true) (D := 2) (ai := 177) (vs := [.ref 0, .int (xs ((i + 1)).toNatClampNeg)]) (rest := []) (fun _ => j_Lsc lr_2149 rfl) (c_X11_image (xs ((i + 1)).toNatClampNeg) σ) (by decide) ex ?_
  refine x_c65b _ L xs i h0 h1 h2 h3 h4 h5 vx ?_
  rw [j_swp]
  refine j_RcSi (s := false) (D := 1) (ai := 197) (vs := [.ref 75, .int (xs ((i + 1)).toNatClampNeg)]) (rest := []) (fun _ => j_Lsc lr_2159 rfl) (c_X12_image (xs ((i + 1)).toNatClampNeg) τ) (by decide) em ?_
  refine x_c65d _ L xs i h0 h1 h2 h3 h4 h5 vm ?_
  rw [← j_swp]
  exact kk _ _ hR1

theorem x_case66 (L : Nat) (xs : Nat → Int32) (i : Int32) (h0 : ¬ (i < 0 ∨ L ≤ (i).toNatClampNeg)) (h1 : ¬ (i + 1 < 0 ∨ L ≤ (i + 1).toNatClampNeg)) (h2 : ¬ (i + 2 < 0 ∨ L ≤ (i + 2).toNatClampNeg)) (h3 : ¬ (i + 3 < 0 ∨ L ≤ (i + 3).toNatClampNeg)) (h4 : ¬ (i + 4 < 0 ∨ L ≤ (i + 4).toNatClampNeg)) (h5 : ¬ (i + 5 < 0 ∨ L ≤ (i + 5).toNatClampNeg)) {σ τ : j_G} (hR : j_Rel σ τ) {P : Option Value × xH × Nat × Nat → Prop} (kk : ∀ σ τ : j_G, j_Rel σ τ → x_R x_mt (some (L, xs)) 10 M_law (18, [(3, .int (i + Int32.ofInt (6))), (2, .ref 75), (1, .ref 0), (0, .ref x_scr)], [], j_hp true σ τ, 98, 10728) P) : x_R x_mt (some (L, xs)) 10 M_law (2166, [(3, .int i), (2, .ref 75), (1, .ref 0), (0, .ref x_scr)], [], j_hp true σ τ, 98, 10728) P := by
  obtain ⟨vx, σ1, ex, vm, τ1, em, hR1⟩ := s_back hR (xs ((i + 1)).toNatClampNeg)
  refine x_c66a _ L xs i h0 h1 h2 h3 h4 h5 ?_
  refine j_RcSi (s := true) (D := 2) (ai := 178) (vs := [.ref 0, .int (xs ((i + 1)).toNatClampNeg)]) (rest := []) (fun _ => j_Lsc lr_2172 rfl) (c_X11_back (xs ((i + 1)).toNatClampNeg) σ) (by decide) ex ?_
  refine x_c66b _ L xs i h0 h1 h2 h3 h4 h5 vx ?_
  rw [j_swp]
  refine j_RcSi (s := false) (D := 1) (ai := 198) (vs := [.ref 75, .int (xs ((i + 1)).toNatClampNeg)]) (rest := []) (fun _ => j_Lsc lr_2182 rfl) (c_X12_back (xs ((i + 1)).toNatClampNeg) τ) (by decide) em ?_
  refine x_c66d _ L xs i h0 h1 h2 h3 h4 h5 vm ?_
  rw [← j_swp]
  exact kk _ _ hR1

theorem x_case67 (L : Nat) (xs : Nat → Int32) (i : Int32) (h0 : ¬ (i < 0 ∨ L ≤ (i).toNatClampNeg)) (h1 : ¬ (i + 1 < 0 ∨ L ≤ (i + 1).toNatClampNeg)) (h2 : ¬ (i + 2 < 0 ∨ L ≤ (i + 2).toNatClampNeg)) (h3 : ¬ (i + 3 < 0 ∨ L ≤ (i + 3).toNatClampNeg)) (h4 : ¬ (i + 4 < 0 ∨ L ≤ (i + 4).toNatClampNeg)) (h5 : ¬ (i + 5 < 0 ∨ L ≤ (i + 5).toNatClampNeg)) {σ τ : j_G} (hR : j_Rel σ τ) {P : Option Value × xH × Nat × Nat → Prop} (kk : ∀ σ τ : j_G, j_Rel σ τ → x_R x_mt (some (L, xs)) 10 M_law (18, [(3, .int (i + Int32.ofInt (6))), (2, .ref 75), (1, .ref 0), (0, .ref x_scr)], [], j_hp true σ τ, 98, 10728) P) : x_R x_mt (some (L, xs)) 10 M_law (2189, [(3, .int i), (2, .ref 75), (1, .ref 0), (0, .ref x_scr)], [], j_hp true σ τ, 98, 10728) P := by
  obtain ⟨vx, σ1, ex, vm, τ1, em, hR1⟩ := s_row hR (xs ((i + 1)).toNatClampNeg) (xs ((i + 2)).toNatClampNeg) (xs ((i + 3)).toNatClampNeg)
  refine x_c67a _ L xs i h0 h1 h2 h3 h4 h5 ?_
  refine j_RcSi (s := true) (D := 1) (ai := 179) (vs := [.ref 0, .int (xs ((i + 1)).toNatClampNeg), .int (xs ((i + 2)).toNatClampNeg), .int (xs ((i + 3)).toNatClampNeg)]) (rest := []) (fun _ => j_Lsc lr_2205 rfl) (c_X11_row (xs ((i + 1)).toNatClampNeg) (xs ((i + 2)).toNatClampNeg) (xs ((i + 3)).toNatClampNeg) σ) (by decide) ex ?_
  refine x_c67b _ L xs i h0 h1 h2 h3 h4 h5 vx ?_
  rw [j_swp]
  refine j_RcSi (s := false) (D := 2) (ai := 353) (vs := [.ref 75, .int (xs ((i + 1)).toNatClampNeg), .int (xs ((i + 2)).toNatClampNeg), .int (xs ((i + 3)).toNatClampNeg)]) (rest := []) (fun _ => j_Lsc lr_2225 rfl) (c_X12_row (xs ((i + 1)).toNatClampNeg) (xs ((i + 2)).toNatClampNeg) (xs ((i + 3)).toNatClampNeg) τ) (by decide) em ?_
  refine x_c67d _ L xs i h0 h1 h2 h3 h4 h5 vm ?_
  rw [← j_swp]
  exact kk _ _ hR1

theorem x_case68 (L : Nat) (xs : Nat → Int32) (i : Int32) (h0 : ¬ (i < 0 ∨ L ≤ (i).toNatClampNeg)) (h1 : ¬ (i + 1 < 0 ∨ L ≤ (i + 1).toNatClampNeg)) (h2 : ¬ (i + 2 < 0 ∨ L ≤ (i + 2).toNatClampNeg)) (h3 : ¬ (i + 3 < 0 ∨ L ≤ (i + 3).toNatClampNeg)) (h4 : ¬ (i + 4 < 0 ∨ L ≤ (i + 4).toNatClampNeg)) (h5 : ¬ (i + 5 < 0 ∨ L ≤ (i + 5).toNatClampNeg)) {σ τ : j_G} (hR : j_Rel σ τ) {P : Option Value × xH × Nat × Nat → Prop} (kk : ∀ σ τ : j_G, j_Rel σ τ → x_R x_mt (some (L, xs)) 10 M_law (18, [(3, .int (i + Int32.ofInt (6))), (2, .ref 75), (1, .ref 0), (0, .ref x_scr)], [], j_hp true σ τ, 98, 10728) P) : x_R x_mt (some (L, xs)) 10 M_law (2232, [(3, .int i), (2, .ref 75), (1, .ref 0), (0, .ref x_scr)], [], j_hp true σ τ, 98, 10728) P := by
  obtain ⟨vx, σ1, ex, vm, τ1, em, hR1⟩ := s_write hR (xs ((i + 1)).toNatClampNeg) (xs ((i + 2)).toNatClampNeg) ((((xs ((i + 3)).toNatClampNeg)).toInt64 <<< ((32 : Int32).toInt64 &&& 63)) ||| (((xs ((i + 4)).toNatClampNeg)).toInt64 &&& 4294967295))
  refine x_c68a _ L xs i h0 h1 h2 h3 h4 h5 ?_
  refine j_RcSi (s := true) (D := 1) (ai := 180) (vs := [.ref 0, .int (xs ((i + 1)).toNatClampNeg), .int (xs ((i + 2)).toNatClampNeg), .long ((((xs ((i + 3)).toNatClampNeg)).toInt64 <<< ((32 : Int32).toInt64 &&& 63)) ||| (((xs ((i + 4)).toNatClampNeg)).toInt64 &&& 4294967295))]) (rest := []) (fun _ => j_Lsc lr_2263 rfl) (c_X11_write (xs ((i + 1)).toNatClampNeg) (xs ((i + 2)).toNatClampNeg) ((((xs ((i + 3)).toNatClampNeg)).toInt64 <<< ((32 : Int32).toInt64 &&& 63)) ||| (((xs ((i + 4)).toNatClampNeg)).toInt64 &&& 4294967295)) σ) (by decide) ex ?_
  refine x_c68b _ L xs i h0 h1 h2 h3 h4 h5 vx ?_
  rw [j_swp]
  refine j_RcSi (s := false) (D := 2) (ai := 354) (vs := [.ref 75, .int (xs ((i + 1)).toNatClampNeg), .int (xs ((i + 2)).toNatClampNeg), .long ((((xs ((i + 3)).toNatClampNeg)).toInt64 <<< ((32 : Int32).toInt64 &&& 63)) ||| (((xs ((i + 4)).toNatClampNeg)).toInt64 &&& 4294967295))]) (rest := []) (fun _ => j_Lsc lr_2298 rfl) (c_X12_write (xs ((i + 1)).toNatClampNeg) (xs ((i + 2)).toNatClampNeg) ((((xs ((i + 3)).toNatClampNeg)).toInt64 <<< ((32 : Int32).toInt64 &&& 63)) ||| (((xs ((i + 4)).toNatClampNeg)).toInt64 &&& 4294967295)) τ) (by decide) em ?_
  refine x_c68d _ L xs i h0 h1 h2 h3 h4 h5 vm ?_
  rw [← j_swp]
  exact kk _ _ hR1

theorem x_case69 (L : Nat) (xs : Nat → Int32) (i : Int32) (h0 : ¬ (i < 0 ∨ L ≤ (i).toNatClampNeg)) (h1 : ¬ (i + 1 < 0 ∨ L ≤ (i + 1).toNatClampNeg)) (h2 : ¬ (i + 2 < 0 ∨ L ≤ (i + 2).toNatClampNeg)) (h3 : ¬ (i + 3 < 0 ∨ L ≤ (i + 3).toNatClampNeg)) (h4 : ¬ (i + 4 < 0 ∨ L ≤ (i + 4).toNatClampNeg)) (h5 : ¬ (i + 5 < 0 ∨ L ≤ (i + 5).toNatClampNeg)) {σ τ : j_G} (hR : j_Rel σ τ) {P : Option Value × xH × Nat × Nat → Prop} (kk : ∀ σ τ : j_G, j_Rel σ τ → x_R x_mt (some (L, xs)) 10 M_law (18, [(3, .int (i + Int32.ofInt (6))), (2, .ref 75), (1, .ref 0), (0, .ref x_scr)], [], j_hp true σ τ, 98, 10728) P) : x_R x_mt (some (L, xs)) 10 M_law (2305, [(3, .int i), (2, .ref 75), (1, .ref 0), (0, .ref x_scr)], [], j_hp true σ τ, 98, 10728) P := by
  obtain ⟨vx, σ1, ex, vm, τ1, em, hR1⟩ := s_paste hR (xs ((i + 1)).toNatClampNeg) (xs ((i + 2)).toNatClampNeg) (xs ((i + 3)).toNatClampNeg) (xs ((i + 4)).toNatClampNeg) (xs ((i + 5)).toNatClampNeg)
  refine x_c69a _ L xs i h0 h1 h2 h3 h4 h5 ?_
  refine j_RcSi (s := true) (D := 1) (ai := 181) (vs := [.ref 0, .int (xs ((i + 1)).toNatClampNeg), .int (xs ((i + 2)).toNatClampNeg), .int (xs ((i + 3)).toNatClampNeg), .int (xs ((i + 4)).toNatClampNeg), .int (xs ((i + 5)).toNatClampNeg)]) (rest := []) (fun _ => j_Lsc lr_2331 rfl) (c_X11_paste (xs ((i + 1)).toNatClampNeg) (xs ((i + 2)).toNatClampNeg) (xs ((i + 3)).toNatClampNeg) (xs ((i + 4)).toNatClampNeg) (xs ((i + 5)).toNatClampNeg) σ) (by decide) ex ?_
  refine x_c69b _ L xs i h0 h1 h2 h3 h4 h5 vx ?_
  rw [j_swp]
  refine j_RcSi (s := false) (D := 2) (ai := 355) (vs := [.ref 75, .int (xs ((i + 1)).toNatClampNeg), .int (xs ((i + 2)).toNatClampNeg), .int (xs ((i + 3)).toNatClampNeg), .int (xs ((i + 4)).toNatClampNeg), .int (xs ((i + 5)).toNatClampNeg)]) (rest := []) (fun _ => j_Lsc lr_2361 rfl) (c_X12_paste (xs ((i + 1)).toNatClampNeg) (xs ((i + 2)).toNatClampNeg) (xs ((i + 3)).toNatClampNeg) (xs ((i + 4)).toNatClampNeg) (xs ((i + 5)).toNatClampNeg) τ) (by decide) em ?_
  refine x_c69d _ L xs i h0 h1 h2 h3 h4 h5 vm ?_
  rw [← j_swp]
  exact kk _ _ hR1
/-! ===== the law's loop ===== -/
set_option maxRecDepth 100000 in
theorem x_one (L : Nat) (xs : Nat → Int32) (i : Int32) (h0 : ¬ (i < 0 ∨ L ≤ (i).toNatClampNeg)) (h1 : ¬ (i + 1 < 0 ∨ L ≤ (i + 1).toNatClampNeg)) (h2 : ¬ (i + 2 < 0 ∨ L ≤ (i + 2).toNatClampNeg)) (h3 : ¬ (i + 3 < 0 ∨ L ≤ (i + 3).toNatClampNeg)) (h4 : ¬ (i + 4 < 0 ∨ L ≤ (i + 4).toNatClampNeg)) (h5 : ¬ (i + 5 < 0 ∨ L ≤ (i + 5).toNatClampNeg)) {σ τ : j_G} (hR : j_Rel σ τ) {P : Option Value × xH × Nat × Nat → Prop} (kk : ∀ σ τ : j_G, j_Rel σ τ → x_R x_mt (some (L, xs)) 10 M_law (18, [(3, .int (i + Int32.ofInt (6))), (2, .ref 75), (1, .ref 0), (0, .ref x_scr)], [], j_hp true σ τ, 98, 10728) P) : x_R x_mt (some (L, xs)) 10 M_law (27, [(3, .int i), (2, .ref 75), (1, .ref 0), (0, .ref x_scr)], [], j_hp true σ τ, 98, 10728) P := by
  refine x_sw _ L xs i h0 h1 h2 h3 h4 h5 ?_
  obtain ⟨j, hj, e⟩ := pk_andE (xs (i).toNatClampNeg) (m := 127) 7 (by decide)
  rw [e]
  match j, hj with
  | 0, _ => exact x_tb0 _ L xs i (x_case0 L xs i h0 h1 h2 h3 h4 h5 hR kk)
  | 1, _ => exact x_tb1 _ L xs i (x_case1 L xs i h0 h1 h2 h3 h4 h5 hR kk)
  | 2, _ => exact x_tb2 _ L xs i (x_case2 L xs i h0 h1 h2 h3 h4 h5 hR kk)
  | 3, _ => exact x_tb3 _ L xs i (x_case3 L xs i h0 h1 h2 h3 h4 h5 hR kk)
  | 4, _ => exact x_tb4 _ L xs i (x_case4 L xs i h0 h1 h2 h3 h4 h5 hR kk)
  | 5, _ => exact x_tb5 _ L xs i (x_case5 L xs i h0 h1 h2 h3 h4 h5 hR kk)
  | 6, _ => exact x_tb6 _ L xs i (x_case6 L xs i h0 h1 h2 h3 h4 h5 hR kk)
  | 7, _ => exact x_tb7 _ L xs i (x_case7 L xs i h0 h1 h2 h3 h4 h5 hR kk)
  | 8, _ => exact x_tb8 _ L xs i (x_case8 L xs i h0 h1 h2 h3 h4 h5 hR kk)
  | 9, _ => exact x_tb9 _ L xs i (x_case9 L xs i h0 h1 h2 h3 h4 h5 hR kk)
  | 10, _ => exact x_tb10 _ L xs i (x_case10 L xs i h0 h1 h2 h3 h4 h5 hR kk)
  | 11, _ => exact x_tb11 _ L xs i (x_case11 L xs i h0 h1 h2 h3 h4 h5 hR kk)
  | 12, _ => exact x_tb12 _ L xs i (x_case12 L xs i h0 h1 h2 h3 h4 h5 hR kk)
  | 13, _ => exact x_tb13 _ L xs i (x_case13 L xs i h0 h1 h2 h3 h4 h5 hR kk)
  | 14, _ => exact x_tb14 _ L xs i (x_case14 L xs i h0 h1 h2 h3 h4 h5 hR kk)
  | 15, _ => exact x_tb15 _ L xs i (x_case15 L xs i h0 h1 h2 h3 h4 h5 hR kk)
  | 16, _ => exact x_tb16 _ L xs i (x_case16 L xs i h0 h1 h2 h3 h4 h5 hR kk)
  | 17, _ => exact x_tb17 _ L xs i (x_case17 L xs i h0 h1 h2 h3 h4 h5 hR kk)
  | 18, _ => exact x_tb18 _ L xs i (x_case18 L xs i h0 h1 h2 h3 h4 h5 hR kk)
  | 19, _ => exact x_tb19 _ L xs i (x_case19 L xs i h0 h1 h2 h3 h4 h5 hR kk)
  | 20, _ => exact x_tb20 _ L xs i (x_case20 L xs i h0 h1 h2 h3 h4 h5 hR kk)
  | 21, _ => exact x_tb21 _ L xs i (x_case21 L xs i h0 h1 h2 h3 h4 h5 hR kk)
  | 22, _ => exact x_tb22 _ L xs i (x_case22 L xs i h0 h1 h2 h3 h4 h5 hR kk)
  | 23, _ => exact x_tb23 _ L xs i (x_case23 L xs i h0 h1 h2 h3 h4 h5 hR kk)
  | 24, _ => exact x_tb24 _ L xs i (x_case24 L xs i h0 h1 h2 h3 h4 h5 hR kk)
  | 25, _ => exact x_tb25 _ L xs i (x_case25 L xs i h0 h1 h2 h3 h4 h5 hR kk)
  | 26, _ => exact x_tb26 _ L xs i (x_case26 L xs i h0 h1 h2 h3 h4 h5 hR kk)
  | 27, _ => exact x_tb27 _ L xs i (x_case27 L xs i h0 h1 h2 h3 h4 h5 hR kk)
  | 28, _ => exact x_tb28 _ L xs i (x_case28 L xs i h0 h1 h2 h3 h4 h5 hR kk)
  | 29, _ => exact x_tb29 _ L xs i (x_case29 L xs i h0 h1 h2 h3 h4 h5 hR kk)
  | 30, _ => exact x_tb30 _ L xs i (x_case30 L xs i h0 h1 h2 h3 h4 h5 hR kk)
  | 31, _ => exact x_tb31 _ L xs i (x_case31 L xs i h0 h1 h2 h3 h4 h5 hR kk)
  | 32, _ => exact x_tb32 _ L xs i (x_case32 L xs i h0 h1 h2 h3 h4 h5 hR kk)
  | 33, _ => exact x_tb33 _ L xs i (x_case33 L xs i h0 h1 h2 h3 h4 h5 hR kk)
  | 34, _ => exact x_tb34 _ L xs i (x_case34 L xs i h0 h1 h2 h3 h4 h5 hR kk)
  | 35, _ => exact x_tb35 _ L xs i (x_case35 L xs i h0 h1 h2 h3 h4 h5 hR kk)
  | 36, _ => exact x_tb36 _ L xs i (x_case36 L xs i h0 h1 h2 h3 h4 h5 hR kk)
  | 37, _ => exact x_tb37 _ L xs i (x_case37 L xs i h0 h1 h2 h3 h4 h5 hR kk)
  | 38, _ => exact x_tb38 _ L xs i (x_case38 L xs i h0 h1 h2 h3 h4 h5 hR kk)
  | 39, _ => exact x_tb39 _ L xs i (x_case39 L xs i h0 h1 h2 h3 h4 h5 hR kk)
  | 40, _ => exact x_tb40 _ L xs i (x_case40 L xs i h0 h1 h2 h3 h4 h5 hR kk)
  | 41, _ => exact x_tb41 _ L xs i (x_case41 L xs i h0 h1 h2 h3 h4 h5 hR kk)
  | 42, _ => exact x_tb42 _ L xs i (x_case42 L xs i h0 h1 h2 h3 h4 h5 hR kk)
  | 43, _ => exact x_tb43 _ L xs i (x_case43 L xs i h0 h1 h2 h3 h4 h5 hR kk)
  | 44, _ => exact x_tb44 _ L xs i (x_case44 L xs i h0 h1 h2 h3 h4 h5 hR kk)
  | 45, _ => exact x_tb45 _ L xs i (x_case45 L xs i h0 h1 h2 h3 h4 h5 hR kk)
  | 46, _ => exact x_tb46 _ L xs i (x_case46 L xs i h0 h1 h2 h3 h4 h5 hR kk)
  | 47, _ => exact x_tb47 _ L xs i (x_case47 L xs i h0 h1 h2 h3 h4 h5 hR kk)
  | 48, _ => exact x_tb48 _ L xs i (x_case48 L xs i h0 h1 h2 h3 h4 h5 hR kk)
  | 49, _ => exact x_tb49 _ L xs i (x_case49 L xs i h0 h1 h2 h3 h4 h5 hR kk)
  | 50, _ => exact x_tb50 _ L xs i (x_case50 L xs i h0 h1 h2 h3 h4 h5 hR kk)
  | 51, _ => exact x_tb51 _ L xs i (x_case51 L xs i h0 h1 h2 h3 h4 h5 hR kk)
  | 52, _ => exact x_tb52 _ L xs i (x_case52 L xs i h0 h1 h2 h3 h4 h5 hR kk)
  | 53, _ => exact x_tb53 _ L xs i (x_case53 L xs i h0 h1 h2 h3 h4 h5 hR kk)
  | 54, _ => exact x_tb54 _ L xs i (x_case54 L xs i h0 h1 h2 h3 h4 h5 hR kk)
  | 55, _ => exact x_tb55 _ L xs i (x_case55 L xs i h0 h1 h2 h3 h4 h5 hR kk)
  | 56, _ => exact x_tb56 _ L xs i (x_case56 L xs i h0 h1 h2 h3 h4 h5 hR kk)
  | 57, _ => exact x_tb57 _ L xs i (x_case57 L xs i h0 h1 h2 h3 h4 h5 hR kk)
  | 58, _ => exact x_tb58 _ L xs i (x_case58 L xs i h0 h1 h2 h3 h4 h5 hR kk)
  | 59, _ => exact x_tb59 _ L xs i (x_case59 L xs i h0 h1 h2 h3 h4 h5 hR kk)
  | 60, _ => exact x_tb60 _ L xs i (x_case60 L xs i h0 h1 h2 h3 h4 h5 hR kk)
  | 61, _ => exact x_tb61 _ L xs i (x_case61 L xs i h0 h1 h2 h3 h4 h5 hR kk)
  | 62, _ => exact x_tb62 _ L xs i (x_case62 L xs i h0 h1 h2 h3 h4 h5 hR kk)
  | 63, _ => exact x_tb63 _ L xs i (x_case63 L xs i h0 h1 h2 h3 h4 h5 hR kk)
  | 64, _ => exact x_tb64 _ L xs i (x_case64 L xs i h0 h1 h2 h3 h4 h5 hR kk)
  | 65, _ => exact x_tb65 _ L xs i (x_case65 L xs i h0 h1 h2 h3 h4 h5 hR kk)
  | 66, _ => exact x_tb66 _ L xs i (x_case66 L xs i h0 h1 h2 h3 h4 h5 hR kk)
  | 67, _ => exact x_tb67 _ L xs i (x_case67 L xs i h0 h1 h2 h3 h4 h5 hR kk)
  | 68, _ => exact x_tb68 _ L xs i (x_case68 L xs i h0 h1 h2 h3 h4 h5 hR kk)
  | 69, _ => exact x_tb69 _ L xs i (x_case69 L xs i h0 h1 h2 h3 h4 h5 hR kk)
  | 70, _ => exact x_tb70 _ L xs i (x_cdef _ L xs i h0 h1 h2 h3 h4 h5 (kk _ _ hR))
  | 71, _ => exact x_tb71 _ L xs i (x_cdef _ L xs i h0 h1 h2 h3 h4 h5 (kk _ _ hR))
  | 72, _ => exact x_tb72 _ L xs i (x_cdef _ L xs i h0 h1 h2 h3 h4 h5 (kk _ _ hR))
  | 73, _ => exact x_tb73 _ L xs i (x_cdef _ L xs i h0 h1 h2 h3 h4 h5 (kk _ _ hR))
  | 74, _ => exact x_tb74 _ L xs i (x_cdef _ L xs i h0 h1 h2 h3 h4 h5 (kk _ _ hR))
  | 75, _ => exact x_tb75 _ L xs i (x_cdef _ L xs i h0 h1 h2 h3 h4 h5 (kk _ _ hR))
  | 76, _ => exact x_tb76 _ L xs i (x_cdef _ L xs i h0 h1 h2 h3 h4 h5 (kk _ _ hR))
  | 77, _ => exact x_tb77 _ L xs i (x_cdef _ L xs i h0 h1 h2 h3 h4 h5 (kk _ _ hR))
  | 78, _ => exact x_tb78 _ L xs i (x_cdef _ L xs i h0 h1 h2 h3 h4 h5 (kk _ _ hR))
  | 79, _ => exact x_tb79 _ L xs i (x_cdef _ L xs i h0 h1 h2 h3 h4 h5 (kk _ _ hR))
  | 80, _ => exact x_tb80 _ L xs i (x_cdef _ L xs i h0 h1 h2 h3 h4 h5 (kk _ _ hR))
  | 81, _ => exact x_tb81 _ L xs i (x_cdef _ L xs i h0 h1 h2 h3 h4 h5 (kk _ _ hR))
  | 82, _ => exact x_tb82 _ L xs i (x_cdef _ L xs i h0 h1 h2 h3 h4 h5 (kk _ _ hR))
  | 83, _ => exact x_tb83 _ L xs i (x_cdef _ L xs i h0 h1 h2 h3 h4 h5 (kk _ _ hR))
  | 84, _ => exact x_tb84 _ L xs i (x_cdef _ L xs i h0 h1 h2 h3 h4 h5 (kk _ _ hR))
  | 85, _ => exact x_tb85 _ L xs i (x_cdef _ L xs i h0 h1 h2 h3 h4 h5 (kk _ _ hR))
  | 86, _ => exact x_tb86 _ L xs i (x_cdef _ L xs i h0 h1 h2 h3 h4 h5 (kk _ _ hR))
  | 87, _ => exact x_tb87 _ L xs i (x_cdef _ L xs i h0 h1 h2 h3 h4 h5 (kk _ _ hR))
  | 88, _ => exact x_tb88 _ L xs i (x_cdef _ L xs i h0 h1 h2 h3 h4 h5 (kk _ _ hR))
  | 89, _ => exact x_tb89 _ L xs i (x_cdef _ L xs i h0 h1 h2 h3 h4 h5 (kk _ _ hR))
  | 90, _ => exact x_tb90 _ L xs i (x_cdef _ L xs i h0 h1 h2 h3 h4 h5 (kk _ _ hR))
  | 91, _ => exact x_tb91 _ L xs i (x_cdef _ L xs i h0 h1 h2 h3 h4 h5 (kk _ _ hR))
  | 92, _ => exact x_tb92 _ L xs i (x_cdef _ L xs i h0 h1 h2 h3 h4 h5 (kk _ _ hR))
  | 93, _ => exact x_tb93 _ L xs i (x_cdef _ L xs i h0 h1 h2 h3 h4 h5 (kk _ _ hR))
  | 94, _ => exact x_tb94 _ L xs i (x_cdef _ L xs i h0 h1 h2 h3 h4 h5 (kk _ _ hR))
  | 95, _ => exact x_tb95 _ L xs i (x_cdef _ L xs i h0 h1 h2 h3 h4 h5 (kk _ _ hR))
  | 96, _ => exact x_tb96 _ L xs i (x_cdef _ L xs i h0 h1 h2 h3 h4 h5 (kk _ _ hR))
  | 97, _ => exact x_tb97 _ L xs i (x_cdef _ L xs i h0 h1 h2 h3 h4 h5 (kk _ _ hR))
  | 98, _ => exact x_tb98 _ L xs i (x_cdef _ L xs i h0 h1 h2 h3 h4 h5 (kk _ _ hR))
  | 99, _ => exact x_tb99 _ L xs i (x_cdef _ L xs i h0 h1 h2 h3 h4 h5 (kk _ _ hR))
  | 100, _ => exact x_tb100 _ L xs i (x_cdef _ L xs i h0 h1 h2 h3 h4 h5 (kk _ _ hR))
  | 101, _ => exact x_tb101 _ L xs i (x_cdef _ L xs i h0 h1 h2 h3 h4 h5 (kk _ _ hR))
  | 102, _ => exact x_tb102 _ L xs i (x_cdef _ L xs i h0 h1 h2 h3 h4 h5 (kk _ _ hR))
  | 103, _ => exact x_tb103 _ L xs i (x_cdef _ L xs i h0 h1 h2 h3 h4 h5 (kk _ _ hR))
  | 104, _ => exact x_tb104 _ L xs i (x_cdef _ L xs i h0 h1 h2 h3 h4 h5 (kk _ _ hR))
  | 105, _ => exact x_tb105 _ L xs i (x_cdef _ L xs i h0 h1 h2 h3 h4 h5 (kk _ _ hR))
  | 106, _ => exact x_tb106 _ L xs i (x_cdef _ L xs i h0 h1 h2 h3 h4 h5 (kk _ _ hR))
  | 107, _ => exact x_tb107 _ L xs i (x_cdef _ L xs i h0 h1 h2 h3 h4 h5 (kk _ _ hR))
  | 108, _ => exact x_tb108 _ L xs i (x_cdef _ L xs i h0 h1 h2 h3 h4 h5 (kk _ _ hR))
  | 109, _ => exact x_tb109 _ L xs i (x_cdef _ L xs i h0 h1 h2 h3 h4 h5 (kk _ _ hR))
  | 110, _ => exact x_tb110 _ L xs i (x_cdef _ L xs i h0 h1 h2 h3 h4 h5 (kk _ _ hR))
  | 111, _ => exact x_tb111 _ L xs i (x_cdef _ L xs i h0 h1 h2 h3 h4 h5 (kk _ _ hR))
  | 112, _ => exact x_tb112 _ L xs i (x_cdef _ L xs i h0 h1 h2 h3 h4 h5 (kk _ _ hR))
  | 113, _ => exact x_tb113 _ L xs i (x_cdef _ L xs i h0 h1 h2 h3 h4 h5 (kk _ _ hR))
  | 114, _ => exact x_tb114 _ L xs i (x_cdef _ L xs i h0 h1 h2 h3 h4 h5 (kk _ _ hR))
  | 115, _ => exact x_tb115 _ L xs i (x_cdef _ L xs i h0 h1 h2 h3 h4 h5 (kk _ _ hR))
  | 116, _ => exact x_tb116 _ L xs i (x_cdef _ L xs i h0 h1 h2 h3 h4 h5 (kk _ _ hR))
  | 117, _ => exact x_tb117 _ L xs i (x_cdef _ L xs i h0 h1 h2 h3 h4 h5 (kk _ _ hR))
  | 118, _ => exact x_tb118 _ L xs i (x_cdef _ L xs i h0 h1 h2 h3 h4 h5 (kk _ _ hR))
  | 119, _ => exact x_tb119 _ L xs i (x_cdef _ L xs i h0 h1 h2 h3 h4 h5 (kk _ _ hR))
  | 120, _ => exact x_tb120 _ L xs i (x_cdef _ L xs i h0 h1 h2 h3 h4 h5 (kk _ _ hR))
  | 121, _ => exact x_tb121 _ L xs i (x_cdef _ L xs i h0 h1 h2 h3 h4 h5 (kk _ _ hR))
  | 122, _ => exact x_tb122 _ L xs i (x_cdef _ L xs i h0 h1 h2 h3 h4 h5 (kk _ _ hR))
  | 123, _ => exact x_tb123 _ L xs i (x_cdef _ L xs i h0 h1 h2 h3 h4 h5 (kk _ _ hR))
  | 124, _ => exact x_tb124 _ L xs i (x_cdef _ L xs i h0 h1 h2 h3 h4 h5 (kk _ _ hR))
  | 125, _ => exact x_tb125 _ L xs i (x_cdef _ L xs i h0 h1 h2 h3 h4 h5 (kk _ _ hR))
  | 126, _ => exact x_tb126 _ L xs i (x_cdef _ L xs i h0 h1 h2 h3 h4 h5 (kk _ _ hR))
  | 127, _ => exact x_tb127 _ L xs i (x_cdef _ L xs i h0 h1 h2 h3 h4 h5 (kk _ _ hR))
  | j + 128, h => exact absurd h (by omega)
theorem x_loop (L : Nat) (hL : L ≤ 3072) (xs : Nat → Int32) {P : Option Value × xH × Nat × Nat → Prop} (kk : ∀ (h : xH) (l : xL), x_R x_mt (some (L, xs)) 10 M_law (2374, l, [], h, 98, 10728) P) : ∀ (m n : Nat) (σ τ : j_G), j_Rel σ τ → L < 6 * n + 6 * m → 6 * n ≤ 4000 → x_R x_mt (some (L, xs)) 10 M_law (18, [(3, .int (nI (6 * n))), (2, .ref 75), (1, .ref 0), (0, .ref x_scr)], [], j_hp true σ τ, 98, 10728) P := by
  intro m
  induction m with
  | zero =>
    intro n σ τ hR hm hn
    refine x_hd _ L xs _ (fun _ => kk _ _) (fun h => absurd ?_ h)
    rw [Int32.lt_iff_toInt_lt, show Int32.ofNat L - 6 = nI L - nI 6 from rfl, pk_sub_toInt (by omega) (by omega), nI_toInt (by omega)]
    omega
  | succ m ih =>
    intro n σ τ hR hm hn
    refine x_hd _ L xs _ (fun _ => kk _ _) (fun h => ?_)
    rw [Int32.lt_iff_toInt_lt, show Int32.ofNat L - 6 = nI L - nI 6 from rfl, pk_sub_toInt (by omega) (by omega), nI_toInt (by omega)] at h
    have hq : ∀ q : Nat, q < 6 → ¬ (nI (6 * n) + nI q < 0 ∨ L ≤ (nI (6 * n) + nI q).toNatClampNeg) := fun q hq => by
      rw [nI_add]
      exact nI_in (by omega) (by omega)
    refine x_one L xs _ (nI_in (by omega) (by omega)) (hq 1 (by omega)) (hq 2 (by omega)) (hq 3 (by omega)) (hq 4 (by omega)) (hq 5 (by omega)) hR (fun σ τ hR => ?_)
    have := ih (n + 1) σ τ hR (by omega) (by omega)
    rw [show nI (6 * n) + Int32.ofInt (6) = nI (6 * (n + 1)) from nI_add (6 * n) 6]
    exact this
/-! ===== the law ===== -/
theorem x_law_ok : x_Law 3072 := by
  intro L xs hL
  have key : x_R x_mt (some (L, xs)) 10 M_law (0, [(0, .ref x_scr)], [], [], 0, 0) (fun r => r.1 = some (.int 1) ∧ r.2.2.1 ≤ room_1.cells ∧ r.2.2.2 ≤ room_1.slots) := by
    refine x_pre ?_
    rw [j_h0]
    exact x_loop L hL xs (fun h l => x_R.steps 1 (c' := (2375, l, [.int 1], h, 98, 10728)) rfl (x_R.ret rfl ⟨rfl, show (98 : Nat) ≤ room_1.cells from by decide, show (10728 : Nat) ≤ room_1.slots from by decide⟩)) (L + 1) 0 _ _ j_Rel0 (by omega) (by omega)
  obtain ⟨n, ⟨v, h', k', z'⟩, h1, h2, h3, h4⟩ := key
  dsimp only at h2 h3 h4
  subst h2
  exact ⟨n, h', k', z', h1, h3, h4⟩
