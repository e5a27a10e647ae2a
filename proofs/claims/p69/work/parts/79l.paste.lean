/-! ===== paste ===== -/
theorem ym_mv1 {s : Nat} (hs : s < 4) {i k t n : Nat} (hi : i + n ≤ 60) (x y : Int32) : ∀ (m q f : Nat) (τ : j_G), q + m = n → m < f → ∃ τ', p_X12_paste_113 (nI s) (nI i) x y (nI n) f (nI q) τ = some τ' ∧ τ'.1 = τ.1 ∧ (∀ c, c ≠ 97 → τ'.2 c = τ.2 c) ∧ (∀ j, j < q → τ'.2 97 j = τ.2 97 j) ∧ ∀ j, q ≤ j → j < n → τ'.2 97 j = τ.2 96 (60 * s + i + j) := by
  intro m
  induction m with
  | zero =>
    intro q f τ h hf
    obtain ⟨f, rfl⟩ := y_pos hf
    refine ⟨τ, ?_, rfl, fun _ _ => rfl, fun _ _ => rfl, fun j a c => by omega⟩
    unfold p_X12_paste_113; simp (disch := omega) only [y_lit, y_n1, nI_add, pk_mul, j_lt, j_b1_s, j_b2_s, j_b3_s, j_b0_s, y_bo, y_bo1, y_bo0, y_i0, y_i1, Classical.not_not, nI_clamp, y_ix, y_lt, y_le, y_eq, y_nP, y_nPs, y_ltP, y_ltQ, y_ltPP, y_eqP, y_eqQ, y_eqPP, if_pos, if_neg, ite_true, ite_false, not_true_eq_false, not_false_eq_true, and_true, true_and, and_false, false_and, or_true, true_or, or_false, false_or]
  | succ m ih =>
    intro q f τ h hf
    obtain ⟨f, rfl⟩ := y_pos hf
    obtain ⟨τ', e1, e2, e3, e4, e5⟩ := ih (q + 1) f (j_sl τ 97 q (τ.2 96 (60 * s + i + q))) (by omega) (by omega)
    refine ⟨τ', ?_, e2, fun c hc => ?_, fun j hj => ?_, fun j a c => ?_⟩
    · unfold p_X12_paste_113; simp (disch := omega) only [y_lit, y_n1, nI_add, pk_mul, j_lt, j_b1_s, j_b2_s, j_b3_s, j_b0_s, y_bo, y_bo1, y_bo0, y_i0, y_i1, Classical.not_not, nI_clamp, y_ix, y_lt, y_le, y_eq, y_nP, y_nPs, y_ltP, y_ltQ, y_ltPP, y_eqP, y_eqQ, y_eqPP, if_pos, if_neg, ite_true, ite_false, not_true_eq_false, not_false_eq_true, and_true, true_and, and_false, false_and, or_true, true_or, or_false, false_or]; exact e1
    · rw [e3 c hc]; funext j; exact j_l_ne hc
    · rw [e4 j (by omega), j_l_nj (by omega)]
    · by_cases e : j = q
      · subst e; rw [e4 _ (by omega), j_l_eq]
      · rw [e5 j (by omega) c, j_l_ne (by omega)]
theorem ym_mv2 {t : Nat} (ht : t < 4) {k n : Nat} (hk : k + n ≤ 60) : ∀ (m q f : Nat) (τ : j_G), q + m = n → m < f → ∃ τ', p_X12_paste_150 (nI t) (nI k) (nI n) f (nI q) τ = some τ' ∧ τ'.1 = τ.1 ∧ (∀ c, c ≠ 96 → τ'.2 c = τ.2 c) ∧ (∀ j, j < 60 * t + k + q ∨ 60 * t + k + n ≤ j → τ'.2 96 j = τ.2 96 j) ∧ ∀ j, q ≤ j → j < n → τ'.2 96 (60 * t + k + j) = τ.2 97 j := by
  intro m
  induction m with
  | zero =>
    intro q f τ h hf
    obtain ⟨f, rfl⟩ := y_pos hf
    refine ⟨τ, ?_, rfl, fun _ _ => rfl, fun _ _ => rfl, fun j a c => by omega⟩
    unfold p_X12_paste_150; simp (disch := omega) only [y_lit, y_n1, nI_add, pk_mul, j_lt, j_b1_s, j_b2_s, j_b3_s, j_b0_s, y_bo, y_bo1, y_bo0, y_i0, y_i1, Classical.not_not, nI_clamp, y_ix, y_lt, y_le, y_eq, y_nP, y_nPs, y_ltP, y_ltQ, y_ltPP, y_eqP, y_eqQ, y_eqPP, if_pos, if_neg, ite_true, ite_false, not_true_eq_false, not_false_eq_true, and_true, true_and, and_false, false_and, or_true, true_or, or_false, false_or]
  | succ m ih =>
    intro q f τ h hf
    obtain ⟨f, rfl⟩ := y_pos hf
    obtain ⟨τ', e1, e2, e3, e4, e5⟩ := ih (q + 1) f (j_sl τ 96 (60 * t + k + q) (τ.2 97 q)) (by omega) (by omega)
    refine ⟨τ', ?_, e2, fun c hc => ?_, fun j hj => ?_, fun j a c => ?_⟩
    · unfold p_X12_paste_150; simp (disch := omega) only [y_lit, y_n1, nI_add, pk_mul, j_lt, j_b1_s, j_b2_s, j_b3_s, j_b0_s, y_bo, y_bo1, y_bo0, y_i0, y_i1, Classical.not_not, nI_clamp, y_ix, y_lt, y_le, y_eq, y_nP, y_nPs, y_ltP, y_ltQ, y_ltPP, y_eqP, y_eqQ, y_eqPP, if_pos, if_neg, ite_true, ite_false, not_true_eq_false, not_false_eq_true, and_true, true_and, and_false, false_and, or_true, true_or, or_false, false_or]; exact e1
    · rw [e3 c hc]; funext j; exact j_l_ne hc
    · rw [e4 j (by omega), j_l_nj (by omega)]
    · by_cases e : j = q
      · subst e; rw [e4 _ (by omega), j_l_eq]
      · rw [e5 j (by omega) c, j_l_ne (by omega)]
/-- the class's paste between two slots -/
def y_pst (c d c2 d2 : Nat) (l2 l4 l5 : Int32) (σ : j_G) : Option (Int32 × j_G) :=
  if ((f_X8_isMade c σ) = nI 0) ∨ ((f_X8_isMade c2 σ) = nI 0) then (some (-2 - 4, σ)) else (if ¬ (σ.1 c 1) = (σ.1 c2 1) then (some (-2 - 6, σ)) else (if ((f_X8_hasPart c l2 l5 σ) = nI 0) ∨ ((f_X8_hasPart c2 l4 l5 σ) = nI 0) then (some (-2 - 5, σ)) else (j_cg l2 l4 l5 60 60 (some (nI 0, j_cl σ d (l2).toNatClampNeg d2 (l4).toNatClampNeg (l5).toNatClampNeg)))))
theorem yc_pst {s t c d c2 d2 : Nat} (hs : y_sc s c d) (ht : y_sc t c2 d2) (l2 l4 l5 : Int32) (σ : j_G) : f_X11_paste (nI s) l2 (nI t) l4 l5 σ = y_pst c d c2 d2 l2 l4 l5 σ := by
  have s4 : s < 4 := by unfold y_sc at hs; omega
  have t4 : t < 4 := by unfold y_sc at ht; omega
  have i4 : ∀ k, k < 4 → f_X11_isSlot (nI k) = nI 1 := fun k hk => by rw [yc_isSlot, if_pos ((y_rn (by omega)).mpr hk)]
  have n1 : ¬ (nI 1 = 0 ∨ nI 1 = 0) := by decide
  have e6 : (-6 : Int32) = -2 - 4 := by decide
  have e8 : (-8 : Int32) = -2 - 6 := by decide
  have e7 : (-7 : Int32) = -2 - 5 := by decide
  unfold f_X11_paste
  rw [i4 s s4, i4 t t4, if_neg n1]
  unfold y_pst
  rcases hs with ⟨rfl, rfl, rfl⟩ | ⟨rfl, rfl, rfl⟩ | ⟨rfl, rfl, rfl⟩ | ⟨rfl, rfl, rfl⟩
  · rw [if_pos (show nI 0 = (0 : Int32) from rfl), e6, e8, e7]
    rcases ht with ⟨rfl, rfl, rfl⟩ | ⟨rfl, rfl, rfl⟩ | ⟨rfl, rfl, rfl⟩ | ⟨rfl, rfl, rfl⟩
    · rw [if_pos (show nI 0 = (0 : Int32) from rfl)]; rfl
    · rw [if_neg (by decide), if_pos (show nI 1 = (1 : Int32) from rfl)]; rfl
    · rw [if_neg (by decide), if_neg (by decide), if_pos (show nI 2 = (2 : Int32) from rfl)]; rfl
    · rw [if_neg (by decide), if_neg (by decide), if_neg (by decide), if_pos (show nI 3 = (3 : Int32) from rfl)]; rfl
  · rw [if_neg (show ¬ nI 1 = (0 : Int32) by decide), if_pos (show nI 1 = (1 : Int32) from rfl), e6, e8, e7]
    rcases ht with ⟨rfl, rfl, rfl⟩ | ⟨rfl, rfl, rfl⟩ | ⟨rfl, rfl, rfl⟩ | ⟨rfl, rfl, rfl⟩
    · rw [if_pos (show nI 0 = (0 : Int32) from rfl)]; rfl
    · rw [if_neg (by decide), if_pos (show nI 1 = (1 : Int32) from rfl)]; rfl
    · rw [if_neg (by decide), if_neg (by decide), if_pos (show nI 2 = (2 : Int32) from rfl)]; rfl
    · rw [if_neg (by decide), if_neg (by decide), if_neg (by decide), if_pos (show nI 3 = (3 : Int32) from rfl)]; rfl
  · rw [if_neg (show ¬ nI 2 = (0 : Int32) by decide), if_neg (show ¬ nI 2 = (1 : Int32) by decide), if_pos (show nI 2 = (2 : Int32) from rfl), e6, e8, e7]
    rcases ht with ⟨rfl, rfl, rfl⟩ | ⟨rfl, rfl, rfl⟩ | ⟨rfl, rfl, rfl⟩ | ⟨rfl, rfl, rfl⟩
    · rw [if_pos (show nI 0 = (0 : Int32) from rfl)]; rfl
    · rw [if_neg (by decide), if_pos (show nI 1 = (1 : Int32) from rfl)]; rfl
    · rw [if_neg (by decide), if_neg (by decide), if_pos (show nI 2 = (2 : Int32) from rfl)]; rfl
    · rw [if_neg (by decide), if_neg (by decide), if_neg (by decide), if_pos (show nI 3 = (3 : Int32) from rfl)]; rfl
  · rw [if_neg (show ¬ nI 3 = (0 : Int32) by decide), if_neg (show ¬ nI 3 = (1 : Int32) by decide), if_neg (show ¬ nI 3 = (2 : Int32) by decide), if_pos (show nI 3 = (3 : Int32) from rfl), e6, e8, e7]
    rcases ht with ⟨rfl, rfl, rfl⟩ | ⟨rfl, rfl, rfl⟩ | ⟨rfl, rfl, rfl⟩ | ⟨rfl, rfl, rfl⟩
    · rw [if_pos (show nI 0 = (0 : Int32) from rfl)]; rfl
    · rw [if_neg (by decide), if_pos (show nI 1 = (1 : Int32) from rfl)]; rfl
    · rw [if_neg (by decide), if_neg (by decide), if_pos (show nI 2 = (2 : Int32) from rfl)]; rfl
    · rw [if_neg (by decide), if_neg (by decide), if_neg (by decide), if_pos (show nI 3 = (3 : Int32) from rfl)]; rfl
/-- a part of a row -/
def y_pt (n : Nat) (i m : Int32) : Prop := 0 ≤ i.toInt ∧ 0 ≤ m.toInt ∧ i.toInt + m.toInt ≤ n
theorem yc_part {σ : j_G} {c n : Nat} (h : σ.1 c 0 = nI n) (hn : n ≤ 60) (i m : Int32) : (f_X8_hasPart c i m σ = nI 0) ↔ ¬ y_pt n i m := by
  have e : ((¬ i < 0) ∧ ((¬ m < 0) ∧ ((¬ (σ.1 c 0) < i) ∧ (¬ ((σ.1 c 0) - i) < m)))) ↔ y_pt n i m := by
    rw [h, j_ltI, j_ltI, j_ltI, j_ltI, show (0 : Int32).toInt = 0 from by decide, nI_toInt (by omega)]
    unfold y_pt
    by_cases z : 0 ≤ i.toInt ∧ i.toInt ≤ n
    · rw [j_sbI (by rw [nI_toInt (by omega)]; omega) (by rw [nI_toInt (by omega)]; omega), nI_toInt (by omega)]; omega
    · constructor
      · intro q; omega
      · intro q; omega
  unfold f_X8_hasPart
  by_cases z : y_pt n i m
  · rw [if_pos (e.mpr z)]
    exact ⟨fun q => absurd q (by decide), fun q => absurd z q⟩
  · rw [if_neg (fun q => z (e.mp q))]
    exact ⟨fun _ => z, fun _ => rfl⟩
section Z
variable {σ τ : j_G}
theorem z_paste (hR : j_Rel σ τ) (a1 a2 a3 a4 a5 : Int32) : ∃ v σ1 τ1, f_X11_paste a1 a2 a3 a4 a5 σ = some (v, σ1) ∧ f_X12_paste a1 a2 a3 a4 a5 τ = some (v, τ1) ∧ j_Rel σ1 τ1 := by
  obtain ⟨b, hW, hN, hM, hK⟩ := id hR
  by_cases h : y_rg a1 4 ∧ y_rg a3 4
  · obtain ⟨s, hs, rfl⟩ := y_of _ _ h.1.1 h.1.2
    obtain ⟨t, ht, rfl⟩ := y_of _ _ h.2.1 h.2.2
    obtain ⟨c, d, hc, hk⟩ := hK.slot s hs
    obtain ⟨c2, d2, hc2, hk2⟩ := hK.slot t ht
    have i4 : ∀ k, k < 4 → f_X12_isSlot (nI k) = nI 1 := fun k hk => by rw [ym_isSlot, if_pos ((y_rn (by omega)).mpr hk)]
    have n1 : ¬ (nI 1 = 0 ∨ nI 1 = 0) := by decide
    have cl := yc_pst hc hc2 a2 a4 a5 σ
    have made : ∀ c n, σ.1 c 0 = nI n → n ≤ 60 → ¬ f_X8_isMade c σ = nI 0 := by
      intro c n e hn; unfold f_X8_isMade; simp (disch := omega) only [y_lit, y_n1, nI_add, pk_mul, j_lt, j_b1_s, j_b2_s, j_b3_s, j_b0_s, y_bo, y_bo1, y_bo0, y_i0, y_i1, Classical.not_not, nI_clamp, y_ix, y_lt, y_le, y_eq, y_nP, y_nPs, y_ltP, y_ltQ, y_ltPP, y_eqP, y_eqQ, y_eqPP, if_pos, if_neg, ite_true, ite_false, not_true_eq_false, not_false_eq_true, and_true, true_and, and_false, false_and, or_true, true_or, or_false, false_or, e]; omega
    have unmade : ∀ c, σ.1 c 0 = nP 0 → f_X8_isMade c σ = nI 0 := by
      intro c e; unfold f_X8_isMade; simp (disch := omega) only [y_lit, y_n1, nI_add, pk_mul, j_lt, j_b1_s, j_b2_s, j_b3_s, j_b0_s, y_bo, y_bo1, y_bo0, y_i0, y_i1, Classical.not_not, nI_clamp, y_ix, y_lt, y_le, y_eq, y_nP, y_nPs, y_ltP, y_ltQ, y_ltPP, y_eqP, y_eqQ, y_eqPP, if_pos, if_neg, ite_true, ite_false, not_true_eq_false, not_false_eq_true, and_true, true_and, and_false, false_and, or_true, true_or, or_false, false_or, e]
    rcases hk with ⟨k1, k2⟩ | ⟨n, w, hr⟩
    · refine ⟨-2 - 4, σ, τ, ?_, ?_, hR⟩
      · rw [cl]; unfold y_pst; rw [if_pos (Or.inl (unmade c k1))]
      · unfold f_X12_paste
        rw [i4 s hs, i4 t ht, if_neg n1, y_ix hs (by omega), nI_clamp (by omega), k2, y_m1, if_neg (fun z => z rfl)]; rfl
    · obtain ⟨_, hn, hw, r1, r2, r3, r4, r5⟩ := id hr
      have np : ¬ nI n = (-1 : Int32) := by rw [y_m1, y_eqQ (by omega) (by omega)]; omega
      rcases hk2 with ⟨k1, k2⟩ | ⟨n2, w2, hr2⟩
      · refine ⟨-2 - 4, σ, τ, ?_, ?_, hR⟩
        · rw [cl]; unfold y_pst; rw [if_pos (Or.inr (unmade c2 k1))]
        · unfold f_X12_paste
          rw [i4 s hs, i4 t ht, if_neg n1, y_ix hs (by omega), nI_clamp (by omega), r2, if_pos np, y_ix ht (by omega), nI_clamp (by omega), k2, y_m1, if_pos rfl]; rfl
      · obtain ⟨_, hn2, hw2, p1, p2, p3, p4, p5⟩ := id hr2
        have np2 : ¬ nI n2 = (-1 : Int32) := by rw [y_m1, y_eqQ (by omega) (by omega)]; omega
        have nm : ¬ (f_X8_isMade c σ = nI 0 ∨ f_X8_isMade c2 σ = nI 0) := fun z => z.elim (made c n r1 hn) (made c2 n2 p1 hn2)
        by_cases ew : w = w2
        · subst ew
          by_cases pp : y_pt n a2 a5 ∧ y_pt n2 a4 a5
          · obtain ⟨⟨x1, x2, x3⟩, ⟨x4, x5, x6⟩⟩ := pp
            obtain ⟨i, hi, rfl⟩ := y_of a2 61 (by omega) (by omega)
            obtain ⟨m, hm, rfl⟩ := y_of a5 61 (by omega) (by omega)
            obtain ⟨k, hk, rfl⟩ := y_of a4 61 (by omega) (by omega)
            have pp1 : y_pt n (nI i) (nI m) := ⟨x1, x2, x3⟩
            have pp2 : y_pt n2 (nI k) (nI m) := ⟨x4, x5, x6⟩
            rw [nI_toInt (by omega), nI_toInt (by omega)] at x3 x6
            obtain ⟨τ1, e1, e2, e3, e4, e5⟩ := ym_mv1 (i := i) (k := k) (t := t) (n := m) hs (by omega) (nI t) (nI k) m 0 j_F τ (by omega) (y_F (by omega))
            obtain ⟨τ2, f1, f2, f3, f4, f5⟩ := ym_mv2 (t := t) (k := k) (n := m) ht (by omega) m 0 j_F τ1 (by omega) (y_F (by omega))
            have hd : ∀ j, j < n2 → (j_cl σ d i d2 k m).2 d2 j = τ2.2 96 (60 * t + j) := by
              intro j hj
              rw [j_cl_eq]
              by_cases q : k ≤ j ∧ j < k + m
              · rw [pk_cpy_in q.1 q.2]
                obtain ⟨x, rfl⟩ : ∃ x, j = k + x := ⟨j - k, by omega⟩
                rw [show i + (k + x - k) = i + x from by omega, r5 (i + x) (by omega), ← Nat.add_assoc (60 * t) k x, f5 x (by omega) (by omega), e5 x (by omega) (by omega), Nat.add_assoc]
              · rw [pk_cpy_out (by omega), p5 j hj, f4 _ (by omega), e3 96 (by omega)]
            refine ⟨nI 0, j_cl σ d i d2 k m, τ2, ?_, ?_, y_slots hR hc2 ⟨fun _ _ => rfl, fun x hx => funext fun j => j_cl_ne hx, fun x _ _ => by rw [f2, e2], fun x hx hx2 => by rw [f3 x hx, e3 x hx2], fun j _ => by rw [f2, e2]; exact ⟨rfl, rfl⟩, fun j hj => by rw [f4 j (by omega), e3 96 (by omega)]⟩ (Or.inr ⟨n2, w, hn2, hw, p1, by rw [f2, e2]; exact p2, p3, by rw [f2, e2]; exact p4, hd⟩)⟩
            · rw [cl]; unfold y_pst
              rw [if_neg nm, r3, p3, if_neg (fun z => z rfl), if_neg (fun z => z.elim (fun q => (yc_part r1 hn _ _).mp q pp1) (fun q => (yc_part p1 hn2 _ _).mp q pp2))]
              unfold j_cg
              rw [nI_clamp (by omega), nI_clamp (by omega), nI_clamp (by omega), if_neg]
              simp only [y_lit]
              rw [y_lt (by omega) (by omega), y_lt (by omega) (by omega), y_lt (by omega) (by omega)]
              omega
            · have l1 : ¬ (nI n).toInt64 < (nI i).toInt64 + (nI m).toInt64 := by
                rw [nI_l (by omega), nI_l (by omega), nI_l (by omega), lN_add, lN_lt (by omega) (by omega)]; omega
              have l2 : ¬ (nI n2).toInt64 < (nI k).toInt64 + (nI m).toInt64 := by
                rw [nI_l (by omega), nI_l (by omega), nI_l (by omega), lN_add, lN_lt (by omega) (by omega)]; omega
              unfold f_X12_paste
              rw [i4 s hs, i4 t ht, if_neg n1, y_ix hs (by omega), nI_clamp (by omega), r2, if_pos np, y_ix ht (by omega), nI_clamp (by omega), p2, if_neg np2, y_ix hs (by omega), y_ix ht (by omega), r4, p4, if_neg (fun z => z rfl), if_pos ⟨nI_pos (by omega), nI_pos (by omega), nI_pos (by omega)⟩, y_ix hs (by omega), if_pos l1, y_ix ht (by omega), if_neg l2, show (0 : Int32) = nI 0 from rfl, e1, j_b1_s, f1]
              rfl
          · refine ⟨-2 - 5, σ, τ, ?_, ?_, hR⟩
            · rw [cl]; unfold y_pst
              rw [if_neg nm, r3, p3, if_neg (fun z => z rfl), if_pos]
              rw [yc_part r1 hn, yc_part p1 hn2]
              by_cases q : y_pt n a2 a5
              · exact Or.inr (fun z => pp ⟨q, z⟩)
              · exact Or.inl q
            · unfold f_X12_paste
              rw [i4 s hs, i4 t ht, if_neg n1, y_ix hs (by omega), nI_clamp (by omega), r2, if_pos np, y_ix ht (by omega), nI_clamp (by omega), p2, if_neg np2, y_ix hs (by omega), y_ix ht (by omega), r4, p4, if_neg (fun z => z rfl), y_ix hs (by omega), y_ix ht (by omega)]
              by_cases q : (¬ a2 < 0) ∧ ((¬ a4 < 0) ∧ (¬ a5 < 0))
              · rw [if_pos q]
                rw [j_ltI, j_ltI, j_ltI, show (0 : Int32).toInt = 0 from by decide] at q
                have b2 := Int32.toInt_lt a2; have b4 := Int32.toInt_lt a4; have b5 := Int32.toInt_lt a5
                have ad : ∀ x y : Int32, 0 ≤ x.toInt → 0 ≤ y.toInt → x.toInt < 2147483648 → y.toInt < 2147483648 → (x.toInt64 + y.toInt64).toInt = x.toInt + y.toInt := by
                  intro x y h1 h2 h3 h4
                  rw [Int64.toInt_add, j_l64, j_l64, Int.bmod_eq_of_le (by omega) (by omega)]
                by_cases q1 : ¬ (nI n).toInt64 < a2.toInt64 + a5.toInt64
                · rw [if_pos q1]
                  rw [Int64.lt_iff_toInt_lt, ad a2 a5 (by omega) (by omega) (by omega) (by omega), j_l64, nI_toInt (by omega)] at q1
                  have q2 : (nI n2).toInt64 < a4.toInt64 + a5.toInt64 := by
                    rw [Int64.lt_iff_toInt_lt, ad a4 a5 (by omega) (by omega) (by omega) (by omega), j_l64, nI_toInt (by omega)]
                    have : ¬ y_pt n2 a4 a5 := fun z => pp ⟨⟨by omega, by omega, by omega⟩, z⟩
                    unfold y_pt at this; omega
                  rw [if_pos q2]; rfl
                · rw [if_neg q1]; rfl
              · rw [if_neg q]; rfl
        · have nw : ¬ nI w = nI w2 := by rw [y_eq (by omega) (by omega)]; exact ew
          refine ⟨-2 - 6, σ, τ, ?_, ?_, hR⟩
          · rw [cl]; unfold y_pst
            rw [if_neg nm, r3, p3, if_pos nw]
          · unfold f_X12_paste
            rw [i4 s hs, i4 t ht, if_neg n1, y_ix hs (by omega), nI_clamp (by omega), r2, if_pos np, y_ix ht (by omega), nI_clamp (by omega), p2, if_neg np2, y_ix hs (by omega), y_ix ht (by omega), r4, p4, if_pos nw]; rfl
  · refine ⟨-2, σ, τ, ?_, ?_, hR⟩
    · unfold f_X11_paste
      rw [if_pos]
      rw [yc_isSlot, yc_isSlot]
      by_cases q : y_rg a1 4
      · refine Or.inr ?_
        rw [if_neg (fun z => h ⟨q, z⟩)]; rfl
      · refine Or.inl ?_
        rw [if_neg q]; rfl
    · unfold f_X12_paste
      rw [if_pos]
      rw [ym_isSlot, ym_isSlot]
      by_cases q : y_rg a1 4
      · refine Or.inr ?_
        rw [if_neg (fun z => h ⟨q, z⟩)]; rfl
      · refine Or.inl ?_
        rw [if_neg q]; rfl
end Z
