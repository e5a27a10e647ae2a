/-! ===== best: both answer ===== -/
section C
variable {σ : j_G} {b : Nat → Nat}
theorem tb_apart (hN : y_N σ b) (hW : y_W b) (h9 : 0 < b 9) (x y : Int32) : ∃ v, f_X2_apart x y σ = some v := by
  have h0 := hW.on h9
  have b0 := hW.b0
  have nz : ¬ nI (b 0) = (0 : Int32) := by rw [show (0 : Int32) = nI 0 from rfl, y_eq (by omega) (by omega)]; omega
  unfold f_X2_apart
  rw [hN.f2]
  by_cases c : ¬ (0 : Int32) < nI (b 0)
  · rw [if_pos c]; exact ⟨_, rfl⟩
  · rw [if_neg c, if_neg nz, if_neg nz, if_neg nz, if_neg nz]; exact ⟨_, rfl⟩
theorem tb_pace {a : Nat} (t : Int32) : ∃ v, f_X6_paceIn a t σ = some v := by
  unfold f_X6_paceIn
  by_cases c : 0 < σ.1 a 2
  · rw [if_pos c, if_neg (fun z => by rw [z] at c; exact absurd c (by decide))]; exact ⟨_, rfl⟩
  · rw [if_neg c]; exact ⟨_, rfl⟩
theorem tb_there (hN : y_N σ b) (hW : y_W b) (h9 : 0 < b 9) {a : Nat} (x y t : Int32) : ∃ v, f_X6_there a x y t σ = some v := by
  obtain ⟨u, e1⟩ := tb_apart hN hW h9 x y
  obtain ⟨w, e2⟩ := tb_pace (σ := σ) (a := a) t
  unfold f_X6_there
  rw [e1, j_b1_s, e2, j_b1_s]
  exact ⟨_, rfl⟩
theorem tb_strike {i : Nat} (hi : i < 60) (t : Int32) : ∃ v, f_X4_strike (nI i) t σ = some v := by
  unfold f_X4_strike
  simp only [j_lt]
  rw [y_ix hi (by omega), y_ix hi (by omega)]
  by_cases c : f_X4_has (nI i) σ = 0
  · rw [if_pos c]; exact ⟨_, rfl⟩
  · rw [if_neg c]
    generalize (if t < σ.1 26 (nI i).toNatClampNeg then σ.1 26 (nI i).toNatClampNeg else t) = z
    by_cases d : ¬ σ.1 27 (nI i).toNatClampNeg < z
    · rw [if_pos d]; exact ⟨_, rfl⟩
    · rw [if_neg d]; exact ⟨_, rfl⟩
theorem tb_keep (x y t : Int32) : ∃ σ', f_X0_keep x y t σ = some σ' ∧ y_fr 36 36 σ σ' := by
  unfold f_X0_keep
  simp only [j_lt]
  generalize x * (121 : Int32) + y = v
  by_cases c : ¬ v < 0 ∧ v < (1452 : Int32)
  · rw [if_pos c]
    rw [show (0 : Int32) = nI 0 from rfl, show (1452 : Int32) = nI 1452 from rfl, y_ltr (by omega), y_ltr (by omega)] at c
    obtain ⟨k, hk, rfl⟩ := y_of v 1452 (by omega) (by omega)
    rw [y_ix hk (by omega), y_ix hk (by omega)]
    split
    · exact ⟨_, rfl, y_fr.refl.si (by omega) (by omega)⟩
    · exact ⟨_, rfl, y_fr.refl⟩
  · rw [if_neg c]; exact ⟨_, rfl, y_fr.refl⟩
theorem tb_freeAt (x y : Int32) : ∃ v, f_X0_freeAt x y σ = some v := by
  unfold f_X0_freeAt
  simp only [j_lt]
  generalize x * (121 : Int32) + y = v
  by_cases c : ¬ v < 0 ∧ v < (1452 : Int32)
  · rw [if_pos c]
    rw [show (0 : Int32) = nI 0 from rfl, show (1452 : Int32) = nI 1452 from rfl, y_ltr (by omega), y_ltr (by omega)] at c
    obtain ⟨k, hk, rfl⟩ := y_of v 1452 (by omega) (by omega)
    rw [y_ix hk (by omega)]
    exact ⟨_, rfl⟩
  · rw [if_neg c]; exact ⟨_, rfl⟩
theorem tb_47 {y9 : Int32} (hW : y_W b) (h9 : 0 < b 9) {i h W w8 : Nat} {x : Int32} (hi : i < 60) (hh : h + 2 ≤ W) (hW2 : W ≤ 1000) (h8 : w8 ≤ 2) : ∀ m k n l6 (σ : j_G), k + m = w8 → m < n → y_N σ b → l6 ≤ W → ∃ v σ', p_X0_goOn_47 (nI i) (nI h) (nI w8) y9 x n (nI l6) (nI k) σ = some (nI v, σ') ∧ v ≤ W ∧ y_fr 36 36 σ σ' := by
  intro m
  induction m with
  | zero =>
    intro k n l6 σ hk hn hN hl
    obtain ⟨n, rfl⟩ := y_pos hn
    refine ⟨l6, σ, ?_, hl, y_fr.refl⟩
    unfold p_X0_goOn_47
    rw [if_neg (fun z => by have := z.1; rw [y_lt (by omega) (by omega)] at this; omega)]
  | succ m ih =>
    intro k n l6 σ hk hn hN hl
    obtain ⟨n, rfl⟩ := y_pos hn
    have ek : nI k + (1 : Int32) = nI (k + 1) := by simp (disch := omega) only [y_lit, nI_add]
    have eh1 : nI h + (1 : Int32) = nI (h + 1) := by simp (disch := omega) only [y_lit, nI_add]
    have eh2 : nI h + (2 : Int32) = nI (h + 2) := by simp (disch := omega) only [y_lit, nI_add]
    by_cases c : nI k < nI w8 ∧ ¬ x = (2147483647 : Int32)
    · obtain ⟨n1, hn1⟩ : ∃ v1, (if nI k = 0 then (j_ix (nI i) 60 (some (σ.1 23 (nI i).toNatClampNeg))) else (j_ix (nI i) 60 (some (σ.1 24 (nI i).toNatClampNeg)))) = some v1 := by
        rw [y_ix hi (by omega), y_ix hi (by omega)]
        split
        · exact ⟨_, rfl⟩
        · exact ⟨_, rfl⟩
      obtain ⟨t1, ht1⟩ := tb_there hN hW h9 (a := 28) y9 n1 x
      obtain ⟨s1, hs1⟩ := tb_strike (σ := σ) hi t1
      rw [p_X0_goOn_47.eq_def]
      simp only [j_lt]
      rw [if_pos c, hn1, j_b1_s, ht1, j_b1_s, hs1, j_b1_s, ek, eh1, eh2]
      by_cases d : s1 = (-1 : Int32)
      · rw [if_pos d, j_b2_s]
        exact ih (k + 1) n l6 σ (by omega) (by omega) hN hl
      · obtain ⟨σ6, hk1, fk1⟩ := tb_keep (σ := σ) n1 (nI (h + 1)) (s1 + (1 : Int32))
        have hN6 : y_N σ6 b := hN.fr fk1 (by omega)
        obtain ⟨n2, hn2⟩ : ∃ v8, (if nI k = 0 then (j_ix (nI i) 60 (some (σ6.1 24 (nI i).toNatClampNeg))) else (j_ix (nI i) 60 (some (σ6.1 23 (nI i).toNatClampNeg)))) = some v8 := by
          rw [y_ix hi (by omega), y_ix hi (by omega)]
          split
          · exact ⟨_, rfl⟩
          · exact ⟨_, rfl⟩
        obtain ⟨v9, hv9⟩ : ∃ v9, (if n2 = (-1 : Int32) then (some (-1 : Int32)) else (j_b1 (f_X6_there 28 n1 n2 (s1 + (1 : Int32)) σ6) fun v10 => j_b1 (f_X4_strike (nI i) v10 σ6) fun v11 => some v11)) = some v9 := by
          by_cases e : n2 = (-1 : Int32)
          · rw [if_pos e]; exact ⟨_, rfl⟩
          · obtain ⟨t2, ht2⟩ := tb_there hN6 hW h9 (a := 28) n1 n2 (s1 + (1 : Int32))
            obtain ⟨s2, hs2⟩ := tb_strike (σ := σ6) hi t2
            rw [if_neg e, ht2, j_b1_s, hs2, j_b1_s]; exact ⟨_, rfl⟩
        have e7 : (if nI l6 < nI (h + 1) then nI (h + 1) else nI l6) = nI (if l6 < h + 1 then h + 1 else l6) := by
          by_cases q : l6 < h + 1
          · rw [if_pos q, if_pos ((y_lt (by omega) (by omega)).mpr q)]
          · rw [if_neg q, if_neg (fun z => q ((y_lt (by omega) (by omega)).mp z))]
        rw [if_neg d, hk1, j_b1_s, hn2, j_b1_s, hv9, j_b1_s, e7]
        by_cases e : ¬ v9 = (-1 : Int32)
        · obtain ⟨σ12, hk2, fk2⟩ := tb_keep (σ := σ6) n2 (nI (h + 2)) (v9 + (1 : Int32))
          obtain ⟨v, σ', g1, g2, g3⟩ := ih (k + 1) n (h + 2) σ12 (by omega) (by omega) (hN6.fr fk2 (by omega)) hh
          rw [if_pos e, hk2, j_b1_s, j_b2_s]
          exact ⟨v, σ', g1, g2, (fk1.trans fk2).trans g3⟩
        · obtain ⟨v, σ', g1, g2, g3⟩ := ih (k + 1) n (if l6 < h + 1 then h + 1 else l6) σ6 (by omega) (by omega) hN6 (by split <;> omega)
          rw [if_neg e, j_b2_s]
          exact ⟨v, σ', g1, g2, fk1.trans g3⟩
    · refine ⟨l6, σ, ?_, hl, y_fr.refl⟩
      unfold p_X0_goOn_47
      rw [if_neg c]
theorem tb_25 (hW : y_W b) (h9 : 0 < b 9) {i h W w8 : Nat} (hi : i < 60) (hh : h + 2 ≤ W) (hW2 : W ≤ 1000) (h8 : w8 ≤ 2) : ∀ m k n l6 (σ : j_G), k + m = y_ho b → m < n → y_N σ b → l6 ≤ W → ∃ v σ', p_X0_goOn_25 (nI i) (nI h) (nI w8) n (nI l6) (nI k) σ = some (nI v, σ') ∧ v ≤ W ∧ y_fr 36 36 σ σ' := by
  have ho := hW.ho
  intro m
  induction m with
  | zero =>
    intro k n l6 σ hk hn hN hl
    obtain ⟨n, rfl⟩ := y_pos hn
    refine ⟨l6, σ, ?_, hl, y_fr.refl⟩
    unfold p_X0_goOn_25
    rw [yc_holes hN, if_neg (by rw [y_lt (by omega) (by omega)]; omega)]
  | succ m ih =>
    intro k n l6 σ hk hn hN hl
    obtain ⟨n, rfl⟩ := y_pos hn
    obtain ⟨x, hx⟩ := tb_freeAt (σ := σ) (nI k) (nI h)
    obtain ⟨v, σ1, a1, a2, a3⟩ := tb_47 (y9 := nI k) (x := x) hW h9 hi hh hW2 h8 w8 0 j_F l6 σ (by omega) (y_F (by omega)) hN hl
    obtain ⟨w, σ', g1, g2, g3⟩ := ih (k + 1) n v σ1 (by omega) (by omega) (hN.fr a3 (by omega)) a2
    refine ⟨w, σ', ?_, g2, a3.trans g3⟩
    unfold p_X0_goOn_25
    rw [yc_holes hN, if_pos ((y_lt (by omega) (by omega)).mpr (by omega)), hx, j_b1_s, show (0 : Int32) = nI 0 from rfl, a1, j_b2_s, show nI k + (1 : Int32) = nI (k + 1) by simp (disch := omega) only [y_lit, nI_add]]
    exact g1
theorem tb_goOn (hN : y_N σ b) (hW : y_W b) (h9 : 0 < b 9) {i h W : Nat} (hi : i < 60) (hh : h + 2 ≤ W) (hW2 : W ≤ 1000) : ∃ v σ', f_X0_goOn (nI i) (nI h) σ = some (nI v, σ') ∧ v ≤ W ∧ y_fr 36 36 σ σ' := by
  have ho := hW.ho
  have go : ∀ w8, w8 ≤ 2 → ∃ v σ', (j_b2 (p_X0_goOn_25 (nI i) (nI h) (nI w8) j_F (nI h) (0 : Int32) σ) fun v2 σ3 => some (v2, σ3)) = some (nI v, σ') ∧ v ≤ W ∧ y_fr 36 36 σ σ' := by
    intro w8 h8
    obtain ⟨v, σ1, a1, a2, a3⟩ := tb_25 hW h9 hi hh hW2 h8 (y_ho b) 0 j_F h σ (by omega) (y_F (by omega)) hN (by omega)
    rw [show (0 : Int32) = nI 0 from rfl, a1, j_b2_s]
    exact ⟨v, σ1, rfl, a2, a3⟩
  unfold f_X0_goOn
  simp only [j_lt]
  rw [y_ix hi (by omega)]
  by_cases c : σ.1 24 (nI i).toNatClampNeg = (-1 : Int32)
  · rw [if_pos c]; exact go 1 (by omega)
  · rw [if_neg c]; exact go 2 (by omega)
theorem tb_3 {c : Int32} : ∀ m i n (σ : j_G), i + m = 1452 → m < n → ∃ σ', p_X0_most_3 c n (nI i) σ = some σ' ∧ y_fr 36 36 σ σ' := by
  intro m
  induction m with
  | zero =>
    intro i n σ h hn
    obtain ⟨n, rfl⟩ := y_pos hn
    refine ⟨σ, ?_, y_fr.refl⟩
    unfold p_X0_most_3; simp (disch := omega) only [y_lit, y_n1, nI_add, pk_mul, j_lt, j_b1_s, j_b2_s, j_b3_s, j_b0_s, y_bo, y_bo1, y_bo0, y_i0, y_i1, Classical.not_not, nI_clamp, y_ix, y_lt, y_le, y_eq, y_nP, y_nPs, y_ltP, y_ltQ, y_ltPP, y_eqP, y_eqQ, y_eqPP, if_pos, if_neg, ite_true, ite_false, not_true_eq_false, not_false_eq_true, and_true, true_and, and_false, false_and, or_true, true_or, or_false, false_or]
  | succ m ih =>
    intro i n σ h hn
    obtain ⟨n, rfl⟩ := y_pos hn
    obtain ⟨σ', e1, e2⟩ := ih (i + 1) n (j_si σ 36 i (2147483647 : Int32)) (by omega) (by omega)
    refine ⟨σ', ?_, (y_fr.refl.si (by omega) (by omega)).trans e2⟩
    unfold p_X0_most_3
    rw [if_pos (show nI i < (1452 : Int32) by rw [show (1452 : Int32) = nI 1452 from rfl, y_lt (by omega) (by omega)]; omega), y_ix (by omega) (by omega), nI_clamp (by omega), show nI i + (1 : Int32) = nI (i + 1) by simp (disch := omega) only [y_lit, nI_add]]
    exact e1
theorem tb_74 (hW : y_W b) (h9 : 0 < b 9) {i W : Nat} {c : Int32} (hi : i < 60) (hW2 : W ≤ 1000) : ∀ j n w (σ : j_G), j < n → j + 1 ≤ W → w ≤ W → y_N σ b → ∃ v σ', p_X0_most_74 c (nI i) n (nI w) (nP j) σ = some (nI v, σ') ∧ v ≤ W ∧ y_fr 36 36 σ σ' := by
  intro j
  induction j with
  | zero =>
    intro n w σ hn hj hw hN
    obtain ⟨n, rfl⟩ := y_pos hn
    refine ⟨w, σ, ?_, hw, y_fr.refl⟩
    unfold p_X0_most_74
    rw [if_neg (show ¬ ¬ nP 0 < (0 : Int32) by decide)]
  | succ j ih =>
    intro n w σ hn hj hw hN
    obtain ⟨n, rfl⟩ := y_pos hn
    obtain ⟨v, σ1, a1, a2, a3⟩ := tb_goOn hN hW h9 (h := j) (W := W) hi (by omega) hW2
    have e7 : (if nI w < nI v then nI v else nI w) = nI (if w < v then v else w) := by
      by_cases q : w < v
      · rw [if_pos q, if_pos ((y_lt (by omega) (by omega)).mpr q)]
      · rw [if_neg q, if_neg (fun z => q ((y_lt (by omega) (by omega)).mp z))]
    obtain ⟨u, σ', g1, g2, g3⟩ := ih n (if w < v then v else w) σ1 (by omega) (by omega) (by split <;> omega) (hN.fr a3 (by omega))
    refine ⟨u, σ', ?_, g2, a3.trans g3⟩
    unfold p_X0_most_74
    simp only [j_lt]
    rw [y_nPs, if_pos (show ¬ nI j < (0 : Int32) by rw [show (0 : Int32) = nI 0 from rfl, y_lt (by omega) (by omega)]; omega), a1, j_b2_s, e7, show nI j + (-1 : Int32) = nP j from by unfold nP; rw [Int32.sub_eq_add_neg]]
    exact g1
theorem tb_44 (hW : y_W b) (h9 : 0 < b 9) {s : Nat} {c : Int32} (hs : s ≤ 60) : ∀ m i n w (σ : j_G), i + m = s → m < n → w ≤ 2 * i → σ.1 22 0 = nI s → y_N σ b → ∃ v σ', p_X0_most_44 c n (nI w) (nI i) σ = some (nI v, σ') ∧ y_fr 36 36 σ σ' := by
  intro m
  induction m with
  | zero =>
    intro i n w σ h hn hw h0 hN
    obtain ⟨n, rfl⟩ := y_pos hn
    refine ⟨w, σ, ?_, y_fr.refl⟩
    unfold p_X0_most_44
    rw [h0, if_neg (fun z => by have := z.2; rw [y_lt (by omega) (by omega)] at this; omega)]
  | succ m ih =>
    intro i n w σ h hn hw h0 hN
    obtain ⟨n, rfl⟩ := y_pos hn
    unfold p_X0_most_44
    by_cases d : nI i < c ∧ nI i < σ.1 22 0
    · rw [if_pos d, y_ix (by omega) (by omega), show nI i + (1 : Int32) = nI (i + 1) by simp (disch := omega) only [y_lit, nI_add]]
      by_cases r : σ.1 25 (nI i).toNatClampNeg = 0
      · obtain ⟨v, σ1, a1, a2, a3⟩ := tb_74 (c := c) hW h9 (i := i) (W := 2 * i + 2) (by omega) (by omega) (w + 1) j_F w σ (y_F (by omega)) (by omega) (by omega) hN
        rw [y_nPs] at a1
        obtain ⟨u, σ', g1, g2⟩ := ih (i + 1) n v σ1 (by omega) (by omega) (by omega) (by rw [a3.i 22 0 (by omega)]; exact h0) (hN.fr a3 (by omega))
        rw [if_pos r, a1, j_b2_s, j_b2_s]
        exact ⟨u, σ', g1, a3.trans g2⟩
      · rw [if_neg r, j_b2_s]
        exact ih (i + 1) n w σ (by omega) (by omega) (by omega) h0 hN
    · rw [if_neg d]; exact ⟨w, σ, rfl, y_fr.refl⟩
theorem tb_ahead (hN : y_N σ b) (hW : y_W b) (x y : Int32) : ∃ v σ', f_X11_ahead x y σ = some (v, σ') ∧ y_fr 22 41 σ σ' := by
  unfold f_X11_ahead
  by_cases c : ¬ y < 0 ∧ ¬ (60 : Int32) < y
  · rw [if_pos c]
    by_cases hx : y_rg x (b 6)
    · obtain ⟨p, hp, rfl⟩ := y_of _ _ hx.1 hx.2
      have h9 := hW.on0 (Or.inr (Or.inr (Or.inr (Or.inl (by omega : 0 < b 6)))))
      obtain ⟨σ1, a1, a2, a3⟩ := yc_ready hN hW hp
      have gs := y_gs_le (b := b)
      obtain ⟨σ2, c1, c2⟩ := tb_3 (c := y) 1452 0 j_F σ1 (by omega) (y_F (by omega))
      obtain ⟨σ3, d1, d2⟩ := tb_keep (σ := σ2) (σ2.1 28 4) (0 : Int32) (0 : Int32)
      have f3 := c2.trans d2
      obtain ⟨v, σ4, e1, e2⟩ := tb_44 (c := y) hW h9 gs (y_gs b) 0 j_F 0 σ3 (by omega) (y_F (by omega)) (by omega) (by rw [f3.i 22 0 (by omega)]; exact a2.2.1.1) (a2.1.fr f3 (by omega))
      rw [a1, j_b2_s, if_neg (show ¬ nI 1 = (0 : Int32) by decide)]
      unfold f_X0_most
      rw [show p_X0_most_3 y j_F (0 : Int32) σ1 = _ from c1, j_b1_s, d1, j_b1_s, show p_X0_most_44 y j_F (0 : Int32) (0 : Int32) σ3 = _ from e1, j_b2_s, j_b2_s]
      exact ⟨_, _, rfl, a3.trans ((f3.trans e2).wide (by omega) (by omega))⟩
    · rw [yc_unready hN hW hx, j_b2_s, if_pos (show nI 0 = (0 : Int32) from rfl)]; exact ⟨_, _, rfl, y_fr.refl⟩
  · rw [if_neg c]; exact ⟨_, _, rfl, y_fr.refl⟩
theorem tb_best (hN : y_N σ b) (hW : y_W b) (x : Int32) : ∃ v σ', f_X11_best x σ = some (v, σ') ∧ y_fr 22 41 σ σ' := by
  obtain ⟨v, σ1, a1, a2⟩ := tb_ahead hN hW x 60
  unfold f_X11_best
  rw [a1, j_b2_s]
  exact ⟨_, _, rfl, a2⟩
end C
