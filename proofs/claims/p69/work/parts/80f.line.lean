/-! ===== the class's line: items ===== -/
section L
variable {B : Nat → Int32} {n : Nat} {J : List Nat → Nat → Nat}
theorem yc_blame {σ : j_G} {k p : Nat} (hk : 0 < k) (hk3 : k ≤ 3) (hp : p ≤ n) (ht : y_ct σ B n) (h6 : σ.1 10 6 = nI (y_s B n p)) : ∃ σ', f_X7_blame (nI k) σ = some σ' ∧ y_cw σ' B n (k, y_s B n p) ∧ y_fc σ σ' := by
  have sb := y_s_bd (B := B) hp
  have fr : y_fc σ (j_si (j_si σ 10 1 (nI k)) 10 2 (σ.1 10 6)) := (y_fc.refl.si (by omega)).si (by omega)
  unfold f_X7_blame
  simp only [j_lt]
  rw [j_r_nj (show 6 ≠ 1 by omega)]
  refine ⟨_, rfl, ⟨ht.fc fr, hk3, sb.2, fun z => ?_, fun _ => ⟨?_, ?_⟩⟩, fr⟩
  · have : k = 0 := z
    omega
  · rw [j_r_nj (by omega), j_r_eq]
  · rw [j_r_eq, h6]
/-- the step, in the middle of a line -/
theorem yc_stepW {σ : j_G} {p : Nat} (h : y_cw σ B n (0, p)) : ∃ σ', f_X7_step σ = some σ' ∧ y_ck σ' B n p ∧ y_cf10 σ σ' ∧ y_ct σ' B n ∧ y_cw σ' B n (0, y_e B n p) := by
  obtain ⟨h1, h2, h3, h4, h5⟩ := h
  obtain ⟨g1, g2, g3⟩ := h4 rfl
  obtain ⟨σ', e1, e2, e3⟩ := yc_step h1 h3 g3
  have eb := y_e_bd (B := B) h3
  refine ⟨σ', e1, e2, e3, h1.fr e3, h1.fr e3, by simp, eb.2.1, fun _ => ⟨?_, ?_, e2.2.2.1⟩, fun z => absurd rfl z⟩
  · rw [e3.2.2.1]; exact g1
  · rw [e3.2.2.2]; exact g2
/-- a judge, of what is told -/
def y_jd (J : List Nat → Nat → Nat) (K : Int32) (σ : j_G) : Prop := ∀ (σ' : j_G) (vs : List Nat) (v : Nat), y_fc σ σ' → σ'.1 10 8 = nI v → v ≤ 1000000 → (∀ j, j < vs.length → σ'.1 21 j = nI (vs.getD j 0) ∧ vs.getD j 0 ≤ 1000000) → vs.length < 5 → f_X7_judge K (nI vs.length) σ' = some (nI (J vs v)) ∧ J vs v ≤ 3
theorem y_jd.fc {K : Int32} {σ σ' : j_G} (h : y_jd J K σ) (hf : y_fc σ σ') : y_jd J K σ' := fun σ'' vs v a b c d e => h σ'' vs v (hf.trans a) b c d e
theorem yc_loop {q : Nat} {S : List Int32} (hS : y_str q S) (K : Int32) : ∀ (items : List (Option (List Int32))) (i f c p : Nat) (vs : List Nat) (σ : j_G), y_fit S i vs.length items = true → items.length < f → c + items.length < S.length → y_jd J K σ → y_cw σ B n (0, p) → (∀ j, j < vs.length → σ.1 21 j = nI (vs.getD j 0) ∧ vs.getD j 0 ≤ 1000000) →
    ∃ σ', y_cw σ' B n (y_gq B n J items ((0, p), vs)).1 ∧ y_fc σ σ' ∧ ((y_gq B n J items ((0, p), vs)).1.1 ≠ 0 → p_X7_readLine_47 K q f (nI vs.length) (nI i) (nI c) σ = some σ') ∧
      ((y_gq B n J items ((0, p), vs)).1.1 = 0 → p_X7_readLine_47 K q f (nI vs.length) (nI i) (nI c) σ = (j_b1 (f_X7_apply K σ') fun σ14 => j_lt (j_si σ14 11 1 ((σ14.1 11 1) + (1 : Int32))) fun σ15 => some σ15) ∧
        ∀ j, j < (y_gq B n J items ((0, p), vs)).2.length → σ'.1 21 j = nI ((y_gq B n J items ((0, p), vs)).2.getD j 0) ∧ (y_gq B n J items ((0, p), vs)).2.getD j 0 ≤ 1000000) := by
  have hl := hS.2.2.1
  intro items
  induction items with
  | nil =>
    intro i f c p vs σ hfit hf hc hJ hw hv
    obtain ⟨f, rfl⟩ := y_pos hf
    obtain ⟨hi, hi2⟩ : S.length ≤ i ∧ i ≤ 200 := by unfold y_fit at hfit; exact of_decide_eq_true hfit
    refine ⟨σ, hw, y_fc.refl, fun z => absurd rfl z, fun _ => ⟨?_, hv⟩⟩
    unfold p_X7_readLine_47
    rw [hS.len, j_b1_s]
    simp only [j_lt]
    rw [if_pos (show nI c < nI S.length by rw [y_lt (by omega) (by omega)]; simp at hc; omega), j_b1_s, if_neg (show ¬ nI i < nI S.length by rw [y_lt (by omega) (by omega)]; omega)]
  | cons it l ih =>
    intro i f c p vs σ hfit hf hc hJ hw hv
    obtain ⟨f, rfl⟩ := y_pos hf
    have hn := hw.1.1
    have hp : p ≤ n := hw.2.2.1
    have hlen : (it :: l).length = l.length + 1 := rfl
    rw [hlen] at hf hc
    obtain ⟨σ1, e1, e2, e3, e4, e5⟩ := yc_stepW hw
    have kl := y_kd_le (B := B) (n := n) (p := p)
    have vl := y_val_le B n p
    have hx : y_gq B n J (it :: l) ((0, p), vs) = y_gq B n J l (y_stp B n J it ((0, p), vs)) := rfl
    have ec : nI c + 1 = nI (c + 1) := by simp (disch := omega) only [y_lit, nI_add]
    rw [hx]
    have start : i < S.length → p_X7_readLine_47 K q (f + 1) (nI vs.length) (nI i) (nI c) σ = (j_b1 (f_X7_standsAt q (nI i) σ1) fun v5 =>
      if v5 = 0 then (j_b1 (f_X7_blame (1) σ1) fun σ6 => some σ6) else (
      if ((σ1.1 10 5) = (3 : Int32)) ∧ (nI vs.length < (5 : Int32)) then (j_b1 (f_X7_judge K (nI vs.length) σ1) fun v8 =>
      if ¬ v8 = 0 then (j_b1 (f_X7_blame v8 σ1) fun σ9 => some σ9) else (j_ix (nI vs.length) 5 (
      (j_b1 (f_X7_behindBlank q (nI i)) fun v13 => p_X7_readLine_47 K q f (nI vs.length + 1) v13 (nI c + 1) (j_si σ1 21 (nI vs.length).toNatClampNeg (σ1.1 10 8)))))) else (
      (j_b1 (f_X7_behindBlank q (nI i)) fun v13 => p_X7_readLine_47 K q f (nI vs.length) v13 (nI c + 1) σ1)))) := by
      intro hi
      rw [p_X7_readLine_47.eq_def]
      simp only [j_lt]
      rw [hS.len, j_b1_s, if_pos (show nI c < nI S.length by rw [y_lt (by omega) (by omega)]; omega), j_b1_s, if_pos (show nI i < nI S.length by rw [y_lt (by omega) (by omega)]; omega), e1, j_b1_s]
    have one : S.getD i 0 ≠ 32 → ∀ t, i ≤ t → t < i + 1 → S.getD t 0 ≠ 32 := fun h t a b => by rw [show t = i by omega]; exact h
    have bad : ∀ k, 0 < k → k ≤ 3 → (∃ σ', f_X7_blame (nI k) σ1 = some σ' ∧ y_cw σ' B n (k, y_s B n p) ∧ y_fc σ σ') := by
      intro k a b
      obtain ⟨σ2, g1, g2, g3⟩ := yc_blame a b hp e4 e2.2.1
      exact ⟨σ2, g1, g2, e3.fc.trans g3⟩
    have v1 : ∀ j, j < vs.length → σ1.1 21 j = nI (vs.getD j 0) ∧ vs.getD j 0 ≤ 1000000 := fun j hj => by rw [e3.1 21 (by omega)]; exact hv j hj
    match it, hfit with
    | none, hfit =>
      unfold y_fit at hfit
      simp only [Bool.and_eq_true, decide_eq_true_eq] at hfit
      obtain ⟨⟨⟨⟨h1, h2⟩, h3⟩, h4⟩, h5⟩ := hfit
      rw [y_stp_n, start h1, yc_stN hS e2 h1 h2, j_b1_s]
      by_cases k : y_kd B n p = 2
      · rw [if_pos k, if_neg (show ¬ nI 1 = (0 : Int32) by decide), if_neg (show ¬ y_kd B n p ≠ 2 from fun z => z k), if_pos (show σ1.1 10 5 = (3 : Int32) ∧ nI vs.length < (5 : Int32) from ⟨by rw [e2.1, k]; rfl, by rw [show (5 : Int32) = nI 5 from rfl, y_lt (by omega) (by omega)]; exact h4⟩)]
        obtain ⟨j1, j2⟩ := hJ σ1 vs (y_val B n p) e3.fc e2.2.2.2 vl v1 h4
        rw [j1, j_b1_s]
        by_cases g : J vs (y_val B n p) = 0
        · rw [if_neg (fun z => z g), if_neg (show ¬ ¬ nI (J vs (y_val B n p)) = (0 : Int32) by rw [g]; exact fun z => z rfl), y_ix h4 (by omega), yc_bbn hS (j := i + 1) (by omega) (by omega) h3 (one (by rw [h2]; decide)), j_b1_s, nI_clamp (by omega), ec, e2.2.2.2]
          have el : (vs ++ [y_val B n p]).length = vs.length + 1 := by simp
          have ev : nI vs.length + 1 = nI (vs ++ [y_val B n p]).length := by rw [el]; simp (disch := omega) only [y_lit, nI_add]
          have fr : y_fc σ1 (j_si σ1 21 vs.length (nI (y_val B n p))) := y_fc.refl.si (by omega)
          rw [ev]
          have w5 : y_cw (j_si σ1 21 vs.length (nI (y_val B n p))) B n (0, y_e B n p) := by
            obtain ⟨a1, a2, a3, a4, a5⟩ := e5
            refine ⟨a1.fc fr, a2, a3, fun z => ?_, fun z => absurd rfl z⟩
            rw [j_r_ne (by omega), j_r_ne (by omega), j_r_ne (by omega)]; exact a4 z
          have v2 : ∀ j, j < (vs ++ [y_val B n p]).length → (j_si σ1 21 vs.length (nI (y_val B n p))).1 21 j = nI ((vs ++ [y_val B n p]).getD j 0) ∧ (vs ++ [y_val B n p]).getD j 0 ≤ 1000000 := by
            intro j hj
            rw [el] at hj
            by_cases w : j = vs.length
            · subst w
              rw [j_r_eq]
              have : (vs ++ [y_val B n p]).getD vs.length 0 = y_val B n p := by simp [List.getD]
              rw [this]
              exact ⟨rfl, vl⟩
            · rw [j_r_nj (by omega)]
              have : (vs ++ [y_val B n p]).getD j 0 = vs.getD j 0 := by
                have : j < vs.length := by omega
                simp [List.getD, List.getElem?_append_left this]
              rw [this]; exact v1 j (by omega)
          obtain ⟨σ', b1, b2, b3, b4⟩ := ih (i + 2) f (c + 1) (y_e B n p) (vs ++ [y_val B n p]) _ (by rw [el]; exact h5) (by omega) (by omega) (hJ.fc (e3.fc.trans fr)) w5 v2
          exact ⟨σ', b1, (e3.fc.trans fr).trans b2, b3, b4⟩
        · rw [if_pos (show J vs (y_val B n p) ≠ 0 from g), if_pos (show ¬ nI (J vs (y_val B n p)) = (0 : Int32) by rw [show (0 : Int32) = nI 0 from rfl, y_eq (by omega) (by omega)]; exact g), y_gq_bad (show ((J vs (y_val B n p), y_s B n p), vs).1.1 ≠ 0 from g)]
          obtain ⟨σ2, g1, g2, g3⟩ := bad (J vs (y_val B n p)) (by omega) j2
          rw [g1]
          exact ⟨σ2, g2, g3, fun _ => rfl, fun z => absurd z g⟩
      · rw [if_neg k, if_pos (show nI 0 = (0 : Int32) from rfl), if_pos (show y_kd B n p ≠ 2 from k), y_gq_bad (show ((1, y_s B n p), vs).1.1 ≠ 0 by show (1 : Nat) ≠ 0; omega)]
        obtain ⟨σ2, g1, g2, g3⟩ := bad 1 (by omega) (by omega)
        rw [show (1 : Int32) = nI 1 from rfl, g1]
        exact ⟨σ2, g2, g3, fun _ => rfl, fun z => absurd z (by show ¬ (1 : Nat) = 0; omega)⟩
    | some [], hfit =>
      unfold y_fit at hfit
      simp only [Bool.and_eq_true, decide_eq_true_eq] at hfit
      obtain ⟨⟨⟨h1, h2⟩, h3⟩, h5⟩ := hfit
      rw [start h1, yc_stS hS e2 h1 h2, j_b1_s]
      by_cases k : y_kd B n p = 3
      · rw [if_pos k, if_neg (show ¬ nI 1 = (0 : Int32) by decide), show y_stp B n J (some []) ((0, p), vs) = ((0, y_e B n p), vs) by rw [y_stp_s, if_pos k], if_neg (show ¬ (σ1.1 10 5 = (3 : Int32) ∧ nI vs.length < (5 : Int32)) from fun z => by have := z.1; rw [e2.1, k] at this; exact absurd this (by decide)), yc_bbn hS (j := i + 1) (by omega) (by omega) h3 (one (by rw [h2]; decide)), j_b1_s, ec]
        obtain ⟨σ', b1, b2, b3, b4⟩ := ih (i + 2) f (c + 1) (y_e B n p) vs σ1 h5 (by omega) (by omega) (hJ.fc e3.fc) e5 v1
        exact ⟨σ', b1, e3.fc.trans b2, b3, b4⟩
      · rw [if_neg k, if_pos (show nI 0 = (0 : Int32) from rfl), show y_stp B n J (some []) ((0, p), vs) = ((1, y_s B n p), vs) by rw [y_stp_s, if_neg k], y_gq_bad (show ((1, y_s B n p), vs).1.1 ≠ 0 by show (1 : Nat) ≠ 0; omega)]
        obtain ⟨σ2, g1, g2, g3⟩ := bad 1 (by omega) (by omega)
        rw [show (1 : Int32) = nI 1 from rfl, g1]
        exact ⟨σ2, g2, g3, fun _ => rfl, fun z => absurd z (by show ¬ (1 : Nat) = 0; omega)⟩
    | some (a :: L), hfit =>
      unfold y_fit at hfit
      simp only [Bool.and_eq_true, decide_eq_true_eq] at hfit
      obtain ⟨⟨⟨⟨h1, h2⟩, h3⟩, h4⟩, h5⟩ := hfit
      have hLl : (a :: L).length = L.length + 1 := rfl
      rw [start (by omega), yc_stW hS e4 hp e2 h1 h2 h3 h4, j_b1_s]
      by_cases k : y_sp (a :: L) B n p = true
      · have k1 := (y_spP.mp k).1
        rw [if_pos k, if_neg (show ¬ nI 1 = (0 : Int32) by decide), show y_stp B n J (some (a :: L)) ((0, p), vs) = ((0, y_e B n p), vs) by rw [y_stp_w (List.cons_ne_nil a L), if_pos k], if_neg (show ¬ (σ1.1 10 5 = (3 : Int32) ∧ nI vs.length < (5 : Int32)) from fun z => by have := z.1; rw [e2.1, k1] at this; exact absurd this (by decide)), yc_bbn hS (j := i + (a :: L).length) (by omega) (by omega) (fun _ => h2) (fun t x y => by
          have := (h3 (t - i) (by omega)).2
          rw [show i + (t - i) = t by omega] at this
          exact this), j_b1_s, ec]
        obtain ⟨σ', b1, b2, b3, b4⟩ := ih (i + (a :: L).length + 1) f (c + 1) (y_e B n p) vs σ1 h5 (by omega) (by omega) (hJ.fc e3.fc) e5 v1
        exact ⟨σ', b1, e3.fc.trans b2, b3, b4⟩
      · rw [if_neg k, if_pos (show nI 0 = (0 : Int32) from rfl), show y_stp B n J (some (a :: L)) ((0, p), vs) = ((1, y_s B n p), vs) by rw [y_stp_w (List.cons_ne_nil a L), if_neg k], y_gq_bad (show ((1, y_s B n p), vs).1.1 ≠ 0 by show (1 : Nat) ≠ 0; omega)]
        obtain ⟨σ2, g1, g2, g3⟩ := bad 1 (by omega) (by omega)
        rw [show (1 : Int32) = nI 1 from rfl, g1]
        exact ⟨σ2, g2, g3, fun _ => rfl, fun z => absurd z (by show ¬ (1 : Nat) = 0; omega)⟩
end L
