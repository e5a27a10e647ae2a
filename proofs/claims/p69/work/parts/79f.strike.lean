/-! ===== blows judged: the reference, and the three questions ===== -/
section M
variable {τ : j_G} {b g J : Nat → Nat} {s h t lag : Nat}
theorem y_mg.fr2 {τ τ' : j_G} {b g : Nat → Nat} {s : Nat} (hg : y_mg τ b s g) (e18 : τ'.1 75 18 = τ.1 75 18) (e82 : τ'.1 82 = τ.1 82) (e83 : τ'.1 83 = τ.1 83) (e84 : τ'.1 84 = τ.1 84) : y_mg τ' b s g := by
  unfold y_mg at *; rw [e18, e82, e83, e84]; exact hg
theorem ym_strike (hW : y_W b) (hg : y_mg τ b s g) (hv : y_vg b s g) (hj : y_jv g J s) (hJ : y_mj τ J s) (hh : h < 12) (ht : t < 300) (hlag : lag ≤ 20) : ∃ τ', f_X12_strike (nI h) (nI t) (nI lag) τ = some τ' ∧ y_mj τ' (y_j1 b g s h t lag J) s ∧ y_fm 39 41 93 93 τ τ' := by
  have hs := hv.1
  have h2 := hW.b2
  have h4 := hW.ho
  have side : ∀ i, i < s → (j_b1 (f_X12_inGame (nI i) (nI 0) τ) fun v1 => j_b1 (if v1 = nI h then (some (nI 1)) else (j_b1 (f_X12_inGame (nI i) (nI 1) τ) fun v3 => if v3 = nI h then (some (nI 2)) else (some (nI 0)))) fun v2 => some v2) = some (nI (y_sd g i h)) := by
    intro i hi
    have gi := hg.2 i hi
    have vi := hv.2 i hi
    unfold f_X12_inGame y_sd
    simp (disch := omega) only [y_lit, y_n1, nI_add, pk_mul, j_lt, j_b1_s, j_b2_s, j_b3_s, j_b0_s, y_bo, y_bo1, y_bo0, y_i0, y_i1, Classical.not_not, nI_clamp, y_ix, y_lt, y_le, y_eq, y_nP, y_nPs, y_ltP, y_ltQ, y_ltPP, y_eqP, y_eqQ, y_eqPP, if_pos, if_neg, ite_true, ite_false, not_true_eq_false, not_false_eq_true, and_true, true_and, and_false, false_and, or_true, true_or, or_false, false_or, Nat.add_zero, gi]
    by_cases c1 : g (3 * i) = h
    · simp (disch := omega) only [y_lit, y_n1, nI_add, pk_mul, j_lt, j_b1_s, j_b2_s, j_b3_s, j_b0_s, y_bo, y_bo1, y_bo0, y_i0, y_i1, Classical.not_not, nI_clamp, y_ix, y_lt, y_le, y_eq, y_nP, y_nPs, y_ltP, y_ltQ, y_ltPP, y_eqP, y_eqQ, y_eqPP, if_pos, if_neg, ite_true, ite_false, not_true_eq_false, not_false_eq_true, and_true, true_and, and_false, false_and, or_true, true_or, or_false, false_or]
    · by_cases c2 : g (3 * i + 1) = h + 1
      · simp (disch := omega) only [y_lit, y_n1, nI_add, pk_mul, j_lt, j_b1_s, j_b2_s, j_b3_s, j_b0_s, y_bo, y_bo1, y_bo0, y_i0, y_i1, Classical.not_not, nI_clamp, y_ix, y_lt, y_le, y_eq, y_nP, y_nPs, y_ltP, y_ltQ, y_ltPP, y_eqP, y_eqQ, y_eqPP, if_pos, if_neg, ite_true, ite_false, not_true_eq_false, not_false_eq_true, and_true, true_and, and_false, false_and, or_true, true_or, or_false, false_or]
      · simp (disch := omega) only [y_lit, y_n1, nI_add, pk_mul, j_lt, j_b1_s, j_b2_s, j_b3_s, j_b0_s, y_bo, y_bo1, y_bo0, y_i0, y_i1, Classical.not_not, nI_clamp, y_ix, y_lt, y_le, y_eq, y_nP, y_nPs, y_ltP, y_ltQ, y_ltPP, y_eqP, y_eqQ, y_eqPP, if_pos, if_neg, ite_true, ite_false, not_true_eq_false, not_false_eq_true, and_true, true_and, and_false, false_and, or_true, true_or, or_false, false_or]
  have stp : ∀ i n, i < s → p_X12_strike_3 (nI h) (nI t) (nI lag) τ (n + 1) (nI i) = (if ¬ nI (y_sd g i h) = nI 0 then (if ¬ (if y_from b i ≤ t ∧ t ≤ y_last b i then nI 1 else nI 0) = nI 0 then (if ¬ (nI (J (10 + i)) &&& nI (y_sd g i h)) = nI 0 then p_X12_strike_3 (nI h) (nI t) (nI lag) τ n (nI (i + 1)) else (some (j_si (j_si (j_si (j_si τ 93 i (nI (J (10 + i)) ||| nI (y_sd g i h))) 75 39 (nI (J 0) + (nI 1 - nI (g (3 * i + 2))))) 75 40 (nI (J 1) + nI (g (3 * i + 2)))) 75 41 (nI (J 2) + (if nI t - nI (y_from b i) < nI lag then nI 1 else nI 0))))) else p_X12_strike_3 (nI h) (nI t) (nI lag) τ n (nI (i + 1))) else p_X12_strike_3 (nI h) (nI t) (nI lag) τ n (nI (i + 1))) := by
    intro i n hi
    have gi := hg.2 i hi
    have vi := hv.2 i hi
    have ji := hj i hi
    have le := y_last_le hW i
    have hlt : nI i < nI s := (y_lt (by omega) (by omega)).mpr hi
    have ein : f_X12_in (nI t).toInt64 (nI (y_from b i)).toInt64 (nI (y_last b i)).toInt64 = if y_from b i ≤ t ∧ t ≤ y_last b i then nI 1 else nI 0 := by
      rw [y_in]
      by_cases q : y_from b i ≤ t ∧ t ≤ y_last b i
      · rw [if_pos q, if_pos ⟨by rw [y_lt (by omega) (by omega)]; omega, by rw [y_lt (by omega) (by omega)]; omega⟩]
      · rw [if_neg q, if_neg]
        rw [y_lt (by omega) (by omega), y_lt (by omega) (by omega)]; omega
    have sd := side i hi
    have ig0 : f_X12_inGame (nI i) (nI 0) τ = some (nI (g (3 * i))) := by unfold f_X12_inGame; simp (disch := omega) only [y_lit, y_n1, nI_add, pk_mul, j_lt, j_b1_s, j_b2_s, j_b3_s, j_b0_s, y_bo, y_bo1, y_bo0, y_i0, y_i1, Classical.not_not, nI_clamp, y_ix, y_lt, y_le, y_eq, y_nP, y_nPs, y_ltP, y_ltQ, y_ltPP, y_eqP, y_eqQ, y_eqPP, if_pos, if_neg, ite_true, ite_false, not_true_eq_false, not_false_eq_true, and_true, true_and, and_false, false_and, or_true, true_or, or_false, false_or, Nat.add_zero, gi]
    have ig1 : f_X12_inGame (nI i) (nI 1) τ = some (nP (g (3 * i + 1))) := by unfold f_X12_inGame; simp (disch := omega) only [y_lit, y_n1, nI_add, pk_mul, j_lt, j_b1_s, j_b2_s, j_b3_s, j_b0_s, y_bo, y_bo1, y_bo0, y_i0, y_i1, Classical.not_not, nI_clamp, y_ix, y_lt, y_le, y_eq, y_nP, y_nPs, y_ltP, y_ltQ, y_ltPP, y_eqP, y_eqQ, y_eqPP, if_pos, if_neg, ite_true, ite_false, not_true_eq_false, not_false_eq_true, and_true, true_and, and_false, false_and, or_true, true_or, or_false, false_or, gi]
    have ig2 : ∀ τ' : j_G, τ'.1 82 = τ.1 82 → f_X12_inGame (nI i) (nI 2) τ' = some (nI (g (3 * i + 2))) := by
      intro τ' e; unfold f_X12_inGame; simp (disch := omega) only [y_lit, y_n1, nI_add, pk_mul, j_lt, j_b1_s, j_b2_s, j_b3_s, j_b0_s, y_bo, y_bo1, y_bo0, y_i0, y_i1, Classical.not_not, nI_clamp, y_ix, y_lt, y_le, y_eq, y_nP, y_nPs, y_ltP, y_ltQ, y_ltPP, y_eqP, y_eqQ, y_eqPP, if_pos, if_neg, ite_true, ite_false, not_true_eq_false, not_false_eq_true, and_true, true_and, and_false, false_and, or_true, true_or, or_false, false_or, e, gi]
    have sdv : (if nI (g (3 * i)) = nI h then some (nI 1) else (j_b1 (some (nP (g (3 * i + 1)))) fun v3 => if v3 = nI h then (some (nI 2)) else (some (nI 0)))) = some (nI (y_sd g i h)) := by
      unfold y_sd
      by_cases c1 : g (3 * i) = h
      · simp (disch := omega) only [y_lit, y_n1, nI_add, pk_mul, j_lt, j_b1_s, j_b2_s, j_b3_s, j_b0_s, y_bo, y_bo1, y_bo0, y_i0, y_i1, Classical.not_not, nI_clamp, y_ix, y_lt, y_le, y_eq, y_nP, y_nPs, y_ltP, y_ltQ, y_ltPP, y_eqP, y_eqQ, y_eqPP, if_pos, if_neg, ite_true, ite_false, not_true_eq_false, not_false_eq_true, and_true, true_and, and_false, false_and, or_true, true_or, or_false, false_or]
      · by_cases c2 : g (3 * i + 1) = h + 1
        · simp (disch := omega) only [y_lit, y_n1, nI_add, pk_mul, j_lt, j_b1_s, j_b2_s, j_b3_s, j_b0_s, y_bo, y_bo1, y_bo0, y_i0, y_i1, Classical.not_not, nI_clamp, y_ix, y_lt, y_le, y_eq, y_nP, y_nPs, y_ltP, y_ltQ, y_ltPP, y_eqP, y_eqQ, y_eqPP, if_pos, if_neg, ite_true, ite_false, not_true_eq_false, not_false_eq_true, and_true, true_and, and_false, false_and, or_true, true_or, or_false, false_or]
        · simp (disch := omega) only [y_lit, y_n1, nI_add, pk_mul, j_lt, j_b1_s, j_b2_s, j_b3_s, j_b0_s, y_bo, y_bo1, y_bo0, y_i0, y_i1, Classical.not_not, nI_clamp, y_ix, y_lt, y_le, y_eq, y_nP, y_nPs, y_ltP, y_ltQ, y_ltPP, y_eqP, y_eqQ, y_eqPP, if_pos, if_neg, ite_true, ite_false, not_true_eq_false, not_false_eq_true, and_true, true_and, and_false, false_and, or_true, true_or, or_false, false_or]
    rw [p_X12_strike_3, hg.1, if_pos hlt, show (0 : Int32) = nI 0 from rfl, show (1 : Int32) = nI 1 from rfl, show (2 : Int32) = nI 2 from rfl, ig0, j_b1_s, ig1, sdv, j_b1_s]
    simp only [j_lt]
    simp (disch := omega) only [y_ix, nI_clamp, gi, ein, hJ.2.2.2 i hi, nI_add]
    rw [ig2 _ (by funext j; simp (disch := omega) only [j_r_ne, j_r_eq, j_r_nj]), j_b1_s, ig2 _ (by funext j; simp (disch := omega) only [j_r_ne, j_r_eq, j_r_nj]), j_b1_s]
    simp (disch := omega) only [j_r_ne, j_r_eq, j_r_nj, hJ.1, hJ.2.1, hJ.2.2.1, gi, nI_add]
  have skip : ∀ m i n, i + m = s → m < n → (∀ j, i ≤ j → j < s → t < y_from b j) → p_X12_strike_3 (nI h) (nI t) (nI lag) τ n (nI i) = some τ := by
    intro m
    induction m with
    | zero =>
      intro i n hh hn _
      obtain ⟨n, rfl⟩ := y_pos hn
      unfold p_X12_strike_3; simp (disch := omega) only [y_lit, y_n1, nI_add, pk_mul, j_lt, j_b1_s, j_b2_s, j_b3_s, j_b0_s, y_bo, y_bo1, y_bo0, y_i0, y_i1, Classical.not_not, nI_clamp, y_ix, y_lt, y_le, y_eq, y_nP, y_nPs, y_ltP, y_ltQ, y_ltPP, y_eqP, y_eqQ, y_eqPP, if_pos, if_neg, ite_true, ite_false, not_true_eq_false, not_false_eq_true, and_true, true_and, and_false, false_and, or_true, true_or, or_false, false_or, hg.1]
    | succ m ih =>
      intro i n hh hn hl
      obtain ⟨n, rfl⟩ := y_pos hn
      have i1 := ih (i + 1) n (by omega) (by omega) (fun j a c => hl j (by omega) c)
      have := hl i (by omega) (by omega)
      rw [stp i n (by omega), i1, if_neg (fun q : y_from b i ≤ t ∧ t ≤ y_last b i => by omega), if_neg (show ¬ ¬ nI 0 = nI 0 from fun q => q rfl)]
      split <;> rfl
  have key : ∀ m i n, i + m = s → m < n → ∃ τ', p_X12_strike_3 (nI h) (nI t) (nI lag) τ n (nI i) = some τ' ∧ y_mj τ' (if y_ui b t m i = 0 then J else y_jo b g (y_ui b t m i - 1) h t lag J) s ∧ y_fm 39 41 93 93 τ τ' := by
    intro m
    induction m with
    | zero =>
      intro i n hh hn
      obtain ⟨n, rfl⟩ := y_pos hn
      refine ⟨τ, ?_, hJ, y_fm.refl⟩
      unfold p_X12_strike_3; simp (disch := omega) only [y_lit, y_n1, nI_add, pk_mul, j_lt, j_b1_s, j_b2_s, j_b3_s, j_b0_s, y_bo, y_bo1, y_bo0, y_i0, y_i1, Classical.not_not, nI_clamp, y_ix, y_lt, y_le, y_eq, y_nP, y_nPs, y_ltP, y_ltQ, y_ltPP, y_eqP, y_eqQ, y_eqPP, if_pos, if_neg, ite_true, ite_false, not_true_eq_false, not_false_eq_true, and_true, true_and, and_false, false_and, or_true, true_or, or_false, false_or, hg.1]
    | succ m ih =>
      intro i n hh hn
      obtain ⟨n, rfl⟩ := y_pos hn
      have vi := hv.2 i (by omega)
      have ji := hj i (by omega)
      have le := y_last_le hW i
      rw [stp i n (by omega)]
      unfold y_ui
      by_cases c : y_from b i ≤ t ∧ t ≤ y_last b i
      · have sk := skip m (i + 1) n (by omega) (by omega) (fun j a d => by have := y_apart2 hW (show i < j by omega); omega)
        rw [if_pos c, if_pos c, if_neg (Nat.succ_ne_zero i), Nat.add_sub_cancel, sk]
        unfold y_jo
        rw [if_pos (show ¬ nI 1 = nI 0 from by decide)]
        by_cases a0 : y_sd g i h = 0
        · rw [if_pos a0, a0, if_neg (fun q => q rfl)]
          exact ⟨τ, rfl, hJ, y_fm.refl⟩
        · have scs := y_sd_c g i h
          have n0 : ¬ nI (y_sd g i h) = nI 0 := by rw [y_eq (by omega) (by omega)]; exact a0
          rw [if_neg a0, if_pos n0, y_and]
          have vs := y_vs (J (10 + i)) (by omega) (y_sd g i h) (by omega) a0
          have al : J (10 + i) &&& y_sd g i h < 4 := Nat.and_lt_two_pow (n := 2) _ (by omega)
          by_cases a1 : J (10 + i) / y_sd g i h % 2 = 1
          · rw [if_pos a1, if_pos (by rw [y_eq (by omega) (by omega)]; exact fun q => vs.1.mp q a1)]
            exact ⟨τ, rfl, hJ, y_fm.refl⟩
          · rw [if_neg a1, if_neg (by rw [y_eq (by omega) (by omega)]; exact fun q => q (vs.1.mpr a1))]
            refine ⟨_, rfl, ⟨?_, ?_, ?_, fun k hk => ?_⟩, (((y_fm.refl.si (by omega) (by omega) (by omega)).so (by omega) (by omega)).so (by omega) (by omega)).so (by omega) (by omega)⟩
            · unfold y_ju; simp (disch := omega) only [j_r_ne, j_r_eq, j_r_nj, y_ue, y_un, pk_sub, nI_add]
            · unfold y_ju; simp (disch := omega) only [j_r_ne, j_r_eq, j_r_nj, y_ue, y_un, nI_add]
            · unfold y_ju; simp (disch := omega) only [j_r_ne, j_r_eq, j_r_nj, y_ue, y_un, pk_sub, y_lt, y_pI, nI_add]
            · unfold y_ju
              by_cases e : k = i
              · subst e; simp (disch := omega) only [j_r_ne, j_r_eq, j_r_nj, y_ue, y_un, y_or, (vs.2 a1).1]
              · simp (disch := omega) only [j_r_ne, j_r_eq, j_r_nj, y_ue, y_un]; exact hJ.2.2.2 k hk
      · rw [if_neg c, if_neg c, if_neg (show ¬ ¬ nI 0 = nI 0 from fun q => q rfl)]
        obtain ⟨τ', e1, e2, e3⟩ := ih (i + 1) n (by omega) (by omega)
        refine ⟨τ', ?_, e2, e3⟩
        rw [e1]
        split <;> rfl
  have k := key s 0 j_F (by omega) (y_F (by omega))
  unfold f_X12_strike y_j1
  exact k
end M
section B
variable {b g e : Nat → Nat} {s lag n : Nat}
theorem y_tk0 {i : Nat} : y_tk g i 0 = 0 := by
  unfold y_tk; rw [if_neg (by decide), if_neg (by decide)]; rfl
theorem y_jv0 : y_jv g (fun _ => 0) s := fun i _ => ⟨Nat.zero_le _, fun z => absurd (show 0 / 2 = 1 from z) (by decide)⟩
theorem y_j1_v {J : Nat → Nat} {h t : Nat} (hv : y_vg b s g) (hj : y_jv g J s) : y_jv g (y_j1 b g s h t lag J) s := by
  have ul := y_ui_le (b := b) (t := t) s 0
  unfold y_j1
  split
  · exact hj
  · exact y_jo_v hv.1 hj (by omega)
theorem yc_jl {σ0 τ0 : j_G} {sl c d : Nat} (hW : y_W b) (hv : y_vg b s g) (hlag : lag ≤ 20) (hd : y_hd σ0 τ0 sl c d n e) (hee : ∀ i, 2 * i < n → e (2 * i) < y_ho b ∧ e (2 * i + 1) < b 2) (hev : n % 2 = 0) : ∀ m i f J σ, 2 * i + 2 * m = n → m < f → y_cg σ b s g → y_jv g J s → y_cj σ g J s → (∀ j, σ.1 c j = σ0.1 c j) → (∀ j, σ.2 d j = σ0.2 d j) → ∃ σ', p_X1_judge_44 c d (nI lag) f (nI (2 * i)) σ = some σ' ∧ y_cj σ' g (y_jl b g s e lag m (2 * i) J) s ∧ y_fr 40 41 σ σ' := by
  have h2 := hW.b2
  have h4 := hW.ho
  have hcd : c ≠ 40 ∧ c ≠ 41 ∧ 41 < c ∧ 41 < d := by have := hd.1; unfold y_sc at this; omega
  have hn := hd.2.1
  intro m
  induction m with
  | zero =>
    intro i f J σ hh hf hc hj hJ e1 e2
    obtain ⟨f, rfl⟩ := y_pos hf
    refine ⟨σ, ?_, hJ, y_fr.refl⟩
    unfold p_X1_judge_44; simp (disch := omega) only [y_lit, y_n1, nI_add, pk_mul, j_lt, j_b1_s, j_b2_s, j_b3_s, j_b0_s, y_bo, y_bo1, y_bo0, y_i0, y_i1, Classical.not_not, nI_clamp, y_ix, y_lt, y_le, y_eq, y_nP, y_nPs, y_ltP, y_ltQ, y_ltPP, y_eqP, y_eqQ, y_eqPP, if_pos, if_neg, ite_true, ite_false, not_true_eq_false, not_false_eq_true, and_true, true_and, and_false, false_and, or_true, true_or, or_false, false_or, e1, hd.2.2.1]
  | succ m ih =>
    intro i f J σ hh hf hc hj hJ e1 e2
    obtain ⟨f, rfl⟩ := y_pos hf
    have x1 := (hd.2.2.2.2 (2 * i) (by omega)).2.1
    have x2 := (hd.2.2.2.2 (2 * i + 1) (by omega)).2.1
    have bd := hee i (by omega)
    obtain ⟨σ1, k1, k2, k3⟩ := yc_judge1 (h := e (2 * i)) (t := e (2 * i + 1)) hW hc hv hj hJ (by omega) (by omega) hlag
    have hc1 := hc.fr k3 (by omega)
    obtain ⟨σ2, g1, g2, g3⟩ := ih (i + 1) f _ σ1 (by omega) (by omega) hc1 (y_j1_v hv hj) k2 (fun j => by rw [k3.i c j (by omega), e1]) (fun j => by rw [k3.l d j (by omega), e2])
    refine ⟨σ2, ?_, g2, k3.trans g3⟩
    unfold p_X1_judge_44; simp (disch := omega) only [y_lit, y_n1, nI_add, pk_mul, j_lt, j_b1_s, j_b2_s, j_b3_s, j_b0_s, y_bo, y_bo1, y_bo0, y_i0, y_i1, Classical.not_not, nI_clamp, y_ix, y_lt, y_le, y_eq, y_nP, y_nPs, y_ltP, y_ltQ, y_ltPP, y_eqP, y_eqQ, y_eqPP, if_pos, if_neg, ite_true, ite_false, not_true_eq_false, not_false_eq_true, and_true, true_and, and_false, false_and, or_true, true_or, or_false, false_or, e1, hd.2.2.1, e2, x1, x2, lN_i, k1]
    rw [show 2 * i + 2 = 2 * (i + 1) from by omega]
    exact g1
theorem ym_jl {σ0 τ0 : j_G} {sl c d : Nat} (hW : y_W b) (hv : y_vg b s g) (hlag : lag ≤ 20) (hd : y_hd σ0 τ0 sl c d n e) (hee : ∀ i, 2 * i < n → e (2 * i) < y_ho b ∧ e (2 * i + 1) < b 2) (hev : n % 2 = 0) : ∀ m i f J τ, 2 * i + 2 * m = n → m < f → y_mg τ b s g → y_jv g J s → y_mj τ J s → (∀ j, τ.1 94 j = τ0.1 94 j) → (∀ j, τ.2 96 j = τ0.2 96 j) → ∃ τ', p_X12_layBlows_44 (nI sl) (nI lag) f (nI (2 * i)) τ = some τ' ∧ y_mj τ' (y_jl b g s e lag m (2 * i) J) s ∧ y_fm 39 41 93 93 τ τ' := by
  have h2 := hW.b2
  have h4 := hW.ho
  have hs4 := hd.s4
  have hn := hd.2.1
  intro m
  induction m with
  | zero =>
    intro i f J τ hh hf hc hj hJ e1 e2
    obtain ⟨f, rfl⟩ := y_pos hf
    refine ⟨τ, ?_, hJ, y_fm.refl⟩
    unfold p_X12_layBlows_44; simp (disch := omega) only [y_lit, y_n1, nI_add, pk_mul, j_lt, j_b1_s, j_b2_s, j_b3_s, j_b0_s, y_bo, y_bo1, y_bo0, y_i0, y_i1, Classical.not_not, nI_clamp, y_ix, y_lt, y_le, y_eq, y_nP, y_nPs, y_ltP, y_ltQ, y_ltPP, y_eqP, y_eqQ, y_eqPP, if_pos, if_neg, ite_true, ite_false, not_true_eq_false, not_false_eq_true, and_true, true_and, and_false, false_and, or_true, true_or, or_false, false_or, e1, hd.2.2.2.1]
  | succ m ih =>
    intro i f J τ hh hf hc hj hJ e1 e2
    obtain ⟨f, rfl⟩ := y_pos hf
    have x1 := (hd.2.2.2.2 (2 * i) (by omega)).2.2
    have x2 := (hd.2.2.2.2 (2 * i + 1) (by omega)).2.2
    rw [← Nat.add_assoc] at x2
    have bd := hee i (by omega)
    obtain ⟨τ1, k1, k2, k3⟩ := ym_strike (h := e (2 * i)) (t := e (2 * i + 1)) hW hc hv hj hJ (by omega) (by omega) hlag
    have hc1 := hc.fr k3 (by omega) (by omega)
    obtain ⟨τ2, g1, g2, g3⟩ := ih (i + 1) f _ τ1 (by omega) (by omega) hc1 (y_j1_v hv hj) k2 (fun j => by rw [k3.i 94 j (by omega) (by omega), e1]) (fun j => by rw [k3.l 96 j (by omega) (by omega), e2])
    refine ⟨τ2, ?_, g2, k3.trans g3⟩
    unfold p_X12_layBlows_44 f_X12_numberAt; simp (disch := omega) only [y_lit, y_n1, nI_add, pk_mul, j_lt, j_b1_s, j_b2_s, j_b3_s, j_b0_s, y_bo, y_bo1, y_bo0, y_i0, y_i1, Classical.not_not, nI_clamp, y_ix, y_lt, y_le, y_eq, y_nP, y_nPs, y_ltP, y_ltQ, y_ltPP, y_eqP, y_eqQ, y_eqPP, if_pos, if_neg, ite_true, ite_false, not_true_eq_false, not_false_eq_true, and_true, true_and, and_false, false_and, or_true, true_or, or_false, false_or, e1, hd.2.2.2.1, e2, x1, x2, lN_i, k1, ← Nat.add_assoc]
    rw [show 2 * i + 2 = 2 * (i + 1) from by omega]
    exact g1
theorem yc_clr : ∀ (m i n : Nat) (σ : j_G) (x : Int32), i + m = s → s ≤ 60 → m < n → σ.1 22 0 = nI s → (∀ j, j < i → σ.1 41 j = nI 0) → ∃ σ', p_X1_judge_18 22 41 x n (nI i) σ = some σ' ∧ (∀ j, j < s → σ'.1 41 j = nI 0) ∧ y_fr 41 41 σ σ' := by
  intro m
  induction m with
  | zero =>
    intro i n σ x hh hs hn h0 hj
    obtain ⟨n, rfl⟩ := y_pos hn
    refine ⟨σ, ?_, fun j hj' => hj j (by omega), y_fr.refl⟩
    unfold p_X1_judge_18; simp (disch := omega) only [y_lit, y_n1, nI_add, pk_mul, j_lt, j_b1_s, j_b2_s, j_b3_s, j_b0_s, y_bo, y_bo1, y_bo0, y_i0, y_i1, Classical.not_not, nI_clamp, y_ix, y_lt, y_le, y_eq, y_nP, y_nPs, y_ltP, y_ltQ, y_ltPP, y_eqP, y_eqQ, y_eqPP, if_pos, if_neg, ite_true, ite_false, not_true_eq_false, not_false_eq_true, and_true, true_and, and_false, false_and, or_true, true_or, or_false, false_or, h0]
  | succ m ih =>
    intro i n σ x hh hs hn h0 hj
    obtain ⟨n, rfl⟩ := y_pos hn
    have f : y_fr 41 41 σ (j_si σ 41 i (nI 0)) := y_fr.refl.si (by omega) (by omega)
    obtain ⟨σ1, k1, k2, k3⟩ := ih (i + 1) n (j_si σ 41 i (nI 0)) x (by omega) hs (by omega) (by simp (disch := omega) only [j_r_ne, j_r_eq, j_r_nj, h0]) (fun j hj' => by
      by_cases e : j = i
      · subst e; simp (disch := omega) only [j_r_ne, j_r_eq, j_r_nj]
      · simp (disch := omega) only [j_r_ne, j_r_eq, j_r_nj]; exact hj j (by omega))
    refine ⟨σ1, ?_, k2, f.trans k3⟩
    unfold p_X1_judge_18; simp (disch := omega) only [y_lit, y_n1, nI_add, pk_mul, j_lt, j_b1_s, j_b2_s, j_b3_s, j_b0_s, y_bo, y_bo1, y_bo0, y_i0, y_i1, Classical.not_not, nI_clamp, y_ix, y_lt, y_le, y_eq, y_nP, y_nPs, y_ltP, y_ltQ, y_ltPP, y_eqP, y_eqQ, y_eqPP, if_pos, if_neg, ite_true, ite_false, not_true_eq_false, not_false_eq_true, and_true, true_and, and_false, false_and, or_true, true_or, or_false, false_or, h0]; exact k1
theorem ym_clr : ∀ (m i n : Nat) (τ : j_G) (x y : Int32), i + m = s → s ≤ 60 → m < n → τ.1 75 18 = nI s → (∀ j, j < i → τ.1 93 j = nI 0) → ∃ τ', p_X12_layBlows_21 x y n (nI i) τ = some τ' ∧ (∀ j, j < s → τ'.1 93 j = nI 0) ∧ y_fm 40 39 93 93 τ τ' := by
  intro m
  induction m with
  | zero =>
    intro i n τ x y hh hs hn h0 hj
    obtain ⟨n, rfl⟩ := y_pos hn
    refine ⟨τ, ?_, fun j hj' => hj j (by omega), y_fm.refl⟩
    unfold p_X12_layBlows_21; simp (disch := omega) only [y_lit, y_n1, nI_add, pk_mul, j_lt, j_b1_s, j_b2_s, j_b3_s, j_b0_s, y_bo, y_bo1, y_bo0, y_i0, y_i1, Classical.not_not, nI_clamp, y_ix, y_lt, y_le, y_eq, y_nP, y_nPs, y_ltP, y_ltQ, y_ltPP, y_eqP, y_eqQ, y_eqPP, if_pos, if_neg, ite_true, ite_false, not_true_eq_false, not_false_eq_true, and_true, true_and, and_false, false_and, or_true, true_or, or_false, false_or, h0]
  | succ m ih =>
    intro i n τ x y hh hs hn h0 hj
    obtain ⟨n, rfl⟩ := y_pos hn
    have f : y_fm 40 39 93 93 τ (j_si τ 93 i (nI 0)) := y_fm.refl.si (by omega) (by omega) (by omega)
    obtain ⟨σ1, k1, k2, k3⟩ := ih (i + 1) n (j_si τ 93 i (nI 0)) x y (by omega) hs (by omega) (by simp (disch := omega) only [j_r_ne, j_r_eq, j_r_nj, h0]) (fun j hj' => by
      by_cases e : j = i
      · subst e; simp (disch := omega) only [j_r_ne, j_r_eq, j_r_nj]
      · simp (disch := omega) only [j_r_ne, j_r_eq, j_r_nj]; exact hj j (by omega))
    refine ⟨σ1, ?_, k2, f.trans k3⟩
    unfold p_X12_layBlows_21; simp (disch := omega) only [y_lit, y_n1, nI_add, pk_mul, j_lt, j_b1_s, j_b2_s, j_b3_s, j_b0_s, y_bo, y_bo1, y_bo0, y_i0, y_i1, Classical.not_not, nI_clamp, y_ix, y_lt, y_le, y_eq, y_nP, y_nPs, y_ltP, y_ltQ, y_ltPP, y_eqP, y_eqQ, y_eqPP, if_pos, if_neg, ite_true, ite_false, not_true_eq_false, not_false_eq_true, and_true, true_and, and_false, false_and, or_true, true_or, or_false, false_or, h0]; exact k1
/-- the counts -/
def y_J (b g : Nat → Nat) (s : Nat) (e : Nat → Nat) (n lag : Nat) : Nat → Nat := y_jl b g s e lag (n / 2) 0 (fun _ => 0)
theorem yc_judge {σ σ0 τ0 : j_G} {sl c d : Nat} (hW : y_W b) (hc : y_cg σ b s g) (hv : y_vg b s g) (hlag : lag ≤ 20) (hd : y_hd σ0 τ0 sl c d n e) (hee : ∀ i, 2 * i < n → e (2 * i) < y_ho b ∧ e (2 * i + 1) < b 2) (hev : n % 2 = 0) (h1 : ∀ j, σ.1 c j = σ0.1 c j) (h2 : ∀ j, σ.2 d j = σ0.2 d j) : ∃ σ', f_X1_judge 40 22 41 c d (nI lag) σ = some σ' ∧ σ'.1 40 0 = nI (y_J b g s e n lag 0) ∧ σ'.1 40 1 = nI (y_J b g s e n lag 1) ∧ σ'.1 40 2 = nI (y_J b g s e n lag 2) ∧ y_fr 40 41 σ σ' := by
  have hs := hv.1
  have hn := hd.2.1
  have hcd : 41 < c ∧ 41 < d := by have := hd.1; unfold y_sc at this; omega
  unfold f_X1_judge
  simp only [j_lt, y_lit]
  have f : y_fr 40 41 σ (j_si (j_si (j_si σ 40 0 (nI 0)) 40 1 (nI 0)) 40 2 (nI 0)) := ((y_fr.refl.si (by omega) (by omega)).si (by omega) (by omega)).si (by omega) (by omega)
  obtain ⟨σ1, k1, k2, k3⟩ := yc_clr s 0 j_F (j_si (j_si (j_si σ 40 0 (nI 0)) 40 1 (nI 0)) 40 2 (nI 0)) (nI lag) (by omega) hs (y_F (by omega)) (by simp (disch := omega) only [j_r_ne, j_r_eq, j_r_nj]; exact hc.1) (fun j hj => absurd hj (by omega))
  have k3' := k3.wide (lo' := 40) (hi' := 41) (by omega) (by omega)
  have hc1 := (hc.fr f (by omega)).fr k3 (by omega)
  have cj : y_cj σ1 g (fun _ => 0) s := by
    refine ⟨?_, ?_, ?_, fun i hi => ?_⟩
    · rw [k3.i 40 0 (by omega)]; simp (disch := omega) only [j_r_ne, j_r_eq, j_r_nj]
    · rw [k3.i 40 1 (by omega)]; simp (disch := omega) only [j_r_ne, j_r_eq, j_r_nj]
    · rw [k3.i 40 2 (by omega)]; simp (disch := omega) only [j_r_ne, j_r_eq, j_r_nj]
    · rw [k2 i hi]; show nI 0 = nI (y_tk g i 0); rw [y_tk0]
  obtain ⟨σ2, g1, g2, g3⟩ := yc_jl hW hv hlag hd hee hev (n / 2) 0 j_F (fun _ => 0) σ1 (by omega) (y_F (by omega)) hc1 y_jv0 cj (fun j => by rw [k3.i c j (by omega), f.i c j (by omega), h1]) (fun j => by rw [k3.l d j (by omega), f.l d j (by omega), h2])
  rw [k1, j_b1_s]
  rw [Nat.mul_zero] at g1 g2
  rw [g1]
  exact ⟨σ2, rfl, g2.1, g2.2.1, g2.2.2.1, f.trans (k3'.trans g3)⟩
theorem ym_judge {τ σ0 : j_G} {sl c d : Nat} (hM : y_M τ b) (hW : y_W b) (hlag : lag ≤ 20) (hd : y_hd σ0 τ sl c d n e) (hee : ∀ i, 2 * i < n → e (2 * i) < y_ho b ∧ e (2 * i + 1) < b 2) (hev : n % 2 = 0) : ∃ τ', f_X12_layBlows (nI sl) (nI lag) τ = some τ' ∧ τ'.1 75 39 = nI (y_J b (y_dg b (b 8)) (y_gs b) e n lag 0) ∧ τ'.1 75 40 = nI (y_J b (y_dg b (b 8)) (y_gs b) e n lag 1) ∧ τ'.1 75 41 = nI (y_J b (y_dg b (b 8)) (y_gs b) e n lag 2) ∧ y_fm 18 42 80 93 τ τ' := by
  have hv := y_dg_vg hW (b 8)
  have hs := hv.1
  have hn := hd.2.1
  obtain ⟨τ1, e1, e2, e3⟩ := ym_laid hM hW
  unfold f_X12_layBlows
  rw [e1, j_b1_s]
  simp only [j_lt, y_lit]
  have f : y_fm 39 41 93 93 τ1 (j_si (j_si (j_si τ1 75 39 (nI 0)) 75 40 (nI 0)) 75 41 (nI 0)) := ((y_fm.refl.so (by omega) (by omega)).so (by omega) (by omega)).so (by omega) (by omega)
  obtain ⟨τ2, k1, k2, k3⟩ := ym_clr (s := y_gs b) (y_gs b) 0 j_F (j_si (j_si (j_si τ1 75 39 (nI 0)) 75 40 (nI 0)) 75 41 (nI 0)) (nI sl) (nI lag) (by omega) hs (y_F (by omega)) (by simp (disch := omega) only [j_r_ne, j_r_eq, j_r_nj]; exact e2.2.1) (fun j hj => absurd hj (by omega))
  have fk := f.trans (k3.wide (f' := 39) (g' := 41) (lo' := 93) (hi' := 93) (by omega) (by omega) (by omega) (by omega))
  have hg2 := e2.2.fr fk (by omega) (by omega)
  have cj : y_mj τ2 (fun _ => 0) (y_gs b) := by
    refine ⟨?_, ?_, ?_, fun i hi => k2 i hi⟩
    · rw [k3.1 39 (by omega)]; simp (disch := omega) only [j_r_ne, j_r_eq, j_r_nj]
    · rw [k3.1 40 (by omega)]; simp (disch := omega) only [j_r_ne, j_r_eq, j_r_nj]
    · rw [k3.1 41 (by omega)]; simp (disch := omega) only [j_r_ne, j_r_eq, j_r_nj]
  obtain ⟨τ3, g1, g2, g3⟩ := ym_jl hW hv hlag hd hee hev (n / 2) 0 j_F (fun _ => 0) τ2 (by omega) (y_F (by omega)) hg2 y_jv0 cj (fun j => by rw [fk.i 94 j (by omega) (by omega), e3.i 94 j (by omega) (by omega)]) (fun j => by rw [fk.l 96 j (by omega) (by omega), e3.l 96 j (by omega) (by omega)])
  rw [k1, j_b1_s]
  rw [Nat.mul_zero] at g1 g2
  rw [g1]
  exact ⟨τ3, rfl, g2.1, g2.2.1, g2.2.2.1, e3.trans ((fk.trans g3).wide (by omega) (by omega) (by omega) (by omega))⟩
end B
