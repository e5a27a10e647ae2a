/-! ===== nights laid out ===== -/
/-- the game with one coming more -/
def y_g1 (g : Nat → Nat) (i h : Nat) : Nat → Nat := y_u (y_u (y_u g (3 * i) (h - 1)) (3 * i + 1) 0) (3 * i + 2) 0
theorem y_ng_s {b : Nat → Nat} {l m i x one two : Nat} {g : Nat → Nat} : y_ng b l (m + 1) i x one two g = if y_last b i < b 2 then (if y_cn b l one two = 0 then (i, g) else y_ng b l m (i + 1) (y_nx x) (y_nh b l one two x) one (y_g1 g i (y_nh b l one two x))) else (i, g) := rfl
theorem y_g1_o {g : Nat → Nat} {i h j : Nat} (hj : j < 3 * i) : y_g1 g i h j = g j := by
  unfold y_g1; rw [y_un (by omega), y_un (by omega), y_un (by omega)]
theorem y_g10 {g : Nat → Nat} {i h : Nat} : y_g1 g i h (3 * i) = h - 1 := by
  unfold y_g1; rw [y_un (by omega), y_un (by omega), y_ue]
theorem y_g11 {g : Nat → Nat} {i h : Nat} : y_g1 g i h (3 * i + 1) = 0 := by
  unfold y_g1; rw [y_un (by omega), y_ue]
theorem y_g12 {g : Nat → Nat} {i h : Nat} : y_g1 g i h (3 * i + 2) = 0 := by
  unfold y_g1; rw [y_ue]
theorem y_ng_vg {b : Nat → Nat} {l : Nat} (hW : y_W b) : ∀ m i x one two g, i + m = 60 → y_vg b i g → y_vg b (y_ng b l m i x one two g).1 (y_ng b l m i x one two g).2 := by
  intro m
  induction m with
  | zero => intro i x one two g _ h; exact h
  | succ m ih =>
    intro i x one two g h hv
    rw [y_ng_s]
    by_cases c : y_last b i < b 2
    · rw [if_pos c]
      by_cases d : y_cn b l one two = 0
      · rw [if_pos d]; exact hv
      · rw [if_neg d]
        have nb := y_nh_bd (x := x) d
        refine ih _ _ _ _ _ (by omega) ⟨by omega, fun j hj => ?_⟩
        by_cases e : j = i
        · subst e
          rw [y_g10, y_g11, y_g12]
          exact ⟨by omega, by omega, by omega, by omega, fun z => absurd z (by omega), c⟩
        · rw [y_g1_o (by omega), y_g1_o (by omega), y_g1_o (by omega)]
          exact hv.2 j (by omega)
    · rw [if_neg c]; exact hv
theorem y_nig_vg {b : Nat → Nat} (hW : y_W b) (l x : Nat) : y_vg b (y_nig b l x).1 (y_nig b l x).2 := y_ng_vg hW 60 0 x 0 0 _ (by omega) ⟨by omega, fun i hi => absurd hi (by omega)⟩
theorem yc_draw_l {b : Nat → Nat} {l : Nat} (hW : y_W b) (h9 : 0 < b 9) (hl : l < 4) : ∀ m i n x one two g σ, i + m = 60 → m < n → x < 2147483648 → one ≤ 12 → two ≤ 12 → (one = 0 → two = 0) → y_N σ b → (i = 0 ∨ y_last b (i - 1) < b 2) → y_ci σ b i g → ∃ σ', p_X4_draw_17 (nI l) n (lN x) (nP two) (nP one) (nI i) σ = some σ' ∧ y_cg σ' b (y_ng b l m i x one two g).1 (y_ng b l m i x one two g).2 ∧ y_fr 22 27 σ σ' := by
  have h4 := hW.ho
  intro m
  induction m with
  | zero =>
    intro i n x one two g σ h hn hx h1 h2 hz hN hf hc
    obtain ⟨n, rfl⟩ := y_pos hn
    refine ⟨σ, ?_, hc.1, y_fr.refl⟩
    unfold p_X4_draw_17; simp (disch := omega) only [y_lit, y_n1, nI_add, pk_mul, j_lt, j_b1_s, j_b2_s, j_b3_s, j_b0_s, y_bo, y_bo1, y_bo0, y_i0, y_i1, Classical.not_not, nI_clamp, y_ix, y_lt, y_le, y_eq, y_nP, y_nPs, y_ltP, y_ltQ, y_ltPP, y_eqP, y_eqQ, y_eqPP, if_pos, if_neg, ite_true, ite_false, not_true_eq_false, not_false_eq_true, and_true, true_and, and_false, false_and, or_true, true_or, or_false, false_or]
  | succ m ih =>
    intro i n x one two g σ h hn hx h1 h2 hz hN hf hc
    obtain ⟨n, rfl⟩ := y_pos hn
    have ff := y_from_bd hW hf
    have cl := y_cn_le hW l one two
    have cnt := fun x6 => yc_count (l := l) (one := one) (two := two) (x6 := x6) (x4 := lN x) hN hW h9 hl h1 h2 hz rfl rfl
    have hlt : nI i < nI 60 := (y_lt (by omega) (by omega)).mpr (by omega)
    rw [y_ng_s]
    by_cases c : y_last b i < b 2
    · rw [if_pos c]
      have hroom := yc_room hN hW (show i ≤ 60 by omega) ff hc
      rw [if_pos ⟨by omega, c⟩] at hroom
      by_cases d : y_cn b l one two = 0
      · rw [if_pos d]
        refine ⟨σ, ?_, hc.1, y_fr.refl⟩
        rw [p_X4_draw_17, show (60 : Int32) = nI 60 from rfl, if_pos hlt, hroom, j_b1_s, show (0 : Int32) = nI 0 from rfl, if_pos (show ¬ nI 1 = nI 0 from by decide), cnt, j_b1_s, d, if_pos rfl]
      · rw [if_neg d]
        have nb := y_nh_bd (x := x) d
        obtain ⟨r1, r2⟩ := y_rnd (x := x) (n := y_cn b l one two) hx (by omega) (by omega)
        have nth := yc_nth (l := l) (one := one) (two := two) hN hW h9 hl h1 h2 hz rfl rfl (z := y_nx x / 65536 % y_cn b l one two) (by have := Nat.mod_lt (y_nx x / 65536) (show 0 < y_cn b l one two by omega); omega)
        have hc2 : y_ci σ b i (y_g1 g i (y_nh b l one two x)) := ⟨hc.1.congr (fun j hj => y_g1_o hj), hc.2⟩
        have en : nP (y_nh b l one two x) = nI (y_nh b l one two x - 1) := by
          obtain ⟨w, hw⟩ : ∃ w, y_nh b l one two x = w + 1 := ⟨y_nh b l one two x - 1, by omega⟩
          rw [hw, y_nPs]; rfl
        obtain ⟨σ1, a1, a2, a3⟩ := yc_add (x := nP (y_nh b l one two x)) (y := nP 0) (z := nI 0) hN hW (by omega) ff hc2 (by rw [y_g10, en]) (by rw [y_g11]) (by rw [y_g12])
        obtain ⟨σ2, g1, g2, g3⟩ := ih (i + 1) n (y_nx x) (y_nh b l one two x) one (y_g1 g i (y_nh b l one two x)) σ1 (by omega) (by omega) (y_nx_lt x) (by omega) h1 (fun z => by omega) (hN.fr a3 (by omega)) (Or.inr c) a2
        refine ⟨σ2, ?_, g2, a3.trans g3⟩
        have n1 : ¬ (2147483648 : Int64) = 0 := by decide
        have n2 : ¬ (65536 : Int64) = 0 := by decide
        have n3 : ¬ (nI (y_cn b l one two)).toInt64 = 0 := by
          rw [nI_l (by omega)]
          intro z
          have := (pk_lEQ (a := y_cn b l one two) (b := 0) (by omega) (by omega)).mp z
          omega
        have n4 : ¬ nI (y_cn b l one two) = nI 0 := by rw [y_eq (by omega) (by omega)]; exact d
        rw [p_X4_draw_17, show (60 : Int32) = nI 60 from rfl, if_pos hlt, hroom, j_b1_s, show (0 : Int32) = nI 0 from rfl, if_pos (show ¬ nI 1 = nI 0 from by decide), cnt, j_b1_s, if_neg n4, if_neg n1]
        simp only [j_lt]
        rw [if_neg n2, if_neg n3, r1, r2, nth, j_b1_s, y_m1]
        show j_b1 (f_X4_add (nP (y_nh b l one two x)) (nP 0) (nI 0) σ) _ = _
        rw [a1, j_b1_s, show (1 : Int32) = nI 1 from rfl, nI_add]
        exact g1
    · rw [if_neg c]
      refine ⟨σ, ?_, hc.1, y_fr.refl⟩
      have hroom := yc_room hN hW (show i ≤ 60 by omega) ff hc
      rw [if_neg (fun z => c z.2)] at hroom
      unfold p_X4_draw_17; simp (disch := omega) only [y_lit, y_n1, nI_add, pk_mul, j_lt, j_b1_s, j_b2_s, j_b3_s, j_b0_s, y_bo, y_bo1, y_bo0, y_i0, y_i1, Classical.not_not, nI_clamp, y_ix, y_lt, y_le, y_eq, y_nP, y_nPs, y_ltP, y_ltQ, y_ltPP, y_eqP, y_eqQ, y_eqPP, if_pos, if_neg, ite_true, ite_false, not_true_eq_false, not_false_eq_true, and_true, true_and, and_false, false_and, or_true, true_or, or_false, false_or, hroom]
theorem yc_draw {σ : j_G} {b : Nat → Nat} {l x : Nat} (hN : y_N σ b) (hW : y_W b) (h9 : 0 < b 9) (hl : l < 4) (hx : x < 2147483648) : ∃ σ', f_X4_draw (nI x) (nI l) σ = some σ' ∧ y_cg σ' b (y_nig b l x).1 (y_nig b l x).2 ∧ y_fr 22 27 σ σ' := by
  unfold f_X4_draw f_X4_begin
  simp only [j_lt, j_b1_s, y_lit, y_n1]
  rw [nI_l (by omega)]
  have f : y_fr 22 27 σ (j_si (j_si σ 22 0 (nI 0)) 22 6 (nI 0)) := (y_fr.refl.si (by omega) (by omega)).si (by omega) (by omega)
  have hN1 := hN.fr f (by omega)
  have hc : y_ci (j_si (j_si σ 22 0 (nI 0)) 22 6 (nI 0)) b 0 (fun _ => 0) := ⟨⟨by simp (disch := omega) only [j_r_ne, j_r_eq, j_r_nj], fun i hi => absurd hi (by omega)⟩, j_r_eq⟩
  obtain ⟨σ2, g1, g2, g3⟩ := yc_draw_l hW h9 hl 60 0 j_F x 0 0 _ _ (by omega) (y_F (by omega)) hx (by omega) (by omega) (fun _ => rfl) hN1 (Or.inl rfl) hc
  exact ⟨σ2, g1, g2, f.trans g3⟩
theorem ym_night_l {b : Nat → Nat} {l : Nat} (hW : y_W b) (h9 : 0 < b 9) (hl : l < 4) : ∀ m i n x one two g τ, i + m = 60 → m < n → x < 2147483648 → one = (if i = 0 then 0 else g (3 * (i - 1)) + 1) → two = (if i < 2 then 0 else g (3 * (i - 2)) + 1) → one ≤ 12 → two ≤ 12 → y_M τ b → (i = 0 ∨ y_last b (i - 1) < b 2) → y_mg τ b i g → τ.2 75 42 = lN x → ∃ τ', p_X12_layNight_10 (nI l) n τ = some τ' ∧ y_mg τ' b (y_ng b l m i x one two g).1 (y_ng b l m i x one two g).2 ∧ y_fm 18 18 82 84 τ τ' := by
  have h4 := hW.ho
  have hb2 := (hW.on h9).2.2.1
  intro m
  induction m with
  | zero =>
    intro i n x one two g τ h hn hx e1 e2 h1 h2 hM hf hc hxx
    obtain ⟨n, rfl⟩ := y_pos hn
    have ff := y_from_bd hW hf
    refine ⟨τ, ?_, hc, y_fm.refl⟩
    have hroom := ym_may hM hW (show i ≤ 60 by omega) ff hb2 hc
    rw [if_neg (fun z => by omega)] at hroom
    unfold p_X12_layNight_10; simp (disch := omega) only [y_lit, y_n1, nI_add, pk_mul, j_lt, j_b1_s, j_b2_s, j_b3_s, j_b0_s, y_bo, y_bo1, y_bo0, y_i0, y_i1, Classical.not_not, nI_clamp, y_ix, y_lt, y_le, y_eq, y_nP, y_nPs, y_ltP, y_ltQ, y_ltPP, y_eqP, y_eqQ, y_eqPP, if_pos, if_neg, ite_true, ite_false, not_true_eq_false, not_false_eq_true, and_true, true_and, and_false, false_and, or_true, true_or, or_false, false_or, hroom]
  | succ m ih =>
    intro i n x one two g τ h hn hx e1 e2 h1 h2 hM hf hc hxx
    obtain ⟨n, rfl⟩ := y_pos hn
    have ff := y_from_bd hW hf
    have cl := y_cn_le hW l one two
    have hroom := ym_may hM hW (show i ≤ 60 by omega) ff hb2 hc
    rw [y_ng_s]
    by_cases c : y_last b i < b 2
    · rw [if_pos c]
      rw [if_pos ⟨by omega, c⟩] at hroom
      have v1 : (if (τ.1 75 18) < (1 : Int32) then (some (-1 : Int32)) else (j_b1 (f_X12_inGame ((τ.1 75 18) - (1 : Int32)) (0 : Int32) τ) fun v2 => some v2)) = some (nP one) := by
        rw [hc.1, e1]
        by_cases z : i = 0
        · simp (disch := omega) only [y_lit, y_n1, nI_add, pk_mul, j_lt, j_b1_s, j_b2_s, j_b3_s, j_b0_s, y_bo, y_bo1, y_bo0, y_i0, y_i1, Classical.not_not, nI_clamp, y_ix, y_lt, y_le, y_eq, y_nP, y_nPs, y_ltP, y_ltQ, y_ltPP, y_eqP, y_eqQ, y_eqPP, if_pos, if_neg, ite_true, ite_false, not_true_eq_false, not_false_eq_true, and_true, true_and, and_false, false_and, or_true, true_or, or_false, false_or, z]
        · have q := (hc.2 (i - 1) (by omega)).1
          unfold f_X12_inGame
          simp (disch := omega) only [y_lit, y_n1, nI_add, pk_mul, j_lt, j_b1_s, j_b2_s, j_b3_s, j_b0_s, y_bo, y_bo1, y_bo0, y_i0, y_i1, Classical.not_not, nI_clamp, y_ix, y_lt, y_le, y_eq, y_nP, y_nPs, y_ltP, y_ltQ, y_ltPP, y_eqP, y_eqQ, y_eqPP, if_pos, if_neg, ite_true, ite_false, not_true_eq_false, not_false_eq_true, and_true, true_and, and_false, false_and, or_true, true_or, or_false, false_or, pk_sub, Nat.add_zero, q]
      have v3 : (if (τ.1 75 18) < (2 : Int32) then (some (-1 : Int32)) else (j_b1 (f_X12_inGame ((τ.1 75 18) - (2 : Int32)) (0 : Int32) τ) fun v4 => some v4)) = some (nP two) := by
        rw [hc.1, e2]
        by_cases z : i < 2
        · simp (disch := omega) only [y_lit, y_n1, nI_add, pk_mul, j_lt, j_b1_s, j_b2_s, j_b3_s, j_b0_s, y_bo, y_bo1, y_bo0, y_i0, y_i1, Classical.not_not, nI_clamp, y_ix, y_lt, y_le, y_eq, y_nP, y_nPs, y_ltP, y_ltQ, y_ltPP, y_eqP, y_eqQ, y_eqPP, if_pos, if_neg, ite_true, ite_false, not_true_eq_false, not_false_eq_true, and_true, true_and, and_false, false_and, or_true, true_or, or_false, false_or]
        · have q := (hc.2 (i - 2) (by omega)).1
          unfold f_X12_inGame
          simp (disch := omega) only [y_lit, y_n1, nI_add, pk_mul, j_lt, j_b1_s, j_b2_s, j_b3_s, j_b0_s, y_bo, y_bo1, y_bo0, y_i0, y_i1, Classical.not_not, nI_clamp, y_ix, y_lt, y_le, y_eq, y_nP, y_nPs, y_ltP, y_ltQ, y_ltPP, y_eqP, y_eqQ, y_eqPP, if_pos, if_neg, ite_true, ite_false, not_true_eq_false, not_false_eq_true, and_true, true_and, and_false, false_and, or_true, true_or, or_false, false_or, pk_sub, Nat.add_zero, q]
      have cnt := ym_count (l := l) (one := one) (two := two) hM hW h9 hl h1 h2 rfl rfl
      by_cases d : y_cn b l one two = 0
      · rw [if_pos d]
        refine ⟨τ, ?_, hc, y_fm.refl⟩
        have hh : f_X12_holeByLot (nI l) τ = some (nP 0, τ) := by
          unfold f_X12_holeByLot
          rw [v1, j_b1_s, v3, j_b1_s, show (0 : Int32) = nI 0 from rfl, cnt, j_b1_s, d, if_pos rfl]; rfl
        rw [p_X12_layNight_10, hroom, j_b1_s, show (0 : Int32) = nI 0 from rfl, if_pos (show ¬ nI 1 = nI 0 from by decide), hh, j_b2_s, y_m1, if_pos rfl]
      · rw [if_neg d]
        have nb := y_nh_bd (x := x) d
        obtain ⟨r1, r2⟩ := y_rnd (x := x) (n := y_cn b l one two) hx (by omega) (by omega)
        have f1 : y_fm 18 18 82 84 τ (j_sl τ 75 42 (lN (y_nx x))) := y_fm.refl.slo
        have hM1 := hM.fr f1 (by omega)
        have hg1 : y_mg (j_sl τ 75 42 (lN (y_nx x))) b i g := hc
        have n1 : ¬ (2147483648 : Int64) = 0 := by decide
        have n2 : ¬ (65536 : Int64) = 0 := by decide
        have n3 : ¬ (nI (y_cn b l one two)).toInt64 = 0 := by
          rw [nI_l (by omega)]
          intro z
          have := (pk_lEQ (a := y_cn b l one two) (b := 0) (by omega) (by omega)).mp z
          omega
        have n4 : ¬ nI (y_cn b l one two) = nI 0 := by rw [y_eq (by omega) (by omega)]; exact d
        have dr : f_X12_draw (nI (y_cn b l one two)) τ = some (nI (y_nx x / 65536 % y_cn b l one two), j_sl τ 75 42 (lN (y_nx x))) := by
          unfold f_X12_draw
          rw [if_neg n1]
          simp only [j_lt]
          rw [if_neg n2, if_neg n3, hxx, r1, j_l_eq, r2]
        have nth := ym_nth (l := l) (one := one) (two := two) hM1 hW h9 hl h1 h2 rfl rfl (z := y_nx x / 65536 % y_cn b l one two) (by have := Nat.mod_lt (y_nx x / 65536) (show 0 < y_cn b l one two by omega); omega)
        have hh : f_X12_holeByLot (nI l) τ = some (nP (y_nh b l one two x), j_sl τ 75 42 (lN (y_nx x))) := by
          unfold f_X12_holeByLot
          rw [v1, j_b1_s, v3, j_b1_s, show (0 : Int32) = nI 0 from rfl, cnt, j_b1_s, if_neg n4, dr, j_b2_s]
          exact nth
        have hc2 : y_mg (j_sl τ 75 42 (lN (y_nx x))) b i (y_g1 g i (y_nh b l one two x)) := hg1.congr (fun j hj => y_g1_o hj)
        have en : nP (y_nh b l one two x) = nI (y_nh b l one two x - 1) := by
          obtain ⟨w, hw⟩ : ∃ w, y_nh b l one two x = w + 1 := ⟨y_nh b l one two x - 1, by omega⟩
          rw [hw, y_nPs]; rfl
        obtain ⟨τ1, a1, a2, a3, a5⟩ := ym_come (x := nP (y_nh b l one two x)) (y := nP 0) (z := nI 0) hM1 hW (by omega) ff hc2 (by rw [y_g10, en]) (by rw [y_g11]) (by rw [y_g12])
        have a4 : τ1.2 75 42 = lN (y_nx x) := by rw [a5, j_l_eq]
        obtain ⟨τ2, g1, g2, g3⟩ := ih (i + 1) n (y_nx x) (y_nh b l one two x) one (y_g1 g i (y_nh b l one two x)) τ1 (by omega) (by omega) (y_nx_lt x) (by rw [if_neg (Nat.succ_ne_zero i), Nat.add_sub_cancel, y_g10]; omega) (by
          rw [e1]
          by_cases z : i = 0
          · rw [if_pos z, if_pos (by omega)]
          · rw [if_neg z, if_neg (by omega), show i + 1 - 2 = i - 1 from by omega, y_g1_o (by omega)]) (by omega) h1 (hM1.fr a3 (by omega)) (Or.inr c) a2 a4
        refine ⟨τ2, ?_, g2, f1.trans (a3.trans g3)⟩
        have n5 : ¬ nP (y_nh b l one two x) = nP 0 := by rw [y_eqPP (by omega) (by omega)]; omega
        rw [p_X12_layNight_10, hroom, j_b1_s, show (0 : Int32) = nI 0 from rfl, if_pos (show ¬ nI 1 = nI 0 from by decide), hh, j_b2_s, y_m1, if_neg n5, a1, j_b1_s]
        exact g1
    · rw [if_neg c]
      refine ⟨τ, ?_, hc, y_fm.refl⟩
      rw [if_neg (fun z => c z.2)] at hroom
      unfold p_X12_layNight_10; simp (disch := omega) only [y_lit, y_n1, nI_add, pk_mul, j_lt, j_b1_s, j_b2_s, j_b3_s, j_b0_s, y_bo, y_bo1, y_bo0, y_i0, y_i1, Classical.not_not, nI_clamp, y_ix, y_lt, y_le, y_eq, y_nP, y_nPs, y_ltP, y_ltQ, y_ltPP, y_eqP, y_eqQ, y_eqPP, if_pos, if_neg, ite_true, ite_false, not_true_eq_false, not_false_eq_true, and_true, true_and, and_false, false_and, or_true, true_or, or_false, false_or, hroom]
theorem ym_night {τ : j_G} {b : Nat → Nat} {l x : Nat} (hM : y_M τ b) (hW : y_W b) (h9 : 0 < b 9) (hl : l < 4) (hx : x < 2147483648) : ∃ τ', f_X12_layNight (lN x) (nI l) τ = some τ' ∧ y_mg τ' b (y_nig b l x).1 (y_nig b l x).2 ∧ y_fm 18 18 82 84 τ τ' := by
  unfold f_X12_layNight
  simp only [j_lt, y_lit]
  have f : y_fm 18 18 82 84 τ (j_si (j_sl τ 75 42 (lN x)) 75 18 (nI 0)) := y_fm.refl.slo.so (by omega) (by omega)
  have hM1 := hM.fr f (by omega)
  have hc : y_mg (j_si (j_sl τ 75 42 (lN x)) 75 18 (nI 0)) b 0 (fun _ => 0) := ⟨by simp (disch := omega) only [j_r_ne, j_r_eq, j_r_nj], fun i hi => absurd hi (by omega)⟩
  obtain ⟨σ2, g1, g2, g3⟩ := ym_night_l hW h9 hl 60 0 j_F x 0 0 _ _ (by omega) (y_F (by omega)) hx (by rw [if_pos rfl]) (by rw [if_pos (by omega)]) (by omega) (by omega) hM1 (Or.inl rfl) hc (by rw [j_r_2, j_l_eq])
  exact ⟨σ2, g1, g2, f.trans g3⟩
