/-! ===== missed, rash, look, line, tickets, prize ===== -/
theorem y_pop2 : ∀ h, h < 12 → ∀ o, o < 13 → o ≠ h + 1 → y_pop 12 (2 ^ h ||| (if o = 0 then 0 else 2 ^ (o - 1))) = if o = 0 then 1 else 2 := by decide
theorem y_m0 (x : Int32) : x - 1 = (nI 0 - 1) + x := by
  apply Int32.toBitVec_inj.mp
  show x.toBitVec - 1#32 = ((nI 0).toBitVec - 1#32) + x.toBitVec
  rw [show (nI 0).toBitVec = 0#32 from rfl, BitVec.zero_sub, BitVec.add_comm, BitVec.sub_eq_add_neg]
def y_ms (g R : Nat → Nat) : Nat → Nat → Nat
  | 0, _ => 0
  | m + 1, i => if g (3 * i + 2) = 0 ∧ R (1001 + 2 * i) < (if g (3 * i + 1) = 0 then 1 else 2) then i + 1 else y_ms g R m (i + 1)
section Z
variable {σ τ : j_G}
theorem z_missed (hR : j_Rel σ τ) (a1 : Int32) : ∃ v σ1 τ1, f_X11_missed a1 σ = some (v, σ1) ∧ f_X12_missed a1 τ = some (v, τ1) ∧ j_Rel σ1 τ1 := by
  obtain ⟨b, hW, hN, hM, hK⟩ := id hR
  have h4 := hW.ho
  by_cases h : y_rg a1 (b 6)
  · obtain ⟨p, hp, rfl⟩ := y_of _ _ h.1 h.2
    have hv := y_dg_vg hW (b 8)
    obtain ⟨σ1, e1, e2, e3, e4⟩ := yc_runOf hN hW hp
    obtain ⟨τ1, f1, f2, f3, f4, f5⟩ := ym_ras hM hW hp
    have hr := y_done hR e4 f5
    have br : y_br b (y_own b p) 120 := y_run_br hW hv (y_pqv hW hp)
    have hs := hv.1
    obtain ⟨_, hc, _⟩ := id e2
    obtain ⟨_, hg⟩ := id f2
    generalize y_own b p = R at *
    generalize y_gs b = s at *
    generalize y_dg b (b 8) = g at *
    have kc : ∀ m i n, i + m = s → m < n → p_X9_firstMissed_2 σ1 n (nI i) = some (nP (y_ms g R m i)) := by
      intro m
      induction m with
      | zero =>
        intro i n h hn
        obtain ⟨n, rfl⟩ := y_pos hn
        unfold p_X9_firstMissed_2 y_ms; simp (disch := omega) only [y_lit, y_n1, nI_add, pk_mul, j_lt, j_b1_s, j_b2_s, j_b3_s, j_b0_s, y_bo, y_bo1, y_bo0, y_i0, y_i1, Classical.not_not, nI_clamp, y_ix, y_lt, y_le, y_eq, y_nP, y_nPs, y_ltP, y_ltQ, y_ltPP, y_eqP, y_eqQ, y_eqPP, if_pos, if_neg, ite_true, ite_false, not_true_eq_false, not_false_eq_true, and_true, true_and, and_false, false_and, or_true, true_or, or_false, false_or, hc.1]
      | succ m ih =>
        intro i n h hn
        obtain ⟨n, rfl⟩ := y_pos hn
        have ci := hc.2 i (by omega)
        have vi := hv.2 i (by omega)
        have ri := (e3.2.2 i (by omega)).2
        have bi := br.2.2.2.2.2.2.2 i
        have hb := y_hb_lt hW hv (show i < s by omega)
        have pp := y_pop2 (g (3 * i)) (by omega) (g (3 * i + 1)) (by omega) vi.2.2.1
        rw [show (2 ^ g (3 * i) ||| (if g (3 * i + 1) = 0 then 0 else 2 ^ (g (3 * i + 1) - 1))) = y_hb g i from rfl] at pp
        have p3 : y_pop 12 (y_hb g i) < 3 := by rw [pp]; split <;> omega
        unfold p_X9_firstMissed_2 y_ms; simp (disch := omega) only [y_lit, y_n1, nI_add, pk_mul, j_lt, j_b1_s, j_b2_s, j_b3_s, j_b0_s, y_bo, y_bo1, y_bo0, y_i0, y_i1, Classical.not_not, nI_clamp, y_ix, y_lt, y_le, y_eq, y_nP, y_nPs, y_ltP, y_ltQ, y_ltPP, y_eqP, y_eqQ, y_eqPP, if_pos, if_neg, ite_true, ite_false, not_true_eq_false, not_false_eq_true, and_true, true_and, and_false, false_and, or_true, true_or, or_false, false_or, hc.1, ci]
        rw [ih (i + 1) n (by omega) (by omega)]
        by_cases c : g (3 * i + 2) = 0
        · simp (disch := omega) only [y_lit, y_n1, nI_add, pk_mul, j_lt, j_b1_s, j_b2_s, j_b3_s, j_b0_s, y_bo, y_bo1, y_bo0, y_i0, y_i1, Classical.not_not, nI_clamp, y_ix, y_lt, y_le, y_eq, y_nP, y_nPs, y_ltP, y_ltQ, y_ltPP, y_eqP, y_eqQ, y_eqPP, if_pos, if_neg, ite_true, ite_false, not_true_eq_false, not_false_eq_true, and_true, true_and, and_false, false_and, or_true, true_or, or_false, false_or, yc_holesOf hc hv hW, y_bcn, ri]
          rw [pp]
          by_cases c2 : R (1001 + 2 * i) < (if g (3 * i + 1) = 0 then 1 else 2)
          · rw [if_pos c2, if_pos ⟨c, c2⟩, y_nPs]
          · rw [if_neg c2, if_neg (fun z => c2 z.2)]
        · rw [if_neg (fun z : g (3 * i + 2) = 0 ∧ _ => c z.1)]; simp (disch := omega) only [y_lit, y_n1, nI_add, pk_mul, j_lt, j_b1_s, j_b2_s, j_b3_s, j_b0_s, y_bo, y_bo1, y_bo0, y_i0, y_i1, Classical.not_not, nI_clamp, y_ix, y_lt, y_le, y_eq, y_nP, y_nPs, y_ltP, y_ltQ, y_ltPP, y_eqP, y_eqQ, y_eqPP, if_pos, if_neg, ite_true, ite_false, not_true_eq_false, not_false_eq_true, and_true, true_and, and_false, false_and, or_true, true_or, or_false, false_or]
    have km : ∀ m i n, i + m = s → m < n → p_X12_missed_18 τ1 n (nI i) = some (nP (y_ms g R m i), τ1) := by
      intro m
      induction m with
      | zero =>
        intro i n h hn
        obtain ⟨n, rfl⟩ := y_pos hn
        unfold p_X12_missed_18 y_ms; simp (disch := omega) only [y_lit, y_n1, nI_add, pk_mul, j_lt, j_b1_s, j_b2_s, j_b3_s, j_b0_s, y_bo, y_bo1, y_bo0, y_i0, y_i1, Classical.not_not, nI_clamp, y_ix, y_lt, y_le, y_eq, y_nP, y_nPs, y_ltP, y_ltQ, y_ltPP, y_eqP, y_eqQ, y_eqPP, if_pos, if_neg, ite_true, ite_false, not_true_eq_false, not_false_eq_true, and_true, true_and, and_false, false_and, or_true, true_or, or_false, false_or, hg.1]
      | succ m ih =>
        intro i n h hn
        obtain ⟨n, rfl⟩ := y_pos hn
        have gi := hg.2 i (by omega)
        have vi := hv.2 i (by omega)
        have ri := (f3.2.2 i (by omega)).2
        have bi := br.2.2.2.2.2.2.2 i
        unfold p_X12_missed_18 y_ms f_X12_inGame; simp (disch := omega) only [y_lit, y_n1, nI_add, pk_mul, j_lt, j_b1_s, j_b2_s, j_b3_s, j_b0_s, y_bo, y_bo1, y_bo0, y_i0, y_i1, Classical.not_not, nI_clamp, y_ix, y_lt, y_le, y_eq, y_nP, y_nPs, y_ltP, y_ltQ, y_ltPP, y_eqP, y_eqQ, y_eqPP, if_pos, if_neg, ite_true, ite_false, not_true_eq_false, not_false_eq_true, and_true, true_and, and_false, false_and, or_true, true_or, or_false, false_or, hg.1, gi]
        rw [ih (i + 1) n (by omega) (by omega)]
        by_cases c : g (3 * i + 2) = 0
        · simp (disch := omega) only [y_lit, y_n1, nI_add, pk_mul, j_lt, j_b1_s, j_b2_s, j_b3_s, j_b0_s, y_bo, y_bo1, y_bo0, y_i0, y_i1, Classical.not_not, nI_clamp, y_ix, y_lt, y_le, y_eq, y_nP, y_nPs, y_ltP, y_ltQ, y_ltPP, y_eqP, y_eqQ, y_eqPP, if_pos, if_neg, ite_true, ite_false, not_true_eq_false, not_false_eq_true, and_true, true_and, and_false, false_and, or_true, true_or, or_false, false_or, ri]
          by_cases c0 : g (3 * i + 1) = 0
          · simp (disch := omega) only [y_lit, y_n1, nI_add, pk_mul, j_lt, j_b1_s, j_b2_s, j_b3_s, j_b0_s, y_bo, y_bo1, y_bo0, y_i0, y_i1, Classical.not_not, nI_clamp, y_ix, y_lt, y_le, y_eq, y_nP, y_nPs, y_ltP, y_ltQ, y_ltPP, y_eqP, y_eqQ, y_eqPP, if_pos, if_neg, ite_true, ite_false, not_true_eq_false, not_false_eq_true, and_true, true_and, and_false, false_and, or_true, true_or, or_false, false_or]
            by_cases c2 : R (1001 + 2 * i) < 1
            · rw [if_pos c2, if_pos ⟨c, c2⟩, y_nPs]
            · rw [if_neg c2, if_neg (fun z => c2 z.2)]
          · simp (disch := omega) only [y_lit, y_n1, nI_add, pk_mul, j_lt, j_b1_s, j_b2_s, j_b3_s, j_b0_s, y_bo, y_bo1, y_bo0, y_i0, y_i1, Classical.not_not, nI_clamp, y_ix, y_lt, y_le, y_eq, y_nP, y_nPs, y_ltP, y_ltQ, y_ltPP, y_eqP, y_eqQ, y_eqPP, if_pos, if_neg, ite_true, ite_false, not_true_eq_false, not_false_eq_true, and_true, true_and, and_false, false_and, or_true, true_or, or_false, false_or]
            by_cases c2 : R (1001 + 2 * i) < 2
            · rw [if_pos c2, if_pos ⟨c, c2⟩, y_nPs]
            · rw [if_neg c2, if_neg (fun z => c2 z.2)]
        · rw [if_neg (fun z : g (3 * i + 2) = 0 ∧ _ => c z.1)]; simp (disch := omega) only [y_lit, y_n1, nI_add, pk_mul, j_lt, j_b1_s, j_b2_s, j_b3_s, j_b0_s, y_bo, y_bo1, y_bo0, y_i0, y_i1, Classical.not_not, nI_clamp, y_ix, y_lt, y_le, y_eq, y_nP, y_nPs, y_ltP, y_ltQ, y_ltPP, y_eqP, y_eqQ, y_eqPP, if_pos, if_neg, ite_true, ite_false, not_true_eq_false, not_false_eq_true, and_true, true_and, and_false, false_and, or_true, true_or, or_false, false_or]
    refine ⟨nP (y_ms g R s 0), σ1, τ1, ?_, ?_, hr⟩
    · have k := kc s 0 j_F (by omega) (y_F (by omega))
      unfold f_X11_missed f_X9_firstMissed; simp (disch := omega) only [y_lit, y_n1, nI_add, pk_mul, j_lt, j_b1_s, j_b2_s, j_b3_s, j_b0_s, y_bo, y_bo1, y_bo0, y_i0, y_i1, Classical.not_not, nI_clamp, y_ix, y_lt, y_le, y_eq, y_nP, y_nPs, y_ltP, y_ltQ, y_ltPP, y_eqP, y_eqQ, y_eqPP, if_pos, if_neg, ite_true, ite_false, not_true_eq_false, not_false_eq_true, and_true, true_and, and_false, false_and, or_true, true_or, or_false, false_or, e1, k]
    · have k := km s 0 j_F (by omega) (y_F (by omega))
      unfold f_X12_missed; simp (disch := omega) only [y_lit, y_n1, nI_add, pk_mul, j_lt, j_b1_s, j_b2_s, j_b3_s, j_b0_s, y_bo, y_bo1, y_bo0, y_i0, y_i1, Classical.not_not, nI_clamp, y_ix, y_lt, y_le, y_eq, y_nP, y_nPs, y_ltP, y_ltQ, y_ltPP, y_eqP, y_eqQ, y_eqPP, if_pos, if_neg, ite_true, ite_false, not_true_eq_false, not_false_eq_true, and_true, true_and, and_false, false_and, or_true, true_or, or_false, false_or, ym_isPlayer hM hW, if_pos h, f1, k]
  · refine ⟨-2, σ, τ, ?_, ?_, hR⟩
    · unfold f_X11_missed; rw [yc_unrun hN hW h]; simp (disch := omega) only [y_lit, y_n1, nI_add, pk_mul, j_lt, j_b1_s, j_b2_s, j_b3_s, j_b0_s, y_bo, y_bo1, y_bo0, y_i0, y_i1, Classical.not_not, nI_clamp, y_ix, y_lt, y_le, y_eq, y_nP, y_nPs, y_ltP, y_ltQ, y_ltPP, y_eqP, y_eqQ, y_eqPP, if_pos, if_neg, ite_true, ite_false, not_true_eq_false, not_false_eq_true, and_true, true_and, and_false, false_and, or_true, true_or, or_false, false_or]
    · unfold f_X12_missed; rw [ym_isPlayer hM hW, if_neg h]; simp (disch := omega) only [y_lit, y_n1, nI_add, pk_mul, j_lt, j_b1_s, j_b2_s, j_b3_s, j_b0_s, y_bo, y_bo1, y_bo0, y_i0, y_i1, Classical.not_not, nI_clamp, y_ix, y_lt, y_le, y_eq, y_nP, y_nPs, y_ltP, y_ltQ, y_ltPP, y_eqP, y_eqQ, y_eqPP, if_pos, if_neg, ite_true, ite_false, not_true_eq_false, not_false_eq_true, and_true, true_and, and_false, false_and, or_true, true_or, or_false, false_or]
theorem z_rash (hR : j_Rel σ τ) (a1 : Int32) : ∃ v σ1 τ1, f_X11_rash a1 σ = some (v, σ1) ∧ f_X12_rash a1 τ = some (v, τ1) ∧ j_Rel σ1 τ1 := by
  obtain ⟨b, hW, hN, hM, hK⟩ := id hR
  by_cases h : y_rg a1 (b 6)
  · obtain ⟨p, hp, rfl⟩ := y_of _ _ h.1 h.2
    have h9 := hW.on0 (Or.inr (Or.inr (Or.inr (Or.inl (by omega : 0 < b 6)))))
    obtain ⟨σ1, e1, ⟨e2, e3, e4⟩, e5⟩ := yc_ready hN hW hp
    obtain ⟨σ2, g1, g2⟩ := yc_rash e2 hW h9 e3 (y_dg_vg hW _) e4 (y_pqv hW hp) y_mkC
    obtain ⟨τ1, f1, f2, f3⟩ := ym_laid hM hW
    obtain ⟨τ2, k1, k2, k3⟩ := ym_rashOf f2 hW hp
    generalize hx : nI 10 * (nI (y_run b (y_dg b (b 8)) (y_pq b p) y_k1 1 (y_gs b) 0) - nI (y_run b (y_dg b (b 8)) (y_pq b p) y_k1 1 (y_gs b) 4)) - nI 20 * nI (y_run b (y_dg b (b 8)) (y_pq b p) y_k1 1 (y_gs b) 4) = x at *
    refine ⟨x, σ2, τ2, ?_, ?_, y_done hR (e5.trans (g2.wide (by omega) (by omega))) (f3.trans k3)⟩
    · unfold f_X11_rash; simp (disch := omega) only [y_lit, y_n1, nI_add, pk_mul, j_lt, j_b1_s, j_b2_s, j_b3_s, j_b0_s, y_bo, y_bo1, y_bo0, y_i0, y_i1, Classical.not_not, nI_clamp, y_ix, y_lt, y_le, y_eq, y_nP, y_nPs, y_ltP, y_ltQ, y_ltPP, y_eqP, y_eqQ, y_eqPP, if_pos, if_neg, ite_true, ite_false, not_true_eq_false, not_false_eq_true, and_true, true_and, and_false, false_and, or_true, true_or, or_false, false_or, e1, g1]
    · unfold f_X12_rash; simp (disch := omega) only [y_lit, y_n1, nI_add, pk_mul, j_lt, j_b1_s, j_b2_s, j_b3_s, j_b0_s, y_bo, y_bo1, y_bo0, y_i0, y_i1, Classical.not_not, nI_clamp, y_ix, y_lt, y_le, y_eq, y_nP, y_nPs, y_ltP, y_ltQ, y_ltPP, y_eqP, y_eqQ, y_eqPP, if_pos, if_neg, ite_true, ite_false, not_true_eq_false, not_false_eq_true, and_true, true_and, and_false, false_and, or_true, true_or, or_false, false_or, ym_isPlayer hM hW, if_pos h, f1, k1]
  · refine ⟨-2000, σ, τ, ?_, ?_, hR⟩
    · unfold f_X11_rash; rw [yc_unready hN hW h]; simp (disch := omega) only [y_lit, y_n1, nI_add, pk_mul, j_lt, j_b1_s, j_b2_s, j_b3_s, j_b0_s, y_bo, y_bo1, y_bo0, y_i0, y_i1, Classical.not_not, nI_clamp, y_ix, y_lt, y_le, y_eq, y_nP, y_nPs, y_ltP, y_ltQ, y_ltPP, y_eqP, y_eqQ, y_eqPP, if_pos, if_neg, ite_true, ite_false, not_true_eq_false, not_false_eq_true, and_true, true_and, and_false, false_and, or_true, true_or, or_false, false_or]
    · unfold f_X12_rash; rw [ym_isPlayer hM hW, if_neg h]; simp (disch := omega) only [y_lit, y_n1, nI_add, pk_mul, j_lt, j_b1_s, j_b2_s, j_b3_s, j_b0_s, y_bo, y_bo1, y_bo0, y_i0, y_i1, Classical.not_not, nI_clamp, y_ix, y_lt, y_le, y_eq, y_nP, y_nPs, y_ltP, y_ltQ, y_ltPP, y_eqP, y_eqQ, y_eqPP, if_pos, if_neg, ite_true, ite_false, not_true_eq_false, not_false_eq_true, and_true, true_and, and_false, false_and, or_true, true_or, or_false, false_or]
theorem z_look (hR : j_Rel σ τ) (a1 a2 : Int32) : ∃ v σ1 τ1, f_X11_look a1 a2 σ = some (v, σ1) ∧ f_X12_look a1 a2 τ = some (v, τ1) ∧ j_Rel σ1 τ1 := by
  obtain ⟨b, hW, hN, hM, hK⟩ := id hR
  by_cases h : y_rg a1 (b 6)
  · by_cases h2 : y_rg a2 21
    · obtain ⟨p, hp, rfl⟩ := y_of _ _ h.1 h.2
      obtain ⟨n, hn, rfl⟩ := y_of _ _ h2.1 h2.2
      have h9 := hW.on0 (Or.inr (Or.inr (Or.inr (Or.inl (by omega : 0 < b 6)))))
      have q1 : y_pq b p 1 ≤ 20 := by
        have h := hW.pl hp
        show b (96 + 5 * p + 1) ≤ 20; rw [show 96 + 5 * p + 1 = 97 + 5 * p from by omega]; omega
      obtain ⟨σ1, e1, e2, e3⟩ := yc_ready hN hW hp
      obtain ⟨τ1, f1, f2, f3⟩ := ym_laid hM hW
      obtain ⟨σ2, g1, g2, g3⟩ := yc_look (n := y_pq b p 1 + n) (y_ra_of e2) hW h9 (y_pqv hW hp) (by omega)
      obtain ⟨τ2, k1, k2, k3⟩ := ym_look (n := n) f2 hW hp (by omega)
      have et : f_X2_trait (nI p) (nI 1) σ1 = some (nI (y_pq b p 1)) := yc_trait e2.1 hW hp (by omega)
      refine ⟨nI (10 * y_H b (y_u (y_u (y_pq b p) 1 (y_pq b p 1 + n)) 3 0)), σ2, τ2, ?_, ?_, y_done hR (e3.trans (g3.wide (by omega) (by omega))) (f3.trans k3)⟩
      · unfold f_X11_look; simp (disch := omega) only [y_lit, y_n1, nI_add, pk_mul, j_lt, j_b1_s, j_b2_s, j_b3_s, j_b0_s, y_bo, y_bo1, y_bo0, y_i0, y_i1, Classical.not_not, nI_clamp, y_ix, y_lt, y_le, y_eq, y_nP, y_nPs, y_ltP, y_ltQ, y_ltPP, y_eqP, y_eqQ, y_eqPP, if_pos, if_neg, ite_true, ite_false, not_true_eq_false, not_false_eq_true, and_true, true_and, and_false, false_and, or_true, true_or, or_false, false_or, e1, et, g1]
      · unfold f_X12_look; simp (disch := omega) only [y_lit, y_n1, nI_add, pk_mul, j_lt, j_b1_s, j_b2_s, j_b3_s, j_b0_s, y_bo, y_bo1, y_bo0, y_i0, y_i1, Classical.not_not, nI_clamp, y_ix, y_lt, y_le, y_eq, y_nP, y_nPs, y_ltP, y_ltQ, y_ltPP, y_eqP, y_eqQ, y_eqPP, if_pos, if_neg, ite_true, ite_false, not_true_eq_false, not_false_eq_true, and_true, true_and, and_false, false_and, or_true, true_or, or_false, false_or, ym_isPlayer hM hW, if_pos h, y_lit64, y_in, f1, k1]
    · refine ⟨-2000, σ, τ, ?_, ?_, hR⟩
      · unfold f_X11_look; simp (disch := omega) only [y_lit, y_n1, nI_add, pk_mul, j_lt, j_b1_s, j_b2_s, j_b3_s, j_b0_s, y_bo, y_bo1, y_bo0, y_i0, y_i1, Classical.not_not, nI_clamp, y_ix, y_lt, y_le, y_eq, y_nP, y_nPs, y_ltP, y_ltQ, y_ltPP, y_eqP, y_eqQ, y_eqPP, if_pos, if_neg, ite_true, ite_false, not_true_eq_false, not_false_eq_true, and_true, true_and, and_false, false_and, or_true, true_or, or_false, false_or, y_c3, h2]
      · unfold f_X12_look; simp (disch := omega) only [y_lit, y_n1, nI_add, pk_mul, j_lt, j_b1_s, j_b2_s, j_b3_s, j_b0_s, y_bo, y_bo1, y_bo0, y_i0, y_i1, Classical.not_not, nI_clamp, y_ix, y_lt, y_le, y_eq, y_nP, y_nPs, y_ltP, y_ltQ, y_ltPP, y_eqP, y_eqQ, y_eqPP, if_pos, if_neg, ite_true, ite_false, not_true_eq_false, not_false_eq_true, and_true, true_and, and_false, false_and, or_true, true_or, or_false, false_or, ym_isPlayer hM hW, y_lit64, y_in, y_c3, h2]
  · refine ⟨-2000, σ, τ, ?_, ?_, hR⟩
    · unfold f_X11_look; rw [yc_unready hN hW h]; simp (disch := omega) only [y_lit, y_n1, nI_add, pk_mul, j_lt, j_b1_s, j_b2_s, j_b3_s, j_b0_s, y_bo, y_bo1, y_bo0, y_i0, y_i1, Classical.not_not, nI_clamp, y_ix, y_lt, y_le, y_eq, y_nP, y_nPs, y_ltP, y_ltQ, y_ltPP, y_eqP, y_eqQ, y_eqPP, if_pos, if_neg, ite_true, ite_false, not_true_eq_false, not_false_eq_true, and_true, true_and, and_false, false_and, or_true, true_or, or_false, false_or]
      split <;> rfl
    · unfold f_X12_look; simp (disch := omega) only [y_lit, y_n1, nI_add, pk_mul, j_lt, j_b1_s, j_b2_s, j_b3_s, j_b0_s, y_bo, y_bo1, y_bo0, y_i0, y_i1, Classical.not_not, nI_clamp, y_ix, y_lt, y_le, y_eq, y_nP, y_nPs, y_ltP, y_ltQ, y_ltPP, y_eqP, y_eqQ, y_eqPP, if_pos, if_neg, ite_true, ite_false, not_true_eq_false, not_false_eq_true, and_true, true_and, and_false, false_and, or_true, true_or, or_false, false_or, ym_isPlayer hM hW, h]
theorem z_line (hR : j_Rel σ τ) (a1 : Int32) : ∃ v σ1 τ1, f_X11_line a1 σ = some (v, σ1) ∧ f_X12_line a1 τ = some (v, τ1) ∧ j_Rel σ1 τ1 := by
  obtain ⟨b, hW, hN, hM, hK⟩ := id hR
  by_cases h : y_rg a1 (b 6)
  · obtain ⟨p, hp, rfl⟩ := y_of _ _ h.1 h.2
    have h9 := hW.on0 (Or.inr (Or.inr (Or.inr (Or.inl (by omega : 0 < b 6)))))
    have hq := y_pqv hW hp
    have q1 : y_pq b p 1 ≤ 20 := by
      have h := hW.pl hp
      show b (96 + 5 * p + 1) ≤ 20; rw [show 96 + 5 * p + 1 = 97 + 5 * p from by omega]; omega
    obtain ⟨σ1, e1, ⟨e2, e3, e4⟩, e5⟩ := yc_ready hN hW hp
    obtain ⟨σ2, g1, g2⟩ := yc_rash e2 hW h9 e3 (y_dg_vg hW _) e4 hq y_mkC
    obtain ⟨τ1, f1, f2, f3⟩ := ym_laid hM hW
    obtain ⟨τ2, k1, k2, k3⟩ := ym_rashOf f2 hW hp
    generalize hx : nI 10 * (nI (y_run b (y_dg b (b 8)) (y_pq b p) y_k1 1 (y_gs b) 0) - nI (y_run b (y_dg b (b 8)) (y_pq b p) y_k1 1 (y_gs b) 4)) - nI 20 * nI (y_run b (y_dg b (b 8)) (y_pq b p) y_k1 1 (y_gs b) 4) = x at *
    have hN2 := e2.fr g2 (by omega)
    have ra2 : y_ra σ2 b (y_pq b p) := ⟨hN2, e3.fr g2 (by omega), e4.fr g2 (by omega)⟩
    have et : f_X2_trait (nI p) (nI 1) σ2 = some (nI (y_pq b p 1)) := yc_trait hN2 hW hp (by omega)
    have both : ∀ m n q σ' τ', m < 22 → m < n → y_ra σ' b q → y_vq b q → (∀ j, j ≠ 1 → j ≠ 3 → q j = y_pq b p j) → y_ldy τ' b → ∃ v σ'' τ'', p_X11_line_45 x (nI (y_pq b p 1)) n (nP m) σ' = some (v, σ'') ∧ y_fr 28 34 σ' σ'' ∧ p_X12_line_24 (nI p) x n (nP m) τ' = some (v, τ'') ∧ y_fm 18 42 80 93 τ' τ'' := by
      intro m
      induction m with
      | zero =>
        intro n q σ' τ' hm hn hr hv hj hl
        obtain ⟨n, rfl⟩ := y_pos hn
        refine ⟨-1, σ', τ', ?_, y_fr.refl, ?_, y_fm.refl⟩
        · unfold p_X11_line_45; simp (disch := omega) only [y_lit, y_n1, nI_add, pk_mul, j_lt, j_b1_s, j_b2_s, j_b3_s, j_b0_s, y_bo, y_bo1, y_bo0, y_i0, y_i1, Classical.not_not, nI_clamp, y_ix, y_lt, y_le, y_eq, y_nP, y_nPs, y_ltP, y_ltQ, y_ltPP, y_eqP, y_eqQ, y_eqPP, if_pos, if_neg, ite_true, ite_false, not_true_eq_false, not_false_eq_true, and_true, true_and, and_false, false_and, or_true, true_or, or_false, false_or]
        · unfold p_X12_line_24; simp (disch := omega) only [y_lit, y_n1, nI_add, pk_mul, j_lt, j_b1_s, j_b2_s, j_b3_s, j_b0_s, y_bo, y_bo1, y_bo0, y_i0, y_i1, Classical.not_not, nI_clamp, y_ix, y_lt, y_le, y_eq, y_nP, y_nPs, y_ltP, y_ltQ, y_ltPP, y_eqP, y_eqQ, y_eqPP, if_pos, if_neg, ite_true, ite_false, not_true_eq_false, not_false_eq_true, and_true, true_and, and_false, false_and, or_true, true_or, or_false, false_or]
      | succ m ih =>
        intro n q σ' τ' hm hn hr hv hj hl
        obtain ⟨n, rfl⟩ := y_pos hn
        obtain ⟨σ3, c1, c2, c3⟩ := yc_look (n := y_pq b p 1 + m) hr hW h9 hv (by omega)
        obtain ⟨τ3, d1, d2, d3⟩ := ym_look (n := m) hl hW hp (by omega)
        have eq : y_u (y_u q 1 (y_pq b p 1 + m)) 3 0 = y_u (y_u (y_pq b p) 1 (y_pq b p 1 + m)) 3 0 := by
          funext j
          by_cases j3 : j = 3
          · subst j3; rw [y_ue, y_ue]
          · rw [y_un j3, y_un j3]
            by_cases j1 : j = 1
            · subst j1; rw [y_ue, y_ue]
            · rw [y_un j1, y_un j1, hj j j1 j3]
        rw [eq] at c1 c2
        have hv2 : y_vq b (y_u (y_u (y_pq b p) 1 (y_pq b p 1 + m)) 3 0) := y_vq3 (y_vq1 hq (by omega)) (by omega)
        obtain ⟨v, σ4, τ4, m1, m2, m3, m4⟩ := ih n _ σ3 τ3 (by omega) (by omega) c2 hv2 (fun j j1 j3 => by rw [y_un j3, y_un j1]) d2
        have hle : y_H b (y_u (y_u (y_pq b p) 1 (y_pq b p 1 + m)) 3 0) ≤ 120 := y_H_le hW hv2
        rw [y_nPs]
        unfold p_X11_line_45 p_X12_line_24
        have ep : nI m + nP 0 = nP m := by
          show nI m + (nI 0 - 1) = nI m - 1
          rw [Int32.add_comm, ← y_m0 (nI m)]
        simp (disch := omega) only [y_lit, y_n1, nI_add, pk_mul, j_lt, j_b1_s, j_b2_s, j_b3_s, j_b0_s, y_bo, y_bo1, y_bo0, y_i0, y_i1, Classical.not_not, nI_clamp, y_ix, y_lt, y_le, y_eq, y_nP, y_nPs, y_ltP, y_ltQ, y_ltPP, y_eqP, y_eqQ, y_eqPP, if_pos, if_neg, ite_true, ite_false, not_true_eq_false, not_false_eq_true, and_true, true_and, and_false, false_and, or_true, true_or, or_false, false_or, c1, d1, ep]
        generalize nI (10 * y_H b (y_u (y_u (y_pq b p) 1 (y_pq b p 1 + m)) 3 0)) = X
        by_cases c : X < x
        · rw [if_neg (fun z => z c), if_neg (fun z => z c)]
          exact ⟨v, σ4, τ4, m1, c3.trans m2, m3, d3.trans m4⟩
        · rw [if_pos c, if_pos c]
          exact ⟨nI m, σ3, τ3, rfl, c3, rfl, d3⟩
    obtain ⟨v, σ3, τ3, c1, c2, d1, d2⟩ := both 21 j_F (y_pq b p) σ2 τ2 (by omega) (y_F (by omega)) ra2 hq (fun _ _ _ => rfl) k2
    rw [show nP 21 = nI 20 from y_nPs 20] at c1 d1
    refine ⟨v, σ3, τ3, ?_, ?_, y_done hR (e5.trans ((g2.wide (by omega) (by omega)).trans (c2.wide (by omega) (by omega)))) (f3.trans (k3.trans d2))⟩
    · unfold f_X11_line; simp (disch := omega) only [y_lit, y_n1, nI_add, pk_mul, j_lt, j_b1_s, j_b2_s, j_b3_s, j_b0_s, y_bo, y_bo1, y_bo0, y_i0, y_i1, Classical.not_not, nI_clamp, y_ix, y_lt, y_le, y_eq, y_nP, y_nPs, y_ltP, y_ltQ, y_ltPP, y_eqP, y_eqQ, y_eqPP, if_pos, if_neg, ite_true, ite_false, not_true_eq_false, not_false_eq_true, and_true, true_and, and_false, false_and, or_true, true_or, or_false, false_or, e1, g1, et, c1]
    · unfold f_X12_line
      rw [ym_isPlayer hM hW, if_pos h, j_b1_s, y_lit, if_neg (show ¬ nI 1 = nI 0 from by decide), f1, j_b1_s, k1, j_b2_s, y_lit, d1]
  · refine ⟨-2, σ, τ, ?_, ?_, hR⟩
    · unfold f_X11_line; rw [yc_unready hN hW h]; simp (disch := omega) only [y_lit, y_n1, nI_add, pk_mul, j_lt, j_b1_s, j_b2_s, j_b3_s, j_b0_s, y_bo, y_bo1, y_bo0, y_i0, y_i1, Classical.not_not, nI_clamp, y_ix, y_lt, y_le, y_eq, y_nP, y_nPs, y_ltP, y_ltQ, y_ltPP, y_eqP, y_eqQ, y_eqPP, if_pos, if_neg, ite_true, ite_false, not_true_eq_false, not_false_eq_true, and_true, true_and, and_false, false_and, or_true, true_or, or_false, false_or]
    · unfold f_X12_line; rw [ym_isPlayer hM hW, if_neg h]; simp (disch := omega) only [y_lit, y_n1, nI_add, pk_mul, j_lt, j_b1_s, j_b2_s, j_b3_s, j_b0_s, y_bo, y_bo1, y_bo0, y_i0, y_i1, Classical.not_not, nI_clamp, y_ix, y_lt, y_le, y_eq, y_nP, y_nPs, y_ltP, y_ltQ, y_ltPP, y_eqP, y_eqQ, y_eqPP, if_pos, if_neg, ite_true, ite_false, not_true_eq_false, not_false_eq_true, and_true, true_and, and_false, false_and, or_true, true_or, or_false, false_or]
theorem z_tickets (hR : j_Rel σ τ) (a1 : Int32) : ∃ v σ1 τ1, f_X11_tickets a1 σ = some (v, σ1) ∧ f_X12_tickets a1 τ = some (v, τ1) ∧ j_Rel σ1 τ1 := by
  obtain ⟨b, hW, hN, hM, hK⟩ := id hR
  by_cases h : y_rg a1 (b 6)
  · obtain ⟨p, hp, rfl⟩ := y_of _ _ h.1 h.2
    have h9 := hW.on0 (Or.inr (Or.inr (Or.inr (Or.inl (by omega : 0 < b 6)))))
    have hon := hW.on h9
    obtain ⟨σ1, e1, e2, e3, e4⟩ := yc_runOf hN hW hp
    obtain ⟨τ1, f1, f2, f3, f4, f5⟩ := ym_ras hM hW hp
    have br : y_br b (y_own b p) 120 := y_run_br hW (y_dg_vg hW (b 8)) (y_pqv hW hp)
    have b0 := br.1
    refine ⟨nI (10 * y_own b p 0 / b 11), σ1, τ1, ?_, ?_, y_done hR e4 f5⟩
    · unfold f_X11_tickets f_X11_ticketsOfRun; simp (disch := omega) only [y_lit, y_n1, nI_add, pk_mul, j_lt, j_b1_s, j_b2_s, j_b3_s, j_b0_s, y_bo, y_bo1, y_bo0, y_i0, y_i1, Classical.not_not, nI_clamp, y_ix, y_lt, y_le, y_eq, y_nP, y_nPs, y_ltP, y_ltQ, y_ltPP, y_eqP, y_eqQ, y_eqPP, if_pos, if_neg, ite_true, ite_false, not_true_eq_false, not_false_eq_true, and_true, true_and, and_false, false_and, or_true, true_or, or_false, false_or, e1, e3.1.1, e2.1.f9 h9, pk_div]
    · unfold f_X12_tickets f_X12_ticketsOf; simp (disch := omega) only [y_lit, y_n1, nI_add, pk_mul, j_lt, j_b1_s, j_b2_s, j_b3_s, j_b0_s, y_bo, y_bo1, y_bo0, y_i0, y_i1, Classical.not_not, nI_clamp, y_ix, y_lt, y_le, y_eq, y_nP, y_nPs, y_ltP, y_ltQ, y_ltPP, y_eqP, y_eqQ, y_eqPP, if_pos, if_neg, ite_true, ite_false, not_true_eq_false, not_false_eq_true, and_true, true_and, and_false, false_and, or_true, true_or, or_false, false_or, ym_isPlayer hM hW, if_pos h, f1, f3.1.1, f2.1.f, pk_div]
  · refine ⟨-2, σ, τ, ?_, ?_, hR⟩
    · unfold f_X11_tickets; rw [yc_unrun hN hW h]; simp (disch := omega) only [y_lit, y_n1, nI_add, pk_mul, j_lt, j_b1_s, j_b2_s, j_b3_s, j_b0_s, y_bo, y_bo1, y_bo0, y_i0, y_i1, Classical.not_not, nI_clamp, y_ix, y_lt, y_le, y_eq, y_nP, y_nPs, y_ltP, y_ltQ, y_ltPP, y_eqP, y_eqQ, y_eqPP, if_pos, if_neg, ite_true, ite_false, not_true_eq_false, not_false_eq_true, and_true, true_and, and_false, false_and, or_true, true_or, or_false, false_or]
    · unfold f_X12_tickets; rw [ym_isPlayer hM hW, if_neg h]; simp (disch := omega) only [y_lit, y_n1, nI_add, pk_mul, j_lt, j_b1_s, j_b2_s, j_b3_s, j_b0_s, y_bo, y_bo1, y_bo0, y_i0, y_i1, Classical.not_not, nI_clamp, y_ix, y_lt, y_le, y_eq, y_nP, y_nPs, y_ltP, y_ltQ, y_ltPP, y_eqP, y_eqQ, y_eqPP, if_pos, if_neg, ite_true, ite_false, not_true_eq_false, not_false_eq_true, and_true, true_and, and_false, false_and, or_true, true_or, or_false, false_or]
theorem z_prize (hR : j_Rel σ τ) (a1 : Int32) : ∃ v σ1 τ1, f_X11_prize a1 σ = some (v, σ1) ∧ f_X12_prize a1 τ = some (v, τ1) ∧ j_Rel σ1 τ1 := by
  obtain ⟨b, hW, hN, hM, hK⟩ := id hR
  by_cases h : y_rg a1 (b 6)
  · obtain ⟨p, hp, rfl⟩ := y_of _ _ h.1 h.2
    have h9 := hW.on0 (Or.inr (Or.inr (Or.inr (Or.inl (by omega : 0 < b 6)))))
    have hon := hW.on h9
    obtain ⟨σ1, e1, e2, e3, e4⟩ := yc_runOf hN hW hp
    obtain ⟨τ1, f1, f2, f3, f4, f5⟩ := ym_ras hM hW hp
    have br : y_br b (y_own b p) 120 := y_run_br hW (y_dg_vg hW (b 8)) (y_pqv hW hp)
    have b0 := br.1
    have hr := y_done hR e4 f5
    have dl : 10 * y_own b p 0 / b 11 ≤ 10 * y_own b p 0 := Nat.div_le_self _ _
    by_cases z : 10 * y_own b p 0 / b 11 = 0
    · refine ⟨-1, σ1, τ1, ?_, ?_, hr⟩
      · unfold f_X11_prize f_X11_ticketsOfRun; simp (disch := omega) only [y_lit, y_n1, nI_add, pk_mul, j_lt, j_b1_s, j_b2_s, j_b3_s, j_b0_s, y_bo, y_bo1, y_bo0, y_i0, y_i1, Classical.not_not, nI_clamp, y_ix, y_lt, y_le, y_eq, y_nP, y_nPs, y_ltP, y_ltQ, y_ltPP, y_eqP, y_eqQ, y_eqPP, if_pos, if_neg, ite_true, ite_false, not_true_eq_false, not_false_eq_true, and_true, true_and, and_false, false_and, or_true, true_or, or_false, false_or, e1, e3.1.1, e2.1.f9 h9, pk_div, z]
      · unfold f_X12_prize f_X12_ticketsOf; simp (disch := omega) only [y_lit, y_n1, nI_add, pk_mul, j_lt, j_b1_s, j_b2_s, j_b3_s, j_b0_s, y_bo, y_bo1, y_bo0, y_i0, y_i1, Classical.not_not, nI_clamp, y_ix, y_lt, y_le, y_eq, y_nP, y_nPs, y_ltP, y_ltQ, y_ltPP, y_eqP, y_eqQ, y_eqPP, if_pos, if_neg, ite_true, ite_false, not_true_eq_false, not_false_eq_true, and_true, true_and, and_false, false_and, or_true, true_or, or_false, false_or, ym_isPlayer hM hW, if_pos h, f1, f3.1.1, f2.1.f, pk_div, z]
    · generalize hd : 10 * y_own b p 0 / b 11 = d at *
      refine ⟨nI ((b 10 + d - 1) / d), σ1, τ1, ?_, ?_, hr⟩
      · unfold f_X11_prize f_X11_ticketsOfRun; simp (disch := omega) only [y_lit, y_n1, nI_add, pk_mul, j_lt, j_b1_s, j_b2_s, j_b3_s, j_b0_s, y_bo, y_bo1, y_bo0, y_i0, y_i1, Classical.not_not, nI_clamp, y_ix, y_lt, y_le, y_eq, y_nP, y_nPs, y_ltP, y_ltQ, y_ltPP, y_eqP, y_eqQ, y_eqPP, if_pos, if_neg, ite_true, ite_false, not_true_eq_false, not_false_eq_true, and_true, true_and, and_false, false_and, or_true, true_or, or_false, false_or, e1, e3.1.1, e2.1.f9 h9, pk_div, hd, e2.1.f8 h9, pk_sub]
      · unfold f_X12_prize f_X12_ticketsOf; simp (disch := omega) only [y_lit, y_n1, nI_add, pk_mul, j_lt, j_b1_s, j_b2_s, j_b3_s, j_b0_s, y_bo, y_bo1, y_bo0, y_i0, y_i1, Classical.not_not, nI_clamp, y_ix, y_lt, y_le, y_eq, y_nP, y_nPs, y_ltP, y_ltQ, y_ltPP, y_eqP, y_eqQ, y_eqPP, if_pos, if_neg, ite_true, ite_false, not_true_eq_false, not_false_eq_true, and_true, true_and, and_false, false_and, or_true, true_or, or_false, false_or, ym_isPlayer hM hW, if_pos h, f1, f3.1.1, f2.1.f, pk_div, hd, pk_sub]
  · refine ⟨-2, σ, τ, ?_, ?_, hR⟩
    · unfold f_X11_prize; rw [yc_unrun hN hW h]; simp (disch := omega) only [y_lit, y_n1, nI_add, pk_mul, j_lt, j_b1_s, j_b2_s, j_b3_s, j_b0_s, y_bo, y_bo1, y_bo0, y_i0, y_i1, Classical.not_not, nI_clamp, y_ix, y_lt, y_le, y_eq, y_nP, y_nPs, y_ltP, y_ltQ, y_ltPP, y_eqP, y_eqQ, y_eqPP, if_pos, if_neg, ite_true, ite_false, not_true_eq_false, not_false_eq_true, and_true, true_and, and_false, false_and, or_true, true_or, or_false, false_or]
    · unfold f_X12_prize; rw [ym_isPlayer hM hW, if_neg h]; simp (disch := omega) only [y_lit, y_n1, nI_add, pk_mul, j_lt, j_b1_s, j_b2_s, j_b3_s, j_b0_s, y_bo, y_bo1, y_bo0, y_i0, y_i1, Classical.not_not, nI_clamp, y_ix, y_lt, y_le, y_eq, y_nP, y_nPs, y_ltP, y_ltQ, y_ltPP, y_eqP, y_eqQ, y_eqPP, if_pos, if_neg, ite_true, ite_false, not_true_eq_false, not_false_eq_true, and_true, true_and, and_false, false_and, or_true, true_or, or_false, false_or]
end Z
