/-! ===== write ===== -/
theorem y_cutB (v : BitVec 64) (k : Nat) (hk : 0 < k) (hk2 : k ≤ 64) (i : Nat) (hi : i < 64) : ((v <<< (64 - k)).sshiftRight (64 - k)).getLsbD i = if i < k then v.getLsbD i else v.getLsbD (k - 1) := by
  rw [BitVec.getLsbD_sshiftRight, BitVec.msb_eq_getLsbD_last, BitVec.getLsbD_shiftLeft, BitVec.getLsbD_shiftLeft]
  by_cases h : i < k
  · rw [if_pos h, if_pos (by omega)]
    have e : 64 - k + i - (64 - k) = i := by omega
    rw [e]
    simp [show ¬ 64 ≤ i by omega, show 64 - k + i < 64 by omega]
  · rw [if_neg h, if_neg (by omega)]
    have e : 64 - 1 - (64 - k) = k - 1 := by omega
    rw [e]
    simp [show ¬ 64 ≤ i by omega, show 64 - k ≤ 63 by omega]
theorem y_sx {m k : Nat} (x : BitVec m) (i : Nat) (hi : i < k) (hm : 0 < m) : (x.signExtend k).getLsbD i = if i < m then x.getLsbD i else x.getLsbD (m - 1) := by
  rw [BitVec.getLsbD_signExtend, BitVec.msb_eq_getLsbD_last]
  simp [hi]
theorem y_shlr (v K : Int64) (k : Nat) (hK : (K.toBitVec.smod 64).toNat = k) : ((v <<< K) >>> K).toBitVec = (v.toBitVec <<< k).sshiftRight k := by
  show BitVec.sshiftRight' (v.toBitVec <<< (K.toBitVec.smod 64)) (K.toBitVec.smod 64) = _
  rw [BitVec.sshiftRight_eq', BitVec.shiftLeft_eq', hK]
theorem y_cut0 (v : Int64) : f_X12_cut v (nI 0) = ((v.toInt32).toInt8.toInt32).toInt64 := by
  unfold f_X12_cut
  simp only [j_lt]
  rw [show ((64 : Int32) - ((8 : Int32) <<< (nI 0 &&& 31))).toInt64 &&& 63 = (56 : Int64) from by decide]
  apply Int64.toBitVec_inj.mp
  rw [y_shlr v 56 56 (by decide)]
  apply BitVec.eq_of_getLsbD_eq
  intro i hi
  rw [show (56 : Nat) = 64 - 8 from rfl, y_cutB v.toBitVec 8 (by omega) (by omega) i hi]
  show _ = ((((v.toBitVec.signExtend 32).signExtend 8).signExtend 32).signExtend 64).getLsbD i
  rw [y_sx _ i hi (by omega)]
  by_cases h : i < 8
  · rw [if_pos h, if_pos (by omega), y_sx _ i (by omega) (by omega), if_pos h, y_sx _ i h (by omega), if_pos (by omega), y_sx _ i (by omega) (by omega), if_pos (by omega)]
  · rw [if_neg h]
    by_cases h2 : i < 32
    · rw [if_pos h2, y_sx _ i h2 (by omega), if_neg h, y_sx _ _ (by omega) (by omega), if_pos (by omega), y_sx _ _ (by omega) (by omega), if_pos (by omega)]
    · rw [if_neg h2, y_sx _ _ (by omega) (by omega), if_neg (by omega), y_sx _ _ (by omega) (by omega), if_pos (by omega), y_sx _ _ (by omega) (by omega), if_pos (by omega)]
theorem y_cut1 (v : Int64) : f_X12_cut v (nI 1) = ((v.toInt32).toInt16.toInt32).toInt64 := by
  unfold f_X12_cut
  simp only [j_lt]
  rw [show ((64 : Int32) - ((8 : Int32) <<< (nI 1 &&& 31))).toInt64 &&& 63 = (48 : Int64) from by decide]
  apply Int64.toBitVec_inj.mp
  rw [y_shlr v 48 48 (by decide)]
  apply BitVec.eq_of_getLsbD_eq
  intro i hi
  rw [show (48 : Nat) = 64 - 16 from rfl, y_cutB v.toBitVec 16 (by omega) (by omega) i hi]
  show _ = ((((v.toBitVec.signExtend 32).signExtend 16).signExtend 32).signExtend 64).getLsbD i
  rw [y_sx _ i hi (by omega)]
  by_cases h : i < 16
  · rw [if_pos h, if_pos (by omega), y_sx _ i (by omega) (by omega), if_pos h, y_sx _ i h (by omega), if_pos (by omega), y_sx _ i (by omega) (by omega), if_pos (by omega)]
  · rw [if_neg h]
    by_cases h2 : i < 32
    · rw [if_pos h2, y_sx _ i h2 (by omega), if_neg h, y_sx _ _ (by omega) (by omega), if_pos (by omega), y_sx _ _ (by omega) (by omega), if_pos (by omega)]
    · rw [if_neg h2, y_sx _ _ (by omega) (by omega), if_neg (by omega), y_sx _ _ (by omega) (by omega), if_pos (by omega), y_sx _ _ (by omega) (by omega), if_pos (by omega)]
theorem y_cut2 (v : Int64) : f_X12_cut v (nI 2) = (v.toInt32).toInt64 := by
  unfold f_X12_cut
  simp only [j_lt]
  rw [show ((64 : Int32) - ((8 : Int32) <<< (nI 2 &&& 31))).toInt64 &&& 63 = (32 : Int64) from by decide]
  apply Int64.toBitVec_inj.mp
  rw [y_shlr v 32 32 (by decide)]
  apply BitVec.eq_of_getLsbD_eq
  intro i hi
  rw [show (32 : Nat) = 64 - 32 from rfl, y_cutB v.toBitVec 32 (by omega) (by omega) i hi]
  show _ = ((v.toBitVec.signExtend 32).signExtend 64).getLsbD i
  rw [y_sx _ i hi (by omega)]
  by_cases h : i < 32
  · rw [if_pos h, if_pos h, y_sx _ i h (by omega), if_pos (by omega)]
  · rw [if_neg h, if_neg h, y_sx _ _ (by omega) (by omega), if_pos (by omega)]
theorem y_cut3 (v : Int64) : f_X12_cut v (nI 3) = v := by
  unfold f_X12_cut
  simp only [j_lt]
  rw [show ((64 : Int32) - ((8 : Int32) <<< (nI 3 &&& 31))).toInt64 &&& 63 = (0 : Int64) from by decide]
  apply Int64.toBitVec_inj.mp
  rw [y_shlr v 0 0 (by decide)]
  simp
section Z
variable {σ τ : j_G}
theorem y_ro.sl {s c d n w : Nat} (h : y_ro σ τ s c d n w) : y_sl σ τ s c d := Or.inr ⟨n, w, h.2.1, h.2.2.1, h.2.2.2.1, h.2.2.2.2.1, h.2.2.2.2.2.1, h.2.2.2.2.2.2.1, h.2.2.2.2.2.2.2⟩
theorem z_write (hR : j_Rel σ τ) (a1 a2 : Int32) (a3 : Int64) : ∃ v σ1 τ1, f_X11_write a1 a2 a3 σ = some (v, σ1) ∧ f_X12_write a1 a2 a3 τ = some (v, τ1) ∧ j_Rel σ1 τ1 := by
  obtain ⟨b, hW, hN, hM, hK⟩ := id hR
  by_cases h : y_rg a1 4
  · obtain ⟨s, hs, rfl⟩ := y_of _ _ h.1 h.2
    obtain ⟨c, d, hc, hk⟩ := hK.slot s hs
    rcases hk with ⟨k1, k2⟩ | ⟨n, w, hr⟩
    · refine ⟨-6, σ, τ, ?_, ?_, hR⟩
      · unfold f_X11_write f_X8_isMade
        rcases hc with ⟨rfl, rfl, rfl⟩ | ⟨rfl, rfl, rfl⟩ | ⟨rfl, rfl, rfl⟩ | ⟨rfl, rfl, rfl⟩
        · simp (disch := omega) only [y_lit, y_n1, nI_add, pk_mul, j_lt, j_b1_s, j_b2_s, j_b3_s, j_b0_s, y_bo, y_bo1, y_bo0, y_i0, y_i1, Classical.not_not, nI_clamp, y_ix, y_lt, y_le, y_eq, y_nP, y_nPs, y_ltP, y_ltQ, y_ltPP, y_eqP, y_eqQ, y_eqPP, if_pos, if_neg, ite_true, ite_false, not_true_eq_false, not_false_eq_true, and_true, true_and, and_false, false_and, or_true, true_or, or_false, false_or, yc_isSlot, y_rn, k1]
        · simp (disch := omega) only [y_lit, y_n1, nI_add, pk_mul, j_lt, j_b1_s, j_b2_s, j_b3_s, j_b0_s, y_bo, y_bo1, y_bo0, y_i0, y_i1, Classical.not_not, nI_clamp, y_ix, y_lt, y_le, y_eq, y_nP, y_nPs, y_ltP, y_ltQ, y_ltPP, y_eqP, y_eqQ, y_eqPP, if_pos, if_neg, ite_true, ite_false, not_true_eq_false, not_false_eq_true, and_true, true_and, and_false, false_and, or_true, true_or, or_false, false_or, yc_isSlot, y_rn, k1]
        · simp (disch := omega) only [y_lit, y_n1, nI_add, pk_mul, j_lt, j_b1_s, j_b2_s, j_b3_s, j_b0_s, y_bo, y_bo1, y_bo0, y_i0, y_i1, Classical.not_not, nI_clamp, y_ix, y_lt, y_le, y_eq, y_nP, y_nPs, y_ltP, y_ltQ, y_ltPP, y_eqP, y_eqQ, y_eqPP, if_pos, if_neg, ite_true, ite_false, not_true_eq_false, not_false_eq_true, and_true, true_and, and_false, false_and, or_true, true_or, or_false, false_or, yc_isSlot, y_rn, k1]
        · simp (disch := omega) only [y_lit, y_n1, nI_add, pk_mul, j_lt, j_b1_s, j_b2_s, j_b3_s, j_b0_s, y_bo, y_bo1, y_bo0, y_i0, y_i1, Classical.not_not, nI_clamp, y_ix, y_lt, y_le, y_eq, y_nP, y_nPs, y_ltP, y_ltQ, y_ltPP, y_eqP, y_eqQ, y_eqPP, if_pos, if_neg, ite_true, ite_false, not_true_eq_false, not_false_eq_true, and_true, true_and, and_false, false_and, or_true, true_or, or_false, false_or, yc_isSlot, y_rn, k1]
      · unfold f_X12_write; simp (disch := omega) only [y_lit, y_n1, nI_add, pk_mul, j_lt, j_b1_s, j_b2_s, j_b3_s, j_b0_s, y_bo, y_bo1, y_bo0, y_i0, y_i1, Classical.not_not, nI_clamp, y_ix, y_lt, y_le, y_eq, y_nP, y_nPs, y_ltP, y_ltQ, y_ltPP, y_eqP, y_eqQ, y_eqPP, if_pos, if_neg, ite_true, ite_false, not_true_eq_false, not_false_eq_true, and_true, true_and, and_false, false_and, or_true, true_or, or_false, false_or, ym_isSlot, y_rn, k2]
    · obtain ⟨_, hn, hw, r1, r2, r3, r4, r5⟩ := id hr
      have hcd : c ≠ d := by unfold y_sc at hc; omega
      by_cases h2 : y_rg a2 n
      · obtain ⟨i, hi, rfl⟩ := y_of _ _ h2.1 h2.2
        have put : ∃ x, f_X8_put c d (nI i) a3 σ = some (j_sl σ d i x) ∧ f_X12_cut a3 (nI w) = x := by
          have q : f_X8_put c d (nI i) a3 σ = if nI w = nI 0 then some (j_sl σ d i (((a3).toInt32).toInt8.toInt32).toInt64) else if nI w = nI 1 then some (j_sl σ d i (((a3).toInt32).toInt16.toInt32).toInt64) else if nI w = nI 2 then some (j_sl σ d i ((a3).toInt32).toInt64) else some (j_sl σ d i a3) := by
            unfold f_X8_put
            rw [r1, r3, y_ix (by omega) (by omega), y_ix (by omega) (by omega), y_ix (by omega) (by omega), y_ix (by omega) (by omega), nI_clamp (by omega), if_neg]
            · rfl
            · rw [show (0 : Int32) = nI 0 from rfl, y_lt (by omega) (by omega), y_lt (by omega) (by omega)]; omega
          obtain rfl | rfl | rfl | rfl : w = 0 ∨ w = 1 ∨ w = 2 ∨ w = 3 := by omega
          · exact ⟨_, by rw [q, if_pos rfl], y_cut0 a3⟩
          · exact ⟨_, by rw [q, if_neg (by decide), if_pos rfl], y_cut1 a3⟩
          · exact ⟨_, by rw [q, if_neg (by decide), if_neg (by decide), if_pos rfl], y_cut2 a3⟩
          · exact ⟨_, by rw [q, if_neg (by decide), if_neg (by decide), if_neg (by decide)], y_cut3 a3⟩
        obtain ⟨x, p1, p2⟩ := put
        have hsl : y_ro (j_sl σ d i x) (j_sl τ 96 (60 * s + i) x) s c d n w := by
          refine ⟨hc, hn, hw, r1, r2, r3, r4, fun j hj => ?_⟩
          by_cases e : j = i
          · subst e; rw [j_l_eq, j_l_eq]
          · rw [j_l_nj e, j_l_nj (by omega)]; exact r5 j hj
        refine ⟨0, j_sl σ d i x, j_sl τ 96 (60 * s + i) x, ?_, ?_, y_slots hR hc ⟨fun _ _ => rfl, fun y hy => funext fun j => j_l_ne hy, fun _ _ _ => rfl, fun y hy _ => funext fun j => j_l_ne hy, fun _ _ => ⟨rfl, rfl⟩, fun j hj => j_l_nj (by omega)⟩ hsl.sl⟩
        · unfold f_X11_write f_X8_isMade
          rcases hc with ⟨rfl, rfl, rfl⟩ | ⟨rfl, rfl, rfl⟩ | ⟨rfl, rfl, rfl⟩ | ⟨rfl, rfl, rfl⟩
          · simp (disch := omega) only [y_lit, y_n1, nI_add, pk_mul, j_lt, j_b1_s, j_b2_s, j_b3_s, j_b0_s, y_bo, y_bo1, y_bo0, y_i0, y_i1, Classical.not_not, nI_clamp, y_ix, y_lt, y_le, y_eq, y_nP, y_nPs, y_ltP, y_ltQ, y_ltPP, y_eqP, y_eqQ, y_eqPP, if_pos, if_neg, ite_true, ite_false, not_true_eq_false, not_false_eq_true, and_true, true_and, and_false, false_and, or_true, true_or, or_false, false_or, yc_isSlot, y_rn, r1, p1]
          · simp (disch := omega) only [y_lit, y_n1, nI_add, pk_mul, j_lt, j_b1_s, j_b2_s, j_b3_s, j_b0_s, y_bo, y_bo1, y_bo0, y_i0, y_i1, Classical.not_not, nI_clamp, y_ix, y_lt, y_le, y_eq, y_nP, y_nPs, y_ltP, y_ltQ, y_ltPP, y_eqP, y_eqQ, y_eqPP, if_pos, if_neg, ite_true, ite_false, not_true_eq_false, not_false_eq_true, and_true, true_and, and_false, false_and, or_true, true_or, or_false, false_or, yc_isSlot, y_rn, r1, p1]
          · simp (disch := omega) only [y_lit, y_n1, nI_add, pk_mul, j_lt, j_b1_s, j_b2_s, j_b3_s, j_b0_s, y_bo, y_bo1, y_bo0, y_i0, y_i1, Classical.not_not, nI_clamp, y_ix, y_lt, y_le, y_eq, y_nP, y_nPs, y_ltP, y_ltQ, y_ltPP, y_eqP, y_eqQ, y_eqPP, if_pos, if_neg, ite_true, ite_false, not_true_eq_false, not_false_eq_true, and_true, true_and, and_false, false_and, or_true, true_or, or_false, false_or, yc_isSlot, y_rn, r1, p1]
          · simp (disch := omega) only [y_lit, y_n1, nI_add, pk_mul, j_lt, j_b1_s, j_b2_s, j_b3_s, j_b0_s, y_bo, y_bo1, y_bo0, y_i0, y_i1, Classical.not_not, nI_clamp, y_ix, y_lt, y_le, y_eq, y_nP, y_nPs, y_ltP, y_ltQ, y_ltPP, y_eqP, y_eqQ, y_eqPP, if_pos, if_neg, ite_true, ite_false, not_true_eq_false, not_false_eq_true, and_true, true_and, and_false, false_and, or_true, true_or, or_false, false_or, yc_isSlot, y_rn, r1, p1]
        · unfold f_X12_write; simp (disch := omega) only [y_lit, y_n1, nI_add, pk_mul, j_lt, j_b1_s, j_b2_s, j_b3_s, j_b0_s, y_bo, y_bo1, y_bo0, y_i0, y_i1, Classical.not_not, nI_clamp, y_ix, y_lt, y_le, y_eq, y_nP, y_nPs, y_ltP, y_ltQ, y_ltPP, y_eqP, y_eqQ, y_eqPP, if_pos, if_neg, ite_true, ite_false, not_true_eq_false, not_false_eq_true, and_true, true_and, and_false, false_and, or_true, true_or, or_false, false_or, ym_isSlot, y_rn, r2, r4, y_lit64, y_in, p2]
      · refine ⟨-7, σ, τ, ?_, ?_, hR⟩
        · have q : a2 < nI 0 ∨ ¬ a2 < nI n := (y_c4 (by omega)).mpr h2
          unfold f_X11_write f_X8_isMade
          rcases hc with ⟨rfl, rfl, rfl⟩ | ⟨rfl, rfl, rfl⟩ | ⟨rfl, rfl, rfl⟩ | ⟨rfl, rfl, rfl⟩
          · simp (disch := omega) only [y_lit, y_n1, nI_add, pk_mul, j_lt, j_b1_s, j_b2_s, j_b3_s, j_b0_s, y_bo, y_bo1, y_bo0, y_i0, y_i1, Classical.not_not, nI_clamp, y_ix, y_lt, y_le, y_eq, y_nP, y_nPs, y_ltP, y_ltQ, y_ltPP, y_eqP, y_eqQ, y_eqPP, if_pos, if_neg, ite_true, ite_false, not_true_eq_false, not_false_eq_true, and_true, true_and, and_false, false_and, or_true, true_or, or_false, false_or, yc_isSlot, y_rn, r1]
            rcases q with q | q
            · rw [if_neg (fun z => z q)]
            · rw [if_pos q]; split <;> rfl
          · simp (disch := omega) only [y_lit, y_n1, nI_add, pk_mul, j_lt, j_b1_s, j_b2_s, j_b3_s, j_b0_s, y_bo, y_bo1, y_bo0, y_i0, y_i1, Classical.not_not, nI_clamp, y_ix, y_lt, y_le, y_eq, y_nP, y_nPs, y_ltP, y_ltQ, y_ltPP, y_eqP, y_eqQ, y_eqPP, if_pos, if_neg, ite_true, ite_false, not_true_eq_false, not_false_eq_true, and_true, true_and, and_false, false_and, or_true, true_or, or_false, false_or, yc_isSlot, y_rn, r1]
            rcases q with q | q
            · rw [if_neg (fun z => z q)]
            · rw [if_pos q]; split <;> rfl
          · simp (disch := omega) only [y_lit, y_n1, nI_add, pk_mul, j_lt, j_b1_s, j_b2_s, j_b3_s, j_b0_s, y_bo, y_bo1, y_bo0, y_i0, y_i1, Classical.not_not, nI_clamp, y_ix, y_lt, y_le, y_eq, y_nP, y_nPs, y_ltP, y_ltQ, y_ltPP, y_eqP, y_eqQ, y_eqPP, if_pos, if_neg, ite_true, ite_false, not_true_eq_false, not_false_eq_true, and_true, true_and, and_false, false_and, or_true, true_or, or_false, false_or, yc_isSlot, y_rn, r1]
            rcases q with q | q
            · rw [if_neg (fun z => z q)]
            · rw [if_pos q]; split <;> rfl
          · simp (disch := omega) only [y_lit, y_n1, nI_add, pk_mul, j_lt, j_b1_s, j_b2_s, j_b3_s, j_b0_s, y_bo, y_bo1, y_bo0, y_i0, y_i1, Classical.not_not, nI_clamp, y_ix, y_lt, y_le, y_eq, y_nP, y_nPs, y_ltP, y_ltQ, y_ltPP, y_eqP, y_eqQ, y_eqPP, if_pos, if_neg, ite_true, ite_false, not_true_eq_false, not_false_eq_true, and_true, true_and, and_false, false_and, or_true, true_or, or_false, false_or, yc_isSlot, y_rn, r1]
            rcases q with q | q
            · rw [if_neg (fun z => z q)]
            · rw [if_pos q]; split <;> rfl
        · unfold f_X12_write; simp (disch := omega) only [y_lit, y_n1, nI_add, pk_mul, j_lt, j_b1_s, j_b2_s, j_b3_s, j_b0_s, y_bo, y_bo1, y_bo0, y_i0, y_i1, Classical.not_not, nI_clamp, y_ix, y_lt, y_le, y_eq, y_nP, y_nPs, y_ltP, y_ltQ, y_ltPP, y_eqP, y_eqQ, y_eqPP, if_pos, if_neg, ite_true, ite_false, not_true_eq_false, not_false_eq_true, and_true, true_and, and_false, false_and, or_true, true_or, or_false, false_or, ym_isSlot, y_rn, r2, y_lit64, y_in, y_c2, h2]
  · refine ⟨-2, σ, τ, ?_, ?_, hR⟩
    · unfold f_X11_write; simp (disch := omega) only [y_lit, y_n1, nI_add, pk_mul, j_lt, j_b1_s, j_b2_s, j_b3_s, j_b0_s, y_bo, y_bo1, y_bo0, y_i0, y_i1, Classical.not_not, nI_clamp, y_ix, y_lt, y_le, y_eq, y_nP, y_nPs, y_ltP, y_ltQ, y_ltPP, y_eqP, y_eqQ, y_eqPP, if_pos, if_neg, ite_true, ite_false, not_true_eq_false, not_false_eq_true, and_true, true_and, and_false, false_and, or_true, true_or, or_false, false_or, yc_isSlot, h]
    · unfold f_X12_write; simp (disch := omega) only [y_lit, y_n1, nI_add, pk_mul, j_lt, j_b1_s, j_b2_s, j_b3_s, j_b0_s, y_bo, y_bo1, y_bo0, y_i0, y_i1, Classical.not_not, nI_clamp, y_ix, y_lt, y_le, y_eq, y_nP, y_nPs, y_ltP, y_ltQ, y_ltPP, y_eqP, y_eqQ, y_eqPP, if_pos, if_neg, ite_true, ite_false, not_true_eq_false, not_false_eq_true, and_true, true_and, and_false, false_and, or_true, true_or, or_false, false_or, ym_isSlot, h]
end Z
