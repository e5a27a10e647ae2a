/-! ===== a player taken, a game dealt ===== -/
def y_pq (b : Nat → Nat) (p : Nat) : Nat → Nat := fun j => b (96 + 5 * p + j)
def y_k1 : Nat → Nat := fun _ => 1
theorem y_mkC : y_mk (nP 0) y_k1 := by
  have : ∀ h, h < 12 → ((nP 0 >>> (nI h &&& nI 31)) &&& nI 1) = nI 1 := by decide
  exact fun h hh => ⟨this h hh, Nat.le_refl _⟩
theorem y_mkM : y_mk (nI 4095) y_k1 := by
  have : ∀ h, h < 12 → ((nI 4095 >>> (nI h &&& nI 31)) &&& nI 1) = nI 1 := by decide
  exact fun h hh => ⟨this h hh, Nat.le_refl _⟩
theorem y_pqv {b : Nat → Nat} (hW : y_W b) {p : Nat} (hp : p < b 6) : y_vq b (y_pq b p) := by
  have h := hW.pl hp
  unfold y_pq
  refine ⟨h.2.1, ?_, ?_, ?_, ?_⟩
  · show b (96 + 5 * p + 1) ≤ 40; rw [show 96 + 5 * p + 1 = 97 + 5 * p from by omega]; omega
  · show b (96 + 5 * p + 2) ≤ 99; rw [show 96 + 5 * p + 2 = 98 + 5 * p from by omega]; omega
  · show b (96 + 5 * p + 3) ≤ 9; rw [show 96 + 5 * p + 3 = 99 + 5 * p from by omega]; omega
  · show b (96 + 5 * p + 4) < _; rw [show 96 + 5 * p + 4 = 100 + 5 * p from by omega]; omega
theorem yc_trait_si {x y v : Int32} {c j : Nat} {σ : j_G} (hc : c ≠ 4) : f_X2_trait x y (j_si σ c j v) = f_X2_trait x y σ := by
  unfold f_X2_trait
  have e : ∀ j', (j_si σ c j v).1 4 j' = σ.1 4 j' := fun j' => j_r_ne (fun z => hc z.symm)
  simp only [e]
theorem ym_of_si {x y v : Int32} {c j : Nat} {σ : j_G} (hc : c ≠ 76) : f_X12_of x y (j_si σ c j v) = f_X12_of x y σ := by
  unfold f_X12_of
  have e : ∀ j', (j_si σ c j v).1 76 j' = σ.1 76 j' := fun j' => j_r_ne (fun z => hc z.symm)
  simp only [e]
section Z
variable {σ τ : j_G} {b g : Nat → Nat} {p a : Nat}
theorem yc_take (hN : y_N σ b) (hW : y_W b) (hp : p < b 6) (ha : 20 < a) : ∃ σ', f_X6_take a (nI p) σ = some σ' ∧ y_cp σ' a (y_pq b p) ∧ y_fr a a σ σ' := by
  unfold f_X6_take
  simp (disch := omega) only [y_lit, y_n1, nI_add, pk_mul, j_lt, j_b1_s, j_b2_s, j_b3_s, j_b0_s, y_bo, y_bo1, y_bo0, y_i0, y_i1, Classical.not_not, nI_clamp, y_ix, y_lt, y_le, y_eq, y_nP, y_nPs, y_ltP, y_ltQ, y_ltPP, y_eqP, y_eqQ, y_eqPP, if_pos, if_neg, ite_true, ite_false, not_true_eq_false, not_false_eq_true, and_true, true_and, and_false, false_and, or_true, true_or, or_false, false_or, yc_trait_si, yc_trait hN hW hp]
  refine ⟨_, rfl, fun j hj => ?_, ((((y_fr.refl.si (by omega) (by omega)).si (by omega) (by omega)).si (by omega) (by omega)).si (by omega) (by omega)).si (by omega) (by omega)⟩
  obtain rfl | rfl | rfl | rfl | rfl : j = 0 ∨ j = 1 ∨ j = 2 ∨ j = 3 ∨ j = 4 := by omega
  · simp (disch := omega) only [j_r_ne, j_r_eq, j_r_nj]; rfl
  · simp (disch := omega) only [j_r_ne, j_r_eq, j_r_nj]; rfl
  · simp (disch := omega) only [j_r_ne, j_r_eq, j_r_nj]; rfl
  · simp (disch := omega) only [j_r_ne, j_r_eq, j_r_nj]; rfl
  · simp (disch := omega) only [j_r_ne, j_r_eq, j_r_nj]; rfl
theorem ym_told (hM : y_M τ b) (hW : y_W b) (hp : p < b 6) : ∃ τ', f_X12_asTold (nI p) τ = some τ' ∧ y_mp τ' b p (y_pq b p) ∧ τ'.1 75 23 = nI 4095 ∧ τ'.1 75 24 = nI 0 ∧ y_fm 19 24 80 79 τ τ' := by
  have h6 := hW.b6
  unfold f_X12_asTold
  simp (disch := omega) only [y_lit, y_n1, nI_add, pk_mul, j_lt, j_b1_s, j_b2_s, j_b3_s, j_b0_s, y_bo, y_bo1, y_bo0, y_i0, y_i1, Classical.not_not, nI_clamp, y_ix, y_lt, y_le, y_eq, y_nP, y_nPs, y_ltP, y_ltQ, y_ltPP, y_eqP, y_eqQ, y_eqPP, if_pos, if_neg, ite_true, ite_false, not_true_eq_false, not_false_eq_true, and_true, true_and, and_false, false_and, or_true, true_or, or_false, false_or, ym_of_si, ym_of hM]
  refine ⟨_, rfl, ⟨?_, ?_, ?_, ?_, hp, rfl, ?_⟩, ?_, ?_, (((((y_fm.refl.so (by omega) (by omega)).so (by omega) (by omega)).so (by omega) (by omega)).so (by omega) (by omega)).so (by omega) (by omega)).so (by omega) (by omega)⟩
  · simp (disch := omega) only [j_r_ne, j_r_eq, j_r_nj]
  · simp (disch := omega) only [j_r_ne, j_r_eq, j_r_nj]; rfl
  · simp (disch := omega) only [j_r_ne, j_r_eq, j_r_nj]; rfl
  · simp (disch := omega) only [j_r_ne, j_r_eq, j_r_nj]; rfl
  · show b (98 + 5 * p) = b (96 + 5 * p + 2); congr 1; omega
  · simp (disch := omega) only [j_r_ne, j_r_eq, j_r_nj]
  · simp (disch := omega) only [j_r_ne, j_r_eq, j_r_nj]
theorem yc_dealt (hN : y_N σ b) (hW : y_W b) : ∃ σ', f_X4_deal (σ.1 5 1) σ = some σ' ∧ y_cg σ' b (y_gs b) (y_dg b (b 8)) ∧ y_fr 22 27 σ σ' := by
  rw [hN.d1]
  refine yc_deal hN hW ?_
  have := hW.2.2.2.1
  omega
/-- what is there behind makeReady -/
def y_rdy (σ : j_G) (b : Nat → Nat) (p : Nat) : Prop := y_N σ b ∧ y_cg σ b (y_gs b) (y_dg b (b 8)) ∧ y_cp σ 28 (y_pq b p)
theorem yc_ready (hN : y_N σ b) (hW : y_W b) (hp : p < b 6) : ∃ σ', f_X11_makeReady (nI p) σ = some (nI 1, σ') ∧ y_rdy σ' b p ∧ y_fr 22 41 σ σ' := by
  have h6 := hW.b6
  obtain ⟨σ1, e1, e2, e3⟩ := yc_dealt hN hW
  have hN1 := hN.fr e3 (by omega)
  obtain ⟨σ2, f1, f2, f3⟩ := yc_take (a := 28) hN1 hW hp (by omega)
  unfold f_X11_makeReady
  simp (disch := omega) only [y_lit, y_n1, nI_add, pk_mul, j_lt, j_b1_s, j_b2_s, j_b3_s, j_b0_s, y_bo, y_bo1, y_bo0, y_i0, y_i1, Classical.not_not, nI_clamp, y_ix, y_lt, y_le, y_eq, y_nP, y_nPs, y_ltP, y_ltQ, y_ltPP, y_eqP, y_eqQ, y_eqPP, if_pos, if_neg, ite_true, ite_false, not_true_eq_false, not_false_eq_true, and_true, true_and, and_false, false_and, or_true, true_or, or_false, false_or, yc_isPlayer hN hW, y_rn]
  rw [e1, j_b1_s, f1]
  exact ⟨σ2, rfl, ⟨hN1.fr f3 (by omega), e2.fr f3 (by omega), f2⟩, (e3.wide (by omega) (by omega)).trans (f3.wide (by omega) (by omega))⟩
theorem yc_unready (hN : y_N σ b) (hW : y_W b) {x : Int32} (hx : ¬ y_rg x (b 6)) : f_X11_makeReady x σ = some (nI 0, σ) := by
  unfold f_X11_makeReady
  rw [yc_isPlayer hN hW, if_neg hx]
  rfl
/-- the run of one's own -/
def y_own (b : Nat → Nat) (p : Nat) : Nat → Nat := y_run b (y_dg b (b 8)) (y_pq b p) y_k1 0 (y_gs b)
theorem yc_runOf (hN : y_N σ b) (hW : y_W b) (hp : p < b 6) : ∃ σ', f_X11_runOf (nI p) σ = some (nI 1, σ') ∧ y_rdy σ' b p ∧ y_cr σ' (y_own b p) (y_gs b) ∧ y_fr 22 41 σ σ' := by
  have h9 := hW.on0 (Or.inr (Or.inr (Or.inr (Or.inl (by omega : 0 < b 6)))))
  obtain ⟨σ1, e1, ⟨e2, e3, e4⟩, e5⟩ := yc_ready hN hW hp
  obtain ⟨σ2, f1, f2, f3⟩ := yc_good e2 hW h9 e3 (y_dg_vg hW _) e4 (by omega) (y_pqv hW hp) y_mkC
  unfold f_X11_runOf
  rw [e1]
  simp only [j_b2_s, y_lit, if_neg (show ¬ nI 1 = nI 0 from by decide)]
  rw [y_n1, f1]
  exact ⟨σ2, rfl, ⟨e2.fr f3 (by omega), e3.fr f3 (by omega), e4.fr f3 (by omega)⟩, f2, e5.trans (f3.wide (by omega) (by omega))⟩
theorem yc_unrun (hN : y_N σ b) (hW : y_W b) {x : Int32} (hx : ¬ y_rg x (b 6)) : f_X11_runOf x σ = some (nI 0, σ) := by
  unfold f_X11_runOf
  rw [yc_unready hN hW hx]
  rfl
/-- what is there behind lay -/
def y_ldy (τ : j_G) (b : Nat → Nat) : Prop := y_M τ b ∧ y_mg τ b (y_gs b) (y_dg b (b 8))
theorem ym_laid (hM : y_M τ b) (hW : y_W b) : ∃ τ', f_X12_lay τ = some τ' ∧ y_ldy τ' b ∧ y_fm 18 42 80 93 τ τ' := by
  obtain ⟨τ1, e1, e2, e3⟩ := ym_lay hM hW
  exact ⟨τ1, e1, ⟨hM.fr e3 (by omega), e2⟩, e3.wide (by omega) (by omega) (by omega) (by omega)⟩
theorem y_ldy.fr {τ τ' : j_G} {f h lo hi : Nat} (hl : y_ldy τ b) (hf : y_fm f h lo hi τ τ') (h1 : 19 ≤ f) (h2 : 85 ≤ lo ∨ hi < lo ∧ hi ≤ 80 ∧ 77 ≤ lo) : y_ldy τ' b := by
  obtain ⟨hM, hg⟩ := hl
  have e : ∀ c, c ≠ 75 → (c = 76 ∨ c = 82 ∨ c = 83 ∨ c = 84) → τ'.1 c = τ.1 c := fun c hn hc => (hf.2 c hn (by omega)).1
  refine ⟨?_, ?_⟩
  · unfold y_M; rw [e 76 (by omega) (by omega)]; exact hM
  · unfold y_mg at *
    rw [e 82 (by omega) (by omega), e 83 (by omega) (by omega), e 84 (by omega) (by omega), hf.1 18 (by omega)]
    exact hg
/-- the reference's run with one of the player's numbers told otherwise -/
theorem ym_runq {q k : Nat → Nat} {red : Nat} {τ1 : j_G} (hL : y_ldy τ1 b) (hW : y_W b) (hp : p < b 6) (hmp : y_mp τ1 b p q) (hq : y_vq b q) (hk : y_mk (τ1.1 75 23) k) (hred : red ≤ 1) (hd : τ1.1 75 24 = nI red) : ∃ τ', f_X12_run τ1 = some τ' ∧ y_mr τ' (y_run b (y_dg b (b 8)) q k red (y_gs b)) (y_gs b) ∧ y_ldy τ' b ∧ y_mp τ' b p q ∧ y_fm 29 33 85 88 τ1 τ' := by
  have h9 := hW.on0 (Or.inr (Or.inr (Or.inr (Or.inl (by omega : 0 < b 6)))))
  obtain ⟨τ2, e1, e2, e3⟩ := ym_run hL.1 hW h9 hL.2 (y_dg_vg hW _) hmp hq hk hred hd
  exact ⟨τ2, e1, e2, hL.fr e3 (by omega) (by omega), hmp.fr e3 (by omega), e3⟩
theorem ym_ras (hM : y_M τ b) (hW : y_W b) (hp : p < b 6) : ∃ τ', f_X12_runAsTold (nI p) τ = some τ' ∧ y_ldy τ' b ∧ y_mr τ' (y_own b p) (y_gs b) ∧ τ'.1 75 22 = nI (b (96 + 5 * p + 4)) ∧ y_fm 18 42 80 93 τ τ' := by
  obtain ⟨τ1, e1, e2, e3⟩ := ym_laid hM hW
  obtain ⟨τ2, f1, f2, f3, f4, f5⟩ := ym_told e2.1 hW hp
  obtain ⟨τ3, g1, g2, g3, g4, g5⟩ := ym_runq (k := y_k1) (red := 0) (e2.fr f5 (by omega) (by omega)) hW hp f2 (y_pqv hW hp) (by rw [f3]; exact y_mkM) (by omega) f4
  unfold f_X12_runAsTold
  rw [e1, j_b1_s, f1, j_b1_s, g1]
  exact ⟨τ3, rfl, g3, g2, g4.2.2.2.1, e3.trans ((f5.wide (by omega) (by omega) (by omega) (by omega)).trans (g5.wide (by omega) (by omega) (by omega) (by omega)))⟩
end Z
