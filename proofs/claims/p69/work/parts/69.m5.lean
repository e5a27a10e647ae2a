/-! ===== runs with a number told otherwise ===== -/
theorem y_uu {q : Nat → Nat} {k x z : Nat} : y_u (y_u q k x) k z = y_u q k z := by
  funext j
  unfold y_u
  split <;> rfl
theorem y_uid {q : Nat → Nat} {k : Nat} : y_u q k (q k) = q := by
  funext j
  unfold y_u
  split
  · rename_i h; rw [h]
  · rfl
/-- hits of a run with such numbers -/
def y_H (b q : Nat → Nat) : Nat := y_run b (y_dg b (b 8)) q y_k1 0 (y_gs b) 0
def y_ra (σ : j_G) (b q : Nat → Nat) : Prop := y_N σ b ∧ y_cg σ b (y_gs b) (y_dg b (b 8)) ∧ y_cp σ 28 q
theorem y_vq1 {b q : Nat → Nat} (h : y_vq b q) {n : Nat} (hn : n ≤ 40) : y_vq b (y_u q 1 n) := by
  obtain ⟨h0, h1, h2, h3, h4⟩ := h
  unfold y_vq; simp (disch := omega) only [y_ue, y_un]; exact ⟨h0, hn, h2, h3, h4⟩
theorem y_vq3 {b q : Nat → Nat} (h : y_vq b q) {n : Nat} (hn : n ≤ 9) : y_vq b (y_u q 3 n) := by
  obtain ⟨h0, h1, h2, h3, h4⟩ := h
  unfold y_vq; simp (disch := omega) only [y_ue, y_un]; exact ⟨h0, h1, h2, hn, h4⟩
theorem y_vq4 {b q : Nat → Nat} (h : y_vq b q) {n : Nat} (hn : n < y_ho b) : y_vq b (y_u q 4 n) := by
  obtain ⟨h0, h1, h2, h3, h4⟩ := h
  unfold y_vq; simp (disch := omega) only [y_ue, y_un]; exact ⟨h0, h1, h2, h3, hn⟩
theorem y_H_le {b q : Nat → Nat} (hW : y_W b) (hq : y_vq b q) : y_H b q ≤ 120 := (y_run_br hW (y_dg_vg hW _) hq).1
theorem y_cp_u {σ : j_G} {q : Nat → Nat} {a k n : Nat} (h : y_cp σ a q) : y_cp (j_si σ a k (nI n)) a (y_u q k n) := by
  intro j hj
  by_cases e : j = k
  · subst e; rw [j_r_eq, y_ue]
  · rw [j_r_nj e, y_un e]; exact h j hj
section Z
variable {σ τ : j_G} {b q : Nat → Nat} {p k n : Nat}
theorem y_ra.set (h : y_ra σ b q) : y_ra (j_si σ 28 k (nI n)) b (y_u q k n) := by
  obtain ⟨h1, h2, h3⟩ := h
  have f : y_fr 28 28 σ (j_si σ 28 k (nI n)) := y_fr.refl.si (by omega) (by omega)
  exact ⟨h1.fr f (by omega), h2.fr f (by omega), y_cp_u h3⟩
theorem yc_ra (h : y_ra σ b q) (hW : y_W b) (h9 : 0 < b 9) (hq : y_vq b q) : ∃ σ', f_X9_good 30 28 22 31 32 25 23 24 26 33 34 (nP 0) σ = some (nI (y_H b q), σ') ∧ y_ra σ' b q ∧ y_fr 28 34 σ σ' := by
  obtain ⟨h1, h2, h3⟩ := h
  obtain ⟨σ2, f1, f2, f3⟩ := yc_good h1 hW h9 h2 (y_dg_vg hW _) h3 (by omega) hq y_mkC
  exact ⟨σ2, f1, ⟨h1.fr f3 (by omega), h2.fr f3 (by omega), h3.fr f3 (by omega)⟩, f3.wide (by omega) (by omega)⟩
theorem yc_know (h : y_ra σ b q) (hW : y_W b) (h9 : 0 < b 9) (hq : y_vq b q) (hn : n ≤ 9) : ∃ σ', f_X11_hitsKnowing (nI n) σ = some (nI (y_H b (y_u q 3 n)), σ') ∧ y_ra σ' b (y_u q 3 n) ∧ y_fr 28 34 σ σ' := by
  obtain ⟨σ2, f1, f2, f3⟩ := yc_ra (h.set (k := 3) (n := n)) hW h9 (y_vq3 hq hn)
  unfold f_X11_hitsKnowing
  simp only [j_lt]; rw [y_m1, f1]
  exact ⟨σ2, rfl, f2, (y_fr.refl.si (by omega) (by omega)).trans f3⟩
theorem yc_lagg (h : y_ra σ b q) (hW : y_W b) (h9 : 0 < b 9) (hq : y_vq b q) (hn : n ≤ 40) : ∃ σ', f_X11_hitsLagging (nI n) σ = some (nI (y_H b (y_u q 1 n)), σ') ∧ y_ra σ' b (y_u q 1 n) ∧ y_fr 28 34 σ σ' := by
  obtain ⟨σ2, f1, f2, f3⟩ := yc_ra (h.set (k := 1) (n := n)) hW h9 (y_vq1 hq hn)
  unfold f_X11_hitsLagging
  simp only [j_lt]; rw [y_m1, f1]
  exact ⟨σ2, rfl, f2, (y_fr.refl.si (by omega) (by omega)).trans f3⟩
theorem yc_look (h : y_ra σ b q) (hW : y_W b) (h9 : 0 < b 9) (hq : y_vq b q) (hn : n ≤ 40) : ∃ σ', f_X11_lookPoints (nI n) σ = some (nI (10 * y_H b (y_u (y_u q 1 n) 3 0)), σ') ∧ y_ra σ' b (y_u (y_u q 1 n) 3 0) ∧ y_fr 28 34 σ σ' := by
  obtain ⟨σ2, f1, f2, f3⟩ := yc_ra ((h.set (k := 1) (n := n)).set (k := 3) (n := 0)) hW h9 (y_vq3 (y_vq1 hq hn) (by omega))
  unfold f_X11_lookPoints
  simp only [j_lt, y_lit]; rw [y_n1, f1]
  refine ⟨σ2, ?_, f2, ((y_fr.refl.si (by omega) (by omega)).si (by omega) (by omega)).trans f3⟩
  rw [j_b2_s, pk_mul]
/-- the reference's run behind asTold with changes -/
theorem ym_asked {τ1 : j_G} (hL : y_ldy τ b) (hW : y_W b) (hp : p < b 6) (hq : y_vq b q) (hf : y_fm 18 42 80 81 τ τ1) (h18 : τ1.1 75 18 = τ.1 75 18) (hmp : y_mp τ1 b p q) (h23 : τ1.1 75 23 = nI 4095) (h24 : τ1.1 75 24 = nI 0) : ∃ τ', f_X12_run τ1 = some τ' ∧ τ'.1 75 29 = nI (y_H b q) ∧ y_ldy τ' b ∧ y_fm 18 42 80 93 τ τ' := by
  have hL1 : y_ldy τ1 b := by
    obtain ⟨hM, hg⟩ := hL
    refine ⟨hM.fr hf (by omega), ?_⟩
    unfold y_mg at *
    rw [(hf.2 82 (by omega) (by omega)).1, (hf.2 83 (by omega) (by omega)).1, (hf.2 84 (by omega) (by omega)).1, h18]
    exact hg
  obtain ⟨τ2, e1, e2, e3, e4, e5⟩ := ym_runq (k := y_k1) (red := 0) hL1 hW hp hmp hq (by rw [h23]; exact y_mkM) (by omega) h24
  exact ⟨τ2, e1, e2.1.1, e3, (hf.wide (by omega) (by omega) (by omega) (by omega)).trans (e5.wide (by omega) (by omega) (by omega) (by omega))⟩
theorem ym_know (hL : y_ldy τ b) (hW : y_W b) (hp : p < b 6) (hn : n ≤ 9) : ∃ τ', f_X12_learnsBy (nI p) (nI n) τ = some (nI (y_H b (y_u (y_pq b p) 3 n)), τ') ∧ y_ldy τ' b ∧ y_fm 18 42 80 93 τ τ' := by
  obtain ⟨τ1, g1, ⟨m0, m1, m2, m3, m4, m5, m6⟩, g3, g4, g5⟩ := ym_told hL.1 hW hp
  obtain ⟨τ2, e1, e2, e3, e4⟩ := ym_asked (τ1 := j_si τ1 75 21 (nI n)) (p := p) (q := y_u (y_pq b p) 3 n) hL hW hp (y_vq3 (y_pqv hW hp) hn) ((g5.wide (by omega) (by omega) (by omega) (by omega)).trans (y_fm.refl.so (by omega) (by omega))) (by simp (disch := omega) only [j_r_ne, j_r_eq, j_r_nj]; exact g5.1 18 (by omega)) (by unfold y_mp; simp (disch := omega) only [j_r_ne, j_r_eq, j_r_nj, y_ue, y_un]; exact ⟨m0, m1, trivial, m3, m4, m5, m6⟩) (by simp (disch := omega) only [j_r_ne, j_r_eq, j_r_nj]; exact g3) (by simp (disch := omega) only [j_r_ne, j_r_eq, j_r_nj]; exact g4)
  unfold f_X12_learnsBy
  rw [g1]; simp only [j_b1_s, j_lt]; rw [e1]
  exact ⟨τ2, by rw [j_b1_s, e2], e3, e4⟩
theorem ym_lagg (hL : y_ldy τ b) (hW : y_W b) (hp : p < b 6) (hn : n ≤ 40) : ∃ τ', f_X12_lagging (nI p) (nI n) τ = some (nI (y_H b (y_u (y_pq b p) 1 n)), τ') ∧ y_ldy τ' b ∧ y_fm 18 42 80 93 τ τ' := by
  obtain ⟨τ1, g1, ⟨m0, m1, m2, m3, m4, m5, m6⟩, g3, g4, g5⟩ := ym_told hL.1 hW hp
  obtain ⟨τ2, e1, e2, e3, e4⟩ := ym_asked (τ1 := j_si τ1 75 20 (nI n)) (p := p) (q := y_u (y_pq b p) 1 n) hL hW hp (y_vq1 (y_pqv hW hp) hn) ((g5.wide (by omega) (by omega) (by omega) (by omega)).trans (y_fm.refl.so (by omega) (by omega))) (by simp (disch := omega) only [j_r_ne, j_r_eq, j_r_nj]; exact g5.1 18 (by omega)) (by unfold y_mp; simp (disch := omega) only [j_r_ne, j_r_eq, j_r_nj, y_ue, y_un]; exact ⟨m0, trivial, m2, m3, m4, m5, m6⟩) (by simp (disch := omega) only [j_r_ne, j_r_eq, j_r_nj]; exact g3) (by simp (disch := omega) only [j_r_ne, j_r_eq, j_r_nj]; exact g4)
  unfold f_X12_lagging
  rw [g1]; simp only [j_b1_s, j_lt]; rw [e1]
  exact ⟨τ2, by rw [j_b1_s, e2], e3, e4⟩
theorem ym_wait (hL : y_ldy τ b) (hW : y_W b) (hp : p < b 6) (hn : n < y_ho b) : ∃ τ', f_X12_waitingAt (nI p) (nI n) τ = some (nI (y_H b (y_u (y_pq b p) 4 n)), τ') ∧ y_ldy τ' b ∧ y_fm 18 42 80 93 τ τ' := by
  obtain ⟨τ1, g1, ⟨m0, m1, m2, m3, m4, m5, m6⟩, g3, g4, g5⟩ := ym_told hL.1 hW hp
  obtain ⟨τ2, e1, e2, e3, e4⟩ := ym_asked (τ1 := j_si τ1 75 22 (nI n)) (p := p) (q := y_u (y_pq b p) 4 n) hL hW hp (y_vq4 (y_pqv hW hp) hn) ((g5.wide (by omega) (by omega) (by omega) (by omega)).trans (y_fm.refl.so (by omega) (by omega))) (by simp (disch := omega) only [j_r_ne, j_r_eq, j_r_nj]; exact g5.1 18 (by omega)) (by unfold y_mp; simp (disch := omega) only [j_r_ne, j_r_eq, j_r_nj, y_ue, y_un]; exact ⟨m0, m1, m2, trivial, m4, m5, m6⟩) (by simp (disch := omega) only [j_r_ne, j_r_eq, j_r_nj]; exact g3) (by simp (disch := omega) only [j_r_ne, j_r_eq, j_r_nj]; exact g4)
  unfold f_X12_waitingAt
  rw [g1]; simp only [j_b1_s, j_lt]; rw [e1]
  exact ⟨τ2, by rw [j_b1_s, e2], e3, e4⟩
theorem ym_look (hL : y_ldy τ b) (hW : y_W b) (hp : p < b 6) (hn : n ≤ 20) : ∃ τ', f_X12_lookOf (nI p) (nI n) τ = some (nI (10 * y_H b (y_u (y_u (y_pq b p) 1 (y_pq b p 1 + n)) 3 0)), τ') ∧ y_ldy τ' b ∧ y_fm 18 42 80 93 τ τ' := by
  have q1 : y_pq b p 1 ≤ 20 := by
    have h := hW.pl hp
    show b (96 + 5 * p + 1) ≤ 20; rw [show 96 + 5 * p + 1 = 97 + 5 * p from by omega]; omega
  obtain ⟨τ1, g1, ⟨m0, m1, m2, m3, m4, m5, m6⟩, g3, g4, g5⟩ := ym_told hL.1 hW hp
  obtain ⟨τ2, e1, e2, e3, e4⟩ := ym_asked (τ1 := j_si (j_si τ1 75 20 (nI (y_pq b p 1 + n))) 75 21 (nI 0)) (p := p) (q := y_u (y_u (y_pq b p) 1 (y_pq b p 1 + n)) 3 0) hL hW hp (y_vq3 (y_vq1 (y_pqv hW hp) (by omega)) (by omega)) ((g5.wide (by omega) (by omega) (by omega) (by omega)).trans ((y_fm.refl.so (by omega) (by omega)).so (by omega) (by omega))) (by simp (disch := omega) only [j_r_ne, j_r_eq, j_r_nj]; exact g5.1 18 (by omega)) (by unfold y_mp; simp (disch := omega) only [j_r_ne, j_r_eq, j_r_nj, y_ue, y_un]; exact ⟨m0, trivial, trivial, m3, m4, m5, m6⟩) (by simp (disch := omega) only [j_r_ne, j_r_eq, j_r_nj]; exact g3) (by simp (disch := omega) only [j_r_ne, j_r_eq, j_r_nj]; exact g4)
  unfold f_X12_lookOf
  rw [g1]; simp only [j_b1_s, j_lt, y_lit, m1, nI_add]; rw [e1]
  exact ⟨τ2, by rw [j_b1_s, e2, pk_mul], e3, e4⟩
theorem ym_rashOf (hL : y_ldy τ b) (hW : y_W b) (hp : p < b 6) : ∃ τ', f_X12_rashOf (nI p) τ = some (nI 10 * (nI (y_run b (y_dg b (b 8)) (y_pq b p) y_k1 1 (y_gs b) 0) - nI (y_run b (y_dg b (b 8)) (y_pq b p) y_k1 1 (y_gs b) 4)) - nI 20 * nI (y_run b (y_dg b (b 8)) (y_pq b p) y_k1 1 (y_gs b) 4), τ') ∧ y_ldy τ' b ∧ y_fm 18 42 80 93 τ τ' := by
  obtain ⟨τ1, g1, g2, g3, g4, g5⟩ := ym_told hL.1 hW hp
  have hL1 := hL.fr g5 (by omega) (by omega)
  have f : y_fm 24 24 80 79 τ1 (j_si τ1 75 24 (nI 1)) := y_fm.refl.so (by omega) (by omega)
  obtain ⟨τ2, e1, e2, e3, e4, e5⟩ := ym_runq (k := y_k1) (red := 1) (hL1.fr f (by omega) (by omega)) hW hp (q := y_pq b p) (by obtain ⟨m0, m1, m2, m3, m4, m5, m6⟩ := g2; unfold y_mp; simp (disch := omega) only [j_r_ne, j_r_eq, j_r_nj]; exact ⟨m0, m1, m2, m3, m4, m5, m6⟩) (y_pqv hW hp) (by simp (disch := omega) only [j_r_ne, j_r_eq, j_r_nj, g3]; exact y_mkM) (by omega) (by simp (disch := omega) only [j_r_ne, j_r_eq, j_r_nj])
  unfold f_X12_rashOf
  rw [g1]; simp only [j_b1_s, j_lt, y_lit]; rw [e1]
  exact ⟨τ2, by rw [j_b1_s, e2.1.1, e2.1.2.2.2.2], e3, (g5.wide (by omega) (by omega) (by omega) (by omega)).trans ((f.wide (by omega) (by omega) (by omega) (by omega)).trans (e5.wide (by omega) (by omega) (by omega) (by omega)))⟩
end Z
