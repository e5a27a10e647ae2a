/-! ===== two: both answer ===== -/
noncomputable def y_mb2 (hs : Int32) : Nat → Nat := fun h => (hs >>> (nI h &&& nI 31)).toBitVec.toNat % 2
theorem y_mkA (hs : Int32) : y_mk hs (y_mb2 hs) := by
  intro h _
  have e : (hs >>> (nI h &&& nI 31)) &&& nI 1 = nI ((hs >>> (nI h &&& nI 31)).toBitVec.toNat % 2) := by
    rw [show nI 1 = (1 : Int32) from rfl, pk_and _ 1 (by decide)]
  exact ⟨e, by show _ % 2 ≤ 1; omega⟩
section C
variable {σ : j_G} {b g : Nat → Nat} {s : Nat}
theorem tt_gh (hc : y_cg σ b s g) (hv : y_vg b s g) (hW : y_W b) : ∃ c, f_X4_goodHoles σ = some (nI c) ∧ c < 4096 := by
  have hs := hv.1
  have key : ∀ m i n c, i + m = s → m < n → c < 4096 → ∃ c', p_X4_goodHoles_4 σ n (nI c) (nI i) = some (nI c') ∧ c' < 4096 := by
    intro m
    induction m with
    | zero =>
      intro i n c h hn hc4
      obtain ⟨n, rfl⟩ := y_pos hn
      refine ⟨c, ?_, hc4⟩
      unfold p_X4_goodHoles_4
      rw [hc.1, if_neg (by rw [y_lt (by omega) (by omega)]; omega)]
    | succ m ih =>
      intro i n c h hn hc4
      obtain ⟨n, rfl⟩ := y_pos hn
      unfold p_X4_goodHoles_4
      simp only [j_lt]
      rw [hc.1, if_pos ((y_lt (by omega) (by omega)).mpr (by omega)), y_ix (by omega) (by omega), show nI i + (1 : Int32) = nI (i + 1) by simp (disch := omega) only [y_lit, nI_add]]
      by_cases r : σ.1 25 (nI i).toNatClampNeg = 0
      · rw [if_pos r, yc_holesOf hc hv hW (by omega), j_b1_s, y_or, j_b1_s]
        exact ih (i + 1) n _ (by omega) (by omega) (Nat.or_lt_two_pow (n := 12) hc4 (y_hb_lt hW hv (by omega)))
      · rw [if_neg r, j_b1_s]
        exact ih (i + 1) n c (by omega) (by omega) hc4
  obtain ⟨c, e1, e2⟩ := key s 0 j_F 0 (by omega) (y_F (by omega)) (by omega)
  refine ⟨c, ?_, e2⟩
  unfold f_X4_goodHoles
  rw [show (0 : Int32) = nI 0 from rfl, e1, j_b1_s]
theorem tt_gi (hc : y_cg σ b s g) (hv : y_vg b s g) (hW : y_W b) (x : Int32) : ∃ v, f_X4_goodIn x σ = some v := by
  have hs := hv.1
  have key : ∀ m i n v, i + m = s → m < n → ∃ w, p_X4_goodIn_4 x σ n v (nI i) = some w := by
    intro m
    induction m with
    | zero =>
      intro i n v h hn
      obtain ⟨n, rfl⟩ := y_pos hn
      refine ⟨v, ?_⟩
      unfold p_X4_goodIn_4
      rw [hc.1, if_neg (by rw [y_lt (by omega) (by omega)]; omega)]
    | succ m ih =>
      intro i n v h hn
      obtain ⟨n, rfl⟩ := y_pos hn
      unfold p_X4_goodIn_4
      simp only [j_lt]
      rw [hc.1, if_pos ((y_lt (by omega) (by omega)).mpr (by omega)), y_ix (by omega) (by omega), show nI i + (1 : Int32) = nI (i + 1) by simp (disch := omega) only [y_lit, nI_add]]
      by_cases r : σ.1 25 (nI i).toNatClampNeg = 0
      · rw [if_pos r, yc_holesOf hc hv hW (by omega), j_b1_s, j_b1_s]
        exact ih (i + 1) n _ (by omega) (by omega)
      · rw [if_neg r, j_b1_s]
        exact ih (i + 1) n v (by omega) (by omega)
  obtain ⟨v, e1⟩ := key s 0 j_F (nI 0) (by omega) (y_F (by omega))
  refine ⟨v, ?_⟩
  unfold f_X4_goodIn
  rw [show (0 : Int32) = nI 0 from rfl, e1, j_b1_s]
theorem tt_77 (hW : y_W b) (h9 : 0 < b 9) (hv : y_vg b s g) {q q2 : Nat → Nat} {x : Int32} {c : Nat} {a : Int32} (hq : y_vq b q) (hq2 : y_vq b q2) (hc4 : c < 4096) : ∀ m k n u v (σ : j_G), k + m = c + 1 → m < n → y_N σ b → y_cg σ b s g → y_cp σ 28 q → y_cp σ 29 q2 → ∃ u' v' σ', p_X11_two_77 x (nI c) a n u v (nI k) σ = some (u', v', σ') ∧ y_fr 30 34 σ σ' := by
  intro m
  induction m with
  | zero =>
    intro k n u v σ h hn hN hg hp hp2
    obtain ⟨n, rfl⟩ := y_pos hn
    refine ⟨u, v, σ, ?_, y_fr.refl⟩
    unfold p_X11_two_77
    rw [if_neg (fun z => by have := z.1; rw [y_lt (by omega) (by omega)] at this; omega)]
  | succ m ih =>
    intro k n u v σ h hn hN hg hp hp2
    obtain ⟨n, rfl⟩ := y_pos hn
    unfold p_X11_two_77
    simp only [j_lt]
    by_cases d : ¬ nI c < nI k ∧ u < a
    · rw [if_pos d, show nI k + (1 : Int32) = nI (k + 1) by simp (disch := omega) only [y_lit, nI_add]]
      by_cases e : ¬ (nI k &&& (nI c ^^^ (-1 : Int32))) = 0
      · rw [if_pos e, j_b3_s]
        exact ih (k + 1) n u v σ (by omega) (by omega) hN hg hp hp2
      · obtain ⟨σ4, a1, a2, a3⟩ := yc_good hN hW h9 hg hv hp (by omega) hq (y_mkA (nI k))
        obtain ⟨w, b1⟩ := tt_gi (hg.fr a3 (by omega)) hv hW (nI c &&& (nI k ^^^ (-1 : Int32)))
        rw [if_neg e, a1, j_b2_s, b1, j_b1_s]
        by_cases r : u < nI (y_run b g q (y_mb2 (nI k)) 0 s 0) + w
        · obtain ⟨σ7, c1, c2, c3⟩ := yc_good (hN.fr a3 (by omega)) hW h9 (hg.fr a3 (by omega)) hv (hp2.fr a3 (by omega)) (by omega) hq2 (y_mkA (nI c &&& (nI k ^^^ (-1 : Int32))))
          have f7 := a3.trans c3
          have go : ∀ u v, ∃ u' v' σ', p_X11_two_77 x (nI c) a n u v (nI (k + 1)) σ7 = some (u', v', σ') ∧ y_fr 30 34 σ σ' := by
            intro u v
            obtain ⟨u', v', σ', g1, g2⟩ := ih (k + 1) n u v σ7 (by omega) (by omega) (hN.fr f7 (by omega)) (hg.fr f7 (by omega)) (hp.fr f7 (by omega)) (hp2.fr f7 (by omega))
            exact ⟨u', v', σ', g1, f7.trans g2⟩
          rw [if_pos r, c1, j_b2_s]
          by_cases t : u < nI (y_run b g q (y_mb2 (nI k)) 0 s 0) + nI (y_run b g q2 (y_mb2 (nI c &&& (nI k ^^^ (-1 : Int32)))) 0 s 0)
          · rw [if_pos t, j_b3_s]; exact go _ _
          · rw [if_neg t, j_b3_s]; exact go _ _
        · obtain ⟨u', v', σ', g1, g2⟩ := ih (k + 1) n u v σ4 (by omega) (by omega) (hN.fr a3 (by omega)) (hg.fr a3 (by omega)) (hp.fr a3 (by omega)) (hp2.fr a3 (by omega))
          rw [if_neg r, j_b3_s]
          exact ⟨u', v', σ', g1, a3.trans g2⟩
    · rw [if_neg d]; exact ⟨u, v, σ, rfl, y_fr.refl⟩
theorem tt_two (hN : y_N σ b) (hW : y_W b) (x y z : Int32) : ∃ v σ', f_X11_two x y z σ = some (v, σ') ∧ y_fr 22 41 σ σ' := by
  unfold f_X11_two
  rw [yc_isPlayer hN hW]
  by_cases c : ¬ z < 0 ∧ ¬ (1 : Int32) < z ∧ ¬ x = y ∧ ¬ (if y_rg y (b 6) then nI 1 else nI 0) = (0 : Int32)
  · rw [if_pos c]
    have hy : y_rg y (b 6) := by
      by_cases h : y_rg y (b 6)
      · exact h
      · exact absurd (if_neg h) c.2.2.2
    by_cases hx : y_rg x (b 6)
    · obtain ⟨p, hp, rfl⟩ := y_of _ _ hx.1 hx.2
      obtain ⟨p2, hp2, rfl⟩ := y_of _ _ hy.1 hy.2
      have h9 := hW.on0 (Or.inr (Or.inr (Or.inr (Or.inl (by omega : 0 < b 6)))))
      obtain ⟨σ1, a1, ⟨a2, a3, a4⟩, a5⟩ := yc_ready hN hW hp
      obtain ⟨σ3, c1, c2, c3⟩ := yc_take a2 hW hp2 (a := 29) (by omega)
      have hg3 : y_cg σ3 b (y_gs b) (y_dg b (b 8)) := a3.fr c3 (by omega)
      have hv := y_dg_vg hW (b 8)
      obtain ⟨d, d1, d2⟩ := tt_gh hg3 hv hW
      obtain ⟨w, e1⟩ := tt_gi hg3 hv hW (nI d)
      obtain ⟨u', v', σ8, g1, g2⟩ := tt_77 (x := z) (a := w) hW h9 hv (y_pqv hW hp) (y_pqv hW hp2) d2 (d + 1) 0 j_F (nP 0) (nI 0) σ3 (by omega) (y_F (by omega)) (a2.fr c3 (by omega)) hg3 (a4.fr c3 (by omega)) c2
      have f8 := a5.trans ((c3.wide (by omega) (by omega) : y_fr 22 41 σ1 σ3).trans (g2.wide (by omega) (by omega)))
      rw [a1, j_b2_s, if_neg (show ¬ nI 1 = (0 : Int32) by decide), c1, j_b1_s, d1, j_b1_s, e1, j_b1_s, y_m1, show (0 : Int32) = nI 0 from rfl, g1, j_b3_s]
      by_cases r : z = nI 0
      · rw [if_pos r]; exact ⟨_, _, rfl, f8⟩
      · rw [if_neg r]; exact ⟨_, _, rfl, f8⟩
    · rw [yc_unready hN hW hx, j_b2_s, if_pos (show nI 0 = (0 : Int32) from rfl)]; exact ⟨_, _, rfl, y_fr.refl⟩
  · rw [if_neg c]; exact ⟨_, _, rfl, y_fr.refl⟩
end C
section R
variable {τ : j_G} {b : Nat → Nat}
theorem tu_on (hL : y_ldy τ b) (hW : y_W b) {p : Nat} (hp : p < b 6) (x : Int32) : ∃ v τ', f_X12_hitsOn (nI p) x τ = some (v, τ') ∧ y_ldy τ' b ∧ y_fm 18 42 80 93 τ τ' := by
  obtain ⟨τ1, a1, a2, a3, a4, a5⟩ := ym_told hL.1 hW hp
  have f2 : y_fm 23 23 80 79 τ1 (j_si τ1 75 23 x) := y_fm.refl.so (by omega) (by omega)
  have mp2 : y_mp (j_si τ1 75 23 x) b p (y_pq b p) := by
    obtain ⟨q1, q2, q3, q4, q5, q6, q7⟩ := a2
    exact ⟨by rw [f2.1 19 (by omega)]; exact q1, by rw [f2.1 20 (by omega)]; exact q2, by rw [f2.1 21 (by omega)]; exact q3, by rw [f2.1 22 (by omega)]; exact q4, q5, q6, q7⟩
  have L1 : y_ldy τ1 b := hL.fr a5 (by omega) (by omega)
  have L2 : y_ldy (j_si τ1 75 23 x) b := L1.fr f2 (by omega) (by omega)
  obtain ⟨τ', e1, e2, e3, e4, e5⟩ := ym_runq (k := y_mb2 x) (red := 0) L2 hW hp mp2 (y_pqv hW hp) (by rw [j_r_eq]; exact y_mkA x) (by omega) (by rw [f2.1 24 (by omega)]; exact a4)
  unfold f_X12_hitsOn
  simp only [j_lt]
  rw [a1, j_b1_s, e1, j_b1_s]
  refine ⟨_, _, rfl, e3, ?_⟩
  exact y_fm.trans (a5.wide (by omega) (by omega) (by omega) (by omega)) (y_fm.trans (y_fm.refl.so (by omega) (by omega) : y_fm 18 42 80 93 τ1 (j_si τ1 75 23 x)) (e5.wide (by omega) (by omega) (by omega) (by omega)))
theorem tu_57 (hW : y_W b) {p p2 c : Nat} {z : Int32} (hp : p < b 6) (hp2 : p2 < b 6) (hc : c < 4096) : ∀ m k n u v (τ : j_G), k + m = c + 1 → m < n → y_ldy τ b → ∃ u' v' τ', p_X12_two_57 (nI p) (nI p2) z (nI c) n u v (nI k) τ = some (u', v', τ') ∧ y_fm 18 42 80 93 τ τ' := by
  intro m
  induction m with
  | zero =>
    intro k n u v τ h hn hL
    obtain ⟨n, rfl⟩ := y_pos hn
    refine ⟨u, v, τ, ?_, y_fm.refl⟩
    unfold p_X12_two_57
    rw [if_neg (fun z => z (by rw [y_lt (by omega) (by omega)]; omega))]
  | succ m ih =>
    intro k n u v τ h hn hL
    obtain ⟨n, rfl⟩ := y_pos hn
    obtain ⟨v2, τ1, a1, a2, a3⟩ := tu_on hL hW hp (nI k)
    obtain ⟨v4, τ3, b1, b2, b3⟩ := tu_on a2 hW hp2 (nI c &&& (nI k ^^^ (-1 : Int32)))
    unfold p_X12_two_57
    simp only [j_lt]
    rw [if_pos (show ¬ nI c < nI k by rw [y_lt (by omega) (by omega)]; omega), a1, j_b2_s, b1, j_b2_s, show nI k + (1 : Int32) = nI (k + 1) by simp (disch := omega) only [y_lit, nI_add]]
    obtain ⟨u', v', τ', g1, g2⟩ := ih (k + 1) n (if ¬ v < v2 + v4 then (u, v) else (nI k, v2 + v4)).1 (if ¬ v < v2 + v4 then (u, v) else (nI k, v2 + v4)).2 τ3 (by omega) (by omega) b2
    exact ⟨u', v', τ', g1, y_fm.trans (y_fm.trans a3 b3) g2⟩
theorem tu_two (hM : y_M τ b) (hW : y_W b) (x y z : Int32) : ∃ v τ', f_X12_two x y z τ = some (v, τ') ∧ y_fm 18 42 80 93 τ τ' := by
  have ho := hW.ho
  unfold f_X12_two
  simp only [j_lt]
  rw [ym_isPlayer hM hW, j_b1_s]
  by_cases hx : y_rg x (b 6)
  · rw [if_pos hx, if_pos (show ¬ nI 1 = (0 : Int32) by decide), ym_isPlayer hM hW, j_b1_s]
    by_cases c : (if y_rg y (b 6) then nI 1 else nI 0) = (0 : Int32) ∨ x = y ∨ f_X12_in z.toInt64 (0 : Int64) (1 : Int64) = 0
    · rw [if_pos c]; exact ⟨_, _, rfl, y_fm.refl⟩
    · have hy : y_rg y (b 6) := by
        by_cases h : y_rg y (b 6)
        · exact h
        · exact absurd (Or.inl (if_neg h)) c
      obtain ⟨p, hp, rfl⟩ := y_of _ _ hx.1 hx.2
      obtain ⟨p2, hp2, rfl⟩ := y_of _ _ hy.1 hy.2
      obtain ⟨τ1, a1, a2, a3⟩ := ym_laid hM hW
      have pw : 2 ^ y_ho b ≤ 2 ^ 12 := Nat.pow_le_pow_right (by omega) ho
      have pw1 : 1 ≤ 2 ^ y_ho b := Nat.one_le_two_pow
      have es : ((1 : Int32) <<< (nI (y_ho b) &&& 31)) - (1 : Int32) = nI (2 ^ y_ho b - 1) := by
        rw [show (1 : Int32) = nI 1 from rfl, show (31 : Int32) = nI 31 from rfl, y_shl (by omega), pk_sub pw1]
      obtain ⟨u', v', τ8, g1, g2⟩ := tu_57 (z := z) hW hp hp2 (c := 2 ^ y_ho b - 1) (by omega) (2 ^ y_ho b) 0 j_F (nI 0) (nP 0) τ1 (by omega) (y_F (by omega)) a2
      rw [if_neg c, a1, j_b1_s, ym_holes a2.1, j_b1_s, es, y_m1, show (0 : Int32) = nI 0 from rfl, g1, j_b3_s]
      by_cases r : z = nI 0
      · rw [if_pos r]; exact ⟨_, _, rfl, y_fm.trans a3 g2⟩
      · rw [if_neg r]; exact ⟨_, _, rfl, y_fm.trans a3 g2⟩
  · rw [if_neg hx, if_neg (show ¬ ¬ nI 0 = (0 : Int32) from fun z => z rfl)]; exact ⟨_, _, rfl, y_fm.refl⟩
end R
section Z
variable {σ τ : j_G}
theorem t_two (hR : j_Rel σ τ) (a1 a2 a3 : Int32) : ∃ v σ1, f_X11_two a1 a2 a3 σ = some (v, σ1) ∧ ∃ w τ1, f_X12_two a1 a2 a3 τ = some (w, τ1) ∧ j_Rel σ1 τ1 := by
  obtain ⟨b, hW, hN, hM, hK⟩ := id hR
  obtain ⟨v, σ1, e1, e2⟩ := tt_two hN hW a1 a2 a3
  obtain ⟨w, τ1, f1, f2⟩ := tu_two hM hW a1 a2 a3
  exact ⟨v, σ1, e1, w, τ1, f1, y_done hR e2 f2⟩
end Z
/-! ===== the facts ===== -/
theorem s_feed {σ τ : j_G} (hR : j_Rel σ τ) (a1 : Int32) (a2 : Int32) (a3 : Int32) (a4 : Int32) (a5 : Int32) : ∃ vx : Int32, ∃ σ1 : j_G, f_X11_feed a1 a2 a3 a4 a5 σ = some (vx, σ1) ∧ ∃ vm : Int32, ∃ τ1 : j_G, f_X12_feed a1 a2 a3 a4 a5 τ = some (vm, τ1) ∧ j_Rel σ1 τ1 := by
  obtain ⟨v, σ1, τ1, e1, e2, r⟩ := z_feed hR a1 a2 a3 a4 a5
  exact ⟨v, σ1, e1, v, τ1, e2, r⟩
theorem s_end {σ τ : j_G} (hR : j_Rel σ τ) (a1 : Int32) : ∃ vx : Int32, ∃ σ1 : j_G, f_X11_end a1 σ = some (vx, σ1) ∧ ∃ vm : Int32, ∃ τ1 : j_G, f_X12_end a1 τ = some (vm, τ1) ∧ j_Rel σ1 τ1 := by
  obtain ⟨v, σ1, τ1, e1, e2, r⟩ := z_end hR a1
  exact ⟨v, σ1, e1, v, τ1, e2, r⟩
theorem s_board {σ τ : j_G} (hR : j_Rel σ τ) : ∃ vx : Int32, ∃ σ1 : j_G, f_X11_board σ = some (vx, σ1) ∧ ∃ vm : Int32, ∃ τ1 : j_G, f_X12_board τ = some (vm, τ1) ∧ j_Rel σ1 τ1 := by
  obtain ⟨v, σ1, τ1, e1, e2, r⟩ := z_board hR
  exact ⟨v, σ1, e1, v, τ1, e2, r⟩
theorem s_fault {σ τ : j_G} (hR : j_Rel σ τ) (a1 : Int32) : ∃ vx : Int32, f_X11_fault a1 σ = vx ∧ ∃ vm : Int32, f_X12_fault a1 τ = vm ∧ j_Rel σ τ := by
  exact ⟨_, rfl, _, rfl, hR⟩
theorem s_drum {σ τ : j_G} (hR : j_Rel σ τ) (a1 : Int32) (a2 : Int32) : ∃ vx : Int32, f_X11_drum a1 a2 σ = some vx ∧ ∃ vm : Int32, f_X12_drum a1 a2 τ = some vm ∧ j_Rel σ τ := by
  obtain ⟨v, e1, e2⟩ := z_drum hR a1 a2
  exact ⟨v, e1, v, e2, hR⟩
theorem s_player {σ τ : j_G} (hR : j_Rel σ τ) (a1 : Int32) (a2 : Int32) : ∃ vx : Int32, f_X11_player a1 a2 σ = some vx ∧ ∃ vm : Int32, f_X12_player a1 a2 τ = some vm ∧ j_Rel σ τ := by
  obtain ⟨v, e1, e2⟩ := z_player hR a1 a2
  exact ⟨v, e1, v, e2, hR⟩
theorem s_stay {σ τ : j_G} (hR : j_Rel σ τ) (a1 : Int32) : ∃ vx : Int32, f_X11_stay a1 σ = some vx ∧ ∃ vm : Int32, f_X12_stay a1 τ = some vm ∧ j_Rel σ τ := by
  obtain ⟨v, e1, e2⟩ := z_stay hR a1
  exact ⟨v, e1, v, e2, hR⟩
theorem s_comings {σ τ : j_G} (hR : j_Rel σ τ) : ∃ vx : Int32, ∃ σ1 : j_G, f_X11_comings σ = some (vx, σ1) ∧ ∃ vm : Int32, ∃ τ1 : j_G, f_X12_comings τ = some (vm, τ1) ∧ j_Rel σ1 τ1 := by
  obtain ⟨v, σ1, τ1, e1, e2, r⟩ := z_comings hR
  exact ⟨v, σ1, e1, v, τ1, e2, r⟩
theorem s_comes {σ τ : j_G} (hR : j_Rel σ τ) (a1 : Int32) (a2 : Int32) : ∃ vx : Int32, ∃ σ1 : j_G, f_X11_comes a1 a2 σ = some (vx, σ1) ∧ ∃ vm : Int32, ∃ τ1 : j_G, f_X12_comes a1 a2 τ = some (vm, τ1) ∧ j_Rel σ1 τ1 := by
  obtain ⟨v, σ1, τ1, e1, e2, r⟩ := z_comes hR a1 a2
  exact ⟨v, σ1, e1, v, τ1, e2, r⟩
theorem s_up {σ τ : j_G} (hR : j_Rel σ τ) (a1 : Int32) : ∃ vx : Int32, ∃ σ1 : j_G, f_X11_up a1 σ = some (vx, σ1) ∧ ∃ vm : Int32, ∃ τ1 : j_G, f_X12_up a1 τ = some (vm, τ1) ∧ j_Rel σ1 τ1 := by
  obtain ⟨v, σ1, τ1, e1, e2, r⟩ := z_up hR a1
  exact ⟨v, σ1, e1, v, τ1, e2, r⟩
theorem s_calm {σ τ : j_G} (hR : j_Rel σ τ) : ∃ vx : Int32, ∃ σ1 : j_G, f_X11_calm σ = some (vx, σ1) ∧ ∃ vm : Int32, ∃ τ1 : j_G, f_X12_calm τ = some (vm, τ1) ∧ j_Rel σ1 τ1 := by
  obtain ⟨v, σ1, τ1, e1, e2, r⟩ := z_calm hR
  exact ⟨v, σ1, e1, v, τ1, e2, r⟩
theorem s_steps {σ τ : j_G} (hR : j_Rel σ τ) (a1 : Int32) (a2 : Int32) : ∃ vx : Int32, f_X11_steps a1 a2 σ = some vx ∧ ∃ vm : Int32, f_X12_steps a1 a2 τ = some vm ∧ j_Rel σ τ := by
  obtain ⟨v, e1, e2⟩ := z_steps hR a1 a2
  exact ⟨v, e1, v, e2, hR⟩
theorem s_pace {σ τ : j_G} (hR : j_Rel σ τ) (a1 : Int32) (a2 : Int32) : ∃ vx : Int32, ∃ σ1 : j_G, f_X11_pace a1 a2 σ = some (vx, σ1) ∧ ∃ vm : Int32, f_X12_pace a1 a2 τ = some vm ∧ j_Rel σ1 τ := by
  obtain ⟨v, σ1, e1, e2, r⟩ := z_pace hR a1 a2
  exact ⟨v, σ1, e1, v, e2, r⟩
theorem s_aware {σ τ : j_G} (hR : j_Rel σ τ) (a1 : Int32) (a2 : Int32) : ∃ vx : Int32, ∃ σ1 : j_G, f_X11_aware a1 a2 σ = some (vx, σ1) ∧ ∃ vm : Int32, ∃ τ1 : j_G, f_X12_aware a1 a2 τ = some (vm, τ1) ∧ j_Rel σ1 τ1 := by
  obtain ⟨v, σ1, τ1, e1, e2, r⟩ := z_aware hR a1 a2
  exact ⟨v, σ1, e1, v, τ1, e2, r⟩
theorem s_hits {σ τ : j_G} (hR : j_Rel σ τ) (a1 : Int32) : ∃ vx : Int32, ∃ σ1 : j_G, f_X11_hits a1 σ = some (vx, σ1) ∧ ∃ vm : Int32, ∃ τ1 : j_G, f_X12_hits a1 τ = some (vm, τ1) ∧ j_Rel σ1 τ1 := by
  obtain ⟨v, σ1, τ1, e1, e2, r⟩ := z_hits hR a1
  exact ⟨v, σ1, e1, v, τ1, e2, r⟩
theorem s_hit {σ τ : j_G} (hR : j_Rel σ τ) (a1 : Int32) (a2 : Int32) : ∃ vx : Int32, ∃ σ1 : j_G, f_X11_hit a1 a2 σ = some (vx, σ1) ∧ ∃ vm : Int32, ∃ τ1 : j_G, f_X12_hit a1 a2 τ = some (vm, τ1) ∧ j_Rel σ1 τ1 := by
  obtain ⟨v, σ1, τ1, e1, e2, r⟩ := z_hit hR a1 a2
  exact ⟨v, σ1, e1, v, τ1, e2, r⟩
theorem s_twice {σ τ : j_G} (hR : j_Rel σ τ) (a1 : Int32) (a2 : Int32) : ∃ vx : Int32, ∃ σ1 : j_G, f_X11_twice a1 a2 σ = some (vx, σ1) ∧ ∃ vm : Int32, ∃ τ1 : j_G, f_X12_twice a1 a2 τ = some (vm, τ1) ∧ j_Rel σ1 τ1 := by
  obtain ⟨v, σ1, τ1, e1, e2, r⟩ := z_twice hR a1 a2
  exact ⟨v, σ1, e1, v, τ1, e2, r⟩
theorem s_where {σ τ : j_G} (hR : j_Rel σ τ) (a1 : Int32) (a2 : Int32) : ∃ vx : Int32, ∃ σ1 : j_G, f_X11_where a1 a2 σ = some (vx, σ1) ∧ ∃ vm : Int32, ∃ τ1 : j_G, f_X12_where a1 a2 τ = some (vm, τ1) ∧ j_Rel σ1 τ1 := by
  obtain ⟨v, σ1, τ1, e1, e2, r⟩ := z_where hR a1 a2
  exact ⟨v, σ1, e1, v, τ1, e2, r⟩
theorem s_missed {σ τ : j_G} (hR : j_Rel σ τ) (a1 : Int32) : ∃ vx : Int32, ∃ σ1 : j_G, f_X11_missed a1 σ = some (vx, σ1) ∧ ∃ vm : Int32, ∃ τ1 : j_G, f_X12_missed a1 τ = some (vm, τ1) ∧ j_Rel σ1 τ1 := by
  obtain ⟨v, σ1, τ1, e1, e2, r⟩ := z_missed hR a1
  exact ⟨v, σ1, e1, v, τ1, e2, r⟩
theorem s_walked {σ τ : j_G} (hR : j_Rel σ τ) (a1 : Int32) : ∃ vx : Int32, ∃ σ1 : j_G, f_X11_walked a1 σ = some (vx, σ1) ∧ ∃ vm : Int32, ∃ τ1 : j_G, f_X12_walked a1 τ = some (vm, τ1) ∧ j_Rel σ1 τ1 := by
  obtain ⟨v, σ1, τ1, e1, e2, r⟩ := z_walked hR a1
  exact ⟨v, σ1, e1, v, τ1, e2, r⟩
theorem s_best {σ τ : j_G} (hR : j_Rel σ τ) (a1 : Int32) : ∃ vx : Int32, ∃ σ1 : j_G, f_X11_best a1 σ = some (vx, σ1) ∧ ∃ vm : Int32, ∃ τ1 : j_G, f_X12_best a1 τ = some (vm, τ1) ∧ j_Rel σ1 τ1 := by
  exact t_best hR a1
theorem s_ahead {σ τ : j_G} (hR : j_Rel σ τ) (a1 : Int32) (a2 : Int32) : ∃ vx : Int32, ∃ σ1 : j_G, f_X11_ahead a1 a2 σ = some (vx, σ1) ∧ ∃ vm : Int32, ∃ τ1 : j_G, f_X12_ahead a1 a2 τ = some (vm, τ1) ∧ j_Rel σ1 τ1 := by
  exact t_ahead hR a1 a2
theorem s_learns {σ τ : j_G} (hR : j_Rel σ τ) (a1 : Int32) (a2 : Int32) : ∃ vx : Int32, ∃ σ1 : j_G, f_X11_learns a1 a2 σ = some (vx, σ1) ∧ ∃ vm : Int32, ∃ τ1 : j_G, f_X12_learns a1 a2 τ = some (vm, τ1) ∧ j_Rel σ1 τ1 := by
  obtain ⟨v, σ1, τ1, e1, e2, r⟩ := z_learns hR a1 a2
  exact ⟨v, σ1, e1, v, τ1, e2, r⟩
theorem s_enough {σ τ : j_G} (hR : j_Rel σ τ) (a1 : Int32) : ∃ vx : Int32, ∃ σ1 : j_G, f_X11_enough a1 σ = some (vx, σ1) ∧ ∃ vm : Int32, ∃ τ1 : j_G, f_X12_enough a1 τ = some (vm, τ1) ∧ j_Rel σ1 τ1 := by
  obtain ⟨v, σ1, τ1, e1, e2, r⟩ := z_enough hR a1
  exact ⟨v, σ1, e1, v, τ1, e2, r⟩
theorem s_waits {σ τ : j_G} (hR : j_Rel σ τ) (a1 : Int32) (a2 : Int32) : ∃ vx : Int32, ∃ σ1 : j_G, f_X11_waits a1 a2 σ = some (vx, σ1) ∧ ∃ vm : Int32, ∃ τ1 : j_G, f_X12_waits a1 a2 τ = some (vm, τ1) ∧ j_Rel σ1 τ1 := by
  obtain ⟨v, σ1, τ1, e1, e2, r⟩ := z_waits hR a1 a2
  exact ⟨v, σ1, e1, v, τ1, e2, r⟩
theorem s_mean {σ τ : j_G} (hR : j_Rel σ τ) (a1 : Int32) (a2 : Int32) : ∃ vx : Int32, f_X11_mean a1 a2 σ = some vx ∧ ∃ vm : Int32, f_X12_mean a1 a2 τ = some vm ∧ j_Rel σ τ := by
  obtain ⟨v, w, e1, e2⟩ := z_mean hR a1 a2
  exact ⟨v, e1, w, e2, hR⟩
theorem s_middle {σ τ : j_G} (hR : j_Rel σ τ) (a1 : Int32) : ∃ vx : Int32, f_X11_middle a1 σ = some vx ∧ ∃ vm : Int32, f_X12_middle a1 τ = some vm ∧ j_Rel σ τ := by
  obtain ⟨v, e1, e2⟩ := z_middle hR a1
  exact ⟨v, e1, v, e2, hR⟩
theorem s_reach {σ τ : j_G} (hR : j_Rel σ τ) (a1 : Int32) (a2 : Int32) : ∃ vx : Int32, ∃ σ1 : j_G, f_X11_reach a1 a2 σ = some (vx, σ1) ∧ ∃ vm : Int32, f_X12_reach a1 a2 τ = some vm ∧ j_Rel σ1 τ := by
  obtain ⟨v, σ1, e1, e2, r⟩ := z_reach hR a1 a2
  exact ⟨v, σ1, e1, v, e2, r⟩
theorem s_post {σ τ : j_G} (hR : j_Rel σ τ) (a1 : Int32) : ∃ vx : Int32, ∃ σ1 : j_G, f_X11_post a1 σ = some (vx, σ1) ∧ ∃ vm : Int32, f_X12_post a1 τ = some vm ∧ j_Rel σ1 τ := by
  obtain ⟨v, σ1, e1, e2, r⟩ := z_post hR a1
  exact ⟨v, σ1, e1, v, e2, r⟩
theorem s_slack {σ τ : j_G} (hR : j_Rel σ τ) (a1 : Int32) : ∃ vx : Int32, ∃ σ1 : j_G, f_X11_slack a1 σ = some (vx, σ1) ∧ ∃ vm : Int32, ∃ τ1 : j_G, f_X12_slack a1 τ = some (vm, τ1) ∧ j_Rel σ1 τ1 := by
  obtain ⟨v, σ1, τ1, e1, e2, r⟩ := z_slack hR a1
  exact ⟨v, σ1, e1, v, τ1, e2, r⟩
theorem s_rows {σ τ : j_G} (hR : j_Rel σ τ) (a1 : Int32) (a2 : Int32) : ∃ vx : Int64, ∃ σ1 : j_G, f_X11_rows a1 a2 σ = some (vx, σ1) ∧ ∃ vm : Int64, ∃ τ1 : j_G, f_X12_rows a1 a2 τ = some (vm, τ1) ∧ j_Rel σ1 τ1 := by
  exact t_rows hR a1 a2
theorem s_ends {σ τ : j_G} (hR : j_Rel σ τ) (a1 : Int32) (a2 : Int32) (a3 : Int32) : ∃ vx : Int64, ∃ σ1 : j_G, f_X11_ends a1 a2 a3 σ = some (vx, σ1) ∧ ∃ vm : Int64, ∃ τ1 : j_G, f_X12_ends a1 a2 a3 τ = some (vm, τ1) ∧ j_Rel σ1 τ1 := by
  exact t_ends hR a1 a2 a3
theorem s_fair {σ τ : j_G} (hR : j_Rel σ τ) (a1 : Int32) : ∃ vx : Int32, ∃ σ1 : j_G, f_X11_fair a1 σ = some (vx, σ1) ∧ ∃ vm : Int32, ∃ τ1 : j_G, f_X12_fair a1 τ = some (vm, τ1) ∧ j_Rel σ1 τ1 := by
  exact t_fair hR a1
theorem s_breaks {σ τ : j_G} (hR : j_Rel σ τ) (a1 : Int32) : ∃ vx : Int32, f_X11_breaks a1 σ = some vx ∧ ∃ vm : Int32, f_X12_breaks a1 τ = some vm ∧ j_Rel σ τ := by
  obtain ⟨v, e1, e2⟩ := z_breaks hR a1
  exact ⟨v, e1, v, e2, hR⟩
theorem s_period {σ τ : j_G} (hR : j_Rel σ τ) (a1 : Int32) : ∃ vx : Int32, f_X11_period a1 σ = some vx ∧ ∃ vm : Int32, f_X12_period a1 τ = some vm ∧ j_Rel σ τ := by
  obtain ⟨v, e1, e2⟩ := z_period hR a1
  exact ⟨v, e1, v, e2, hR⟩
theorem s_periods {σ τ : j_G} (hR : j_Rel σ τ) (a1 : Int32) : ∃ vx : Int32, f_X11_periods a1 σ = some vx ∧ ∃ vm : Int32, f_X12_periods a1 τ = some vm ∧ j_Rel σ τ := by
  obtain ⟨v, e1, e2⟩ := z_periods hR a1
  exact ⟨v, e1, v, e2, hR⟩
theorem s_luck {σ τ : j_G} (hR : j_Rel σ τ) (a1 : Int32) : ∃ vx : Int32, f_X11_luck a1 σ = some vx ∧ ∃ vm : Int32, f_X12_luck a1 τ = some vm ∧ j_Rel σ τ := by
  obtain ⟨v, e1, e2⟩ := z_luck hR a1
  exact ⟨v, e1, v, e2, hR⟩
theorem s_fits {σ τ : j_G} (hR : j_Rel σ τ) (a1 : Int32) : ∃ vx : Int32, f_X11_fits a1 σ = some vx ∧ ∃ vm : Int32, f_X12_fits a1 τ = some vm ∧ j_Rel σ τ := by
  obtain ⟨v, e1, e2⟩ := z_fits hR a1
  exact ⟨v, e1, v, e2, hR⟩
theorem s_place {σ τ : j_G} (hR : j_Rel σ τ) (a1 : Int32) (a2 : Int32) : ∃ vx : Int32, f_X11_place a1 a2 σ = some vx ∧ ∃ vm : Int32, f_X12_place a1 a2 τ = some vm ∧ j_Rel σ τ := by
  obtain ⟨v, e1, e2⟩ := z_place hR a1 a2
  exact ⟨v, e1, v, e2, hR⟩
theorem s_next {σ τ : j_G} (hR : j_Rel σ τ) (a1 : Int32) : ∃ vx : Int32, f_X11_next a1 σ = some vx ∧ ∃ vm : Int32, f_X12_next a1 τ = some vm ∧ j_Rel σ τ := by
  obtain ⟨v, e1, e2⟩ := z_next hR a1
  exact ⟨v, e1, v, e2, hR⟩
theorem s_needed {σ τ : j_G} (hR : j_Rel σ τ) (a1 : Int32) : ∃ vx : Int32, f_X11_needed a1 σ = some vx ∧ ∃ vm : Int32, f_X12_needed a1 τ = some vm ∧ j_Rel σ τ := by
  obtain ⟨v, e1, e2⟩ := z_needed hR a1
  exact ⟨v, e1, v, e2, hR⟩
theorem s_known {σ τ : j_G} (hR : j_Rel σ τ) : ∃ vx : Int32, f_X11_known σ = some vx ∧ ∃ vm : Int32, f_X12_known τ = some vm ∧ j_Rel σ τ := by
  obtain ⟨v, e1, e2⟩ := z_known hR
  exact ⟨v, e1, v, e2, hR⟩
theorem s_rash {σ τ : j_G} (hR : j_Rel σ τ) (a1 : Int32) : ∃ vx : Int32, ∃ σ1 : j_G, f_X11_rash a1 σ = some (vx, σ1) ∧ ∃ vm : Int32, ∃ τ1 : j_G, f_X12_rash a1 τ = some (vm, τ1) ∧ j_Rel σ1 τ1 := by
  obtain ⟨v, σ1, τ1, e1, e2, r⟩ := z_rash hR a1
  exact ⟨v, σ1, e1, v, τ1, e2, r⟩
theorem s_look {σ τ : j_G} (hR : j_Rel σ τ) (a1 : Int32) (a2 : Int32) : ∃ vx : Int32, ∃ σ1 : j_G, f_X11_look a1 a2 σ = some (vx, σ1) ∧ ∃ vm : Int32, ∃ τ1 : j_G, f_X12_look a1 a2 τ = some (vm, τ1) ∧ j_Rel σ1 τ1 := by
  obtain ⟨v, σ1, τ1, e1, e2, r⟩ := z_look hR a1 a2
  exact ⟨v, σ1, e1, v, τ1, e2, r⟩
theorem s_line {σ τ : j_G} (hR : j_Rel σ τ) (a1 : Int32) : ∃ vx : Int32, ∃ σ1 : j_G, f_X11_line a1 σ = some (vx, σ1) ∧ ∃ vm : Int32, ∃ τ1 : j_G, f_X12_line a1 τ = some (vm, τ1) ∧ j_Rel σ1 τ1 := by
  obtain ⟨v, σ1, τ1, e1, e2, r⟩ := z_line hR a1
  exact ⟨v, σ1, e1, v, τ1, e2, r⟩
theorem s_two {σ τ : j_G} (hR : j_Rel σ τ) (a1 : Int32) (a2 : Int32) (a3 : Int32) : ∃ vx : Int32, ∃ σ1 : j_G, f_X11_two a1 a2 a3 σ = some (vx, σ1) ∧ ∃ vm : Int32, ∃ τ1 : j_G, f_X12_two a1 a2 a3 τ = some (vm, τ1) ∧ j_Rel σ1 τ1 := by
  exact t_two hR a1 a2 a3
theorem s_tickets {σ τ : j_G} (hR : j_Rel σ τ) (a1 : Int32) : ∃ vx : Int32, ∃ σ1 : j_G, f_X11_tickets a1 σ = some (vx, σ1) ∧ ∃ vm : Int32, ∃ τ1 : j_G, f_X12_tickets a1 τ = some (vm, τ1) ∧ j_Rel σ1 τ1 := by
  obtain ⟨v, σ1, τ1, e1, e2, r⟩ := z_tickets hR a1
  exact ⟨v, σ1, e1, v, τ1, e2, r⟩
theorem s_prize {σ τ : j_G} (hR : j_Rel σ τ) (a1 : Int32) : ∃ vx : Int32, ∃ σ1 : j_G, f_X11_prize a1 σ = some (vx, σ1) ∧ ∃ vm : Int32, ∃ τ1 : j_G, f_X12_prize a1 τ = some (vm, τ1) ∧ j_Rel σ1 τ1 := by
  obtain ⟨v, σ1, τ1, e1, e2, r⟩ := z_prize hR a1
  exact ⟨v, σ1, e1, v, τ1, e2, r⟩
theorem s_counted {σ τ : j_G} (hR : j_Rel σ τ) (a1 : Int32) : ∃ vx : Int32, ∃ σ1 : j_G, f_X11_counted a1 σ = some (vx, σ1) ∧ ∃ vm : Int32, ∃ τ1 : j_G, f_X12_counted a1 τ = some (vm, τ1) ∧ j_Rel σ1 τ1 := by
  obtain ⟨v, σ1, τ1, e1, e2, r⟩ := z_counted hR a1
  exact ⟨v, σ1, e1, v, τ1, e2, r⟩
theorem s_scored {σ τ : j_G} (hR : j_Rel σ τ) (a1 : Int32) : ∃ vx : Int32, ∃ σ1 : j_G, f_X11_scored a1 σ = some (vx, σ1) ∧ ∃ vm : Int32, ∃ τ1 : j_G, f_X12_scored a1 τ = some (vm, τ1) ∧ j_Rel σ1 τ1 := by
  obtain ⟨v, σ1, τ1, e1, e2, r⟩ := z_scored hR a1
  exact ⟨v, σ1, e1, v, τ1, e2, r⟩
theorem s_early {σ τ : j_G} (hR : j_Rel σ τ) (a1 : Int32) (a2 : Int32) : ∃ vx : Int32, ∃ σ1 : j_G, f_X11_early a1 a2 σ = some (vx, σ1) ∧ ∃ vm : Int32, ∃ τ1 : j_G, f_X12_early a1 a2 τ = some (vm, τ1) ∧ j_Rel σ1 τ1 := by
  obtain ⟨v, σ1, τ1, e1, e2, r⟩ := z_early hR a1 a2
  exact ⟨v, σ1, e1, v, τ1, e2, r⟩
theorem s_often {σ τ : j_G} (hR : j_Rel σ τ) (a1 : Int32) : ∃ vx : Int32, f_X11_often a1 σ = some vx ∧ ∃ vm : Int32, f_X12_often a1 τ = some vm ∧ j_Rel σ τ := by
  obtain ⟨v, e1, e2⟩ := z_often hR a1
  exact ⟨v, e1, v, e2, hR⟩
theorem s_balance {σ τ : j_G} (hR : j_Rel σ τ) : ∃ vx : Int32, f_X11_balance σ = some vx ∧ ∃ vm : Int32, f_X12_balance τ = some vm ∧ j_Rel σ τ := by
  obtain ⟨v, e1, e2⟩ := z_balance hR
  exact ⟨v, e1, v, e2, hR⟩
theorem s_path {σ τ : j_G} (hR : j_Rel σ τ) : ∃ vx : Int32, f_X11_path σ = some vx ∧ ∃ vm : Int32, f_X12_path τ = some vm ∧ j_Rel σ τ := by
  obtain ⟨v, e1, e2⟩ := z_path hR
  exact ⟨v, e1, v, e2, hR⟩
theorem s_better {σ τ : j_G} (hR : j_Rel σ τ) (a1 : Int32) : ∃ vx : Int32, ∃ σ1 : j_G, f_X11_better a1 σ = some (vx, σ1) ∧ ∃ vm : Int32, ∃ τ1 : j_G, f_X12_better a1 τ = some (vm, τ1) ∧ j_Rel σ1 τ1 := by
  obtain ⟨v, σ1, τ1, e1, e2, r⟩ := z_better hR a1
  exact ⟨v, σ1, e1, v, τ1, e2, r⟩
theorem s_swap {σ τ : j_G} (hR : j_Rel σ τ) (a1 : Int32) (a2 : Int32) : ∃ vx : Int32, ∃ σ1 : j_G, f_X11_swap a1 a2 σ = some (vx, σ1) ∧ ∃ vm : Int32, ∃ τ1 : j_G, f_X12_swap a1 a2 τ = some (vm, τ1) ∧ j_Rel σ1 τ1 := by
  obtain ⟨v, σ1, τ1, e1, e2, r⟩ := z_swap hR a1 a2
  exact ⟨v, σ1, e1, v, τ1, e2, r⟩
theorem s_paint {σ τ : j_G} (hR : j_Rel σ τ) (a1 : Int32) (a2 : Int32) : ∃ vx : Int32, ∃ σ1 : j_G, f_X11_paint a1 a2 σ = some (vx, σ1) ∧ ∃ vm : Int32, ∃ τ1 : j_G, f_X12_paint a1 a2 τ = some (vm, τ1) ∧ j_Rel σ1 τ1 := by
  obtain ⟨v, σ1, τ1, e1, e2, r⟩ := z_paint hR a1 a2
  exact ⟨v, σ1, e1, v, τ1, e2, r⟩
theorem s_turn {σ τ : j_G} (hR : j_Rel σ τ) (a1 : Int32) : ∃ vx : Int32, ∃ σ1 : j_G, f_X11_turn a1 σ = some (vx, σ1) ∧ ∃ vm : Int32, ∃ τ1 : j_G, f_X12_turn a1 τ = some (vm, τ1) ∧ j_Rel σ1 τ1 := by
  obtain ⟨v, σ1, τ1, e1, e2, r⟩ := z_turn hR a1
  exact ⟨v, σ1, e1, v, τ1, e2, r⟩
theorem s_lucky {σ τ : j_G} (hR : j_Rel σ τ) (a1 : Int32) : ∃ vx : Int32, ∃ σ1 : j_G, f_X11_lucky a1 σ = some (vx, σ1) ∧ ∃ vm : Int32, ∃ τ1 : j_G, f_X12_lucky a1 τ = some (vm, τ1) ∧ j_Rel σ1 τ1 ∧ vx = vm := by
  obtain ⟨v, σ1, τ1, e1, e2, r⟩ := z_lucky hR a1
  exact ⟨v, σ1, e1, v, τ1, e2, r, rfl⟩
theorem s_shut {σ τ : j_G} (hR : j_Rel σ τ) (a1 : Int32) (a2 : Int32) : ∃ vx : Int32, ∃ σ1 : j_G, f_X11_shut a1 a2 σ = some (vx, σ1) ∧ ∃ vm : Int32, ∃ τ1 : j_G, f_X12_shut a1 a2 τ = some (vm, τ1) ∧ j_Rel σ1 τ1 := by
  obtain ⟨v, σ1, τ1, e1, e2, r⟩ := z_shut hR a1 a2
  exact ⟨v, σ1, e1, v, τ1, e2, r⟩
theorem s_train {σ τ : j_G} (hR : j_Rel σ τ) (a1 : Int32) (a2 : Int32) (a3 : Int32) : ∃ vx : Int32, ∃ σ1 : j_G, f_X11_train a1 a2 a3 σ = some (vx, σ1) ∧ ∃ vm : Int32, ∃ τ1 : j_G, f_X12_train a1 a2 a3 τ = some (vm, τ1) ∧ j_Rel σ1 τ1 := by
  obtain ⟨v, σ1, τ1, e1, e2, r⟩ := z_train hR a1 a2 a3
  exact ⟨v, σ1, e1, v, τ1, e2, r⟩
theorem s_drawn {σ τ : j_G} (hR : j_Rel σ τ) (a1 : Int32) (a2 : Int32) (a3 : Int32) : ∃ vx : Int32, ∃ σ1 : j_G, f_X11_drawn a1 a2 a3 σ = some (vx, σ1) ∧ ∃ vm : Int32, ∃ τ1 : j_G, f_X12_drawn a1 a2 a3 τ = some (vm, τ1) ∧ j_Rel σ1 τ1 := by
  obtain ⟨v, σ1, τ1, e1, e2, r⟩ := z_drawn hR a1 a2 a3
  exact ⟨v, σ1, e1, v, τ1, e2, r⟩
theorem s_night {σ τ : j_G} (hR : j_Rel σ τ) (a1 : Int32) (a2 : Int32) (a3 : Int32) : ∃ vx : Int32, ∃ σ1 : j_G, f_X11_night a1 a2 a3 σ = some (vx, σ1) ∧ ∃ vm : Int32, ∃ τ1 : j_G, f_X12_night a1 a2 a3 τ = some (vm, τ1) ∧ j_Rel σ1 τ1 := by
  obtain ⟨v, σ1, τ1, e1, e2, r⟩ := z_night hR a1 a2 a3
  exact ⟨v, σ1, e1, v, τ1, e2, r⟩
theorem s_years {σ τ : j_G} (hR : j_Rel σ τ) (a1 : Int32) (a2 : Int32) (a3 : Int32) (a4 : Int32) : ∃ vx : Int32, ∃ σ1 : j_G, f_X11_years a1 a2 a3 a4 σ = some (vx, σ1) ∧ ∃ vm : Int32, ∃ τ1 : j_G, f_X12_years a1 a2 a3 a4 τ = some (vm, τ1) ∧ j_Rel σ1 τ1 := by
  obtain ⟨v, σ1, τ1, e1, e2, r⟩ := z_years hR a1 a2 a3 a4
  exact ⟨v, σ1, e1, v, τ1, e2, r⟩
theorem s_count {σ τ : j_G} (hR : j_Rel σ τ) (a1 : Int32) : ∃ vx : Int32, f_X11_count a1 σ = some vx ∧ ∃ vm : Int32, f_X12_count a1 τ = some vm ∧ j_Rel σ τ := by
  obtain ⟨v, e1, e2⟩ := z_count hR a1
  exact ⟨v, e1, v, e2, hR⟩
theorem s_image {σ τ : j_G} (hR : j_Rel σ τ) (a1 : Int32) : ∃ vx : Int32, ∃ σ1 : j_G, f_X11_image a1 σ = some (vx, σ1) ∧ ∃ vm : Int32, ∃ τ1 : j_G, f_X12_image a1 τ = some (vm, τ1) ∧ j_Rel σ1 τ1 := by
  obtain ⟨v, σ1, τ1, e1, e2, r⟩ := z_image hR a1
  exact ⟨v, σ1, e1, v, τ1, e2, r⟩
theorem s_back {σ τ : j_G} (hR : j_Rel σ τ) (a1 : Int32) : ∃ vx : Int32, ∃ σ1 : j_G, f_X11_back a1 σ = some (vx, σ1) ∧ ∃ vm : Int32, ∃ τ1 : j_G, f_X12_back a1 τ = some (vm, τ1) ∧ j_Rel σ1 τ1 := by
  obtain ⟨v, σ1, τ1, e1, e2, r⟩ := z_back hR a1
  exact ⟨v, σ1, e1, v, τ1, e2, r⟩
theorem s_row {σ τ : j_G} (hR : j_Rel σ τ) (a1 : Int32) (a2 : Int32) (a3 : Int32) : ∃ vx : Int32, ∃ σ1 : j_G, f_X11_row a1 a2 a3 σ = some (vx, σ1) ∧ ∃ vm : Int32, ∃ τ1 : j_G, f_X12_row a1 a2 a3 τ = some (vm, τ1) ∧ j_Rel σ1 τ1 := by
  obtain ⟨v, σ1, τ1, e1, e2, r⟩ := z_row hR a1 a2 a3
  exact ⟨v, σ1, e1, v, τ1, e2, r⟩
theorem s_write {σ τ : j_G} (hR : j_Rel σ τ) (a1 : Int32) (a2 : Int32) (a3 : Int64) : ∃ vx : Int32, ∃ σ1 : j_G, f_X11_write a1 a2 a3 σ = some (vx, σ1) ∧ ∃ vm : Int32, ∃ τ1 : j_G, f_X12_write a1 a2 a3 τ = some (vm, τ1) ∧ j_Rel σ1 τ1 := by
  obtain ⟨v, σ1, τ1, e1, e2, r⟩ := z_write hR a1 a2 a3
  exact ⟨v, σ1, e1, v, τ1, e2, r⟩
theorem s_paste {σ τ : j_G} (hR : j_Rel σ τ) (a1 : Int32) (a2 : Int32) (a3 : Int32) (a4 : Int32) (a5 : Int32) : ∃ vx : Int32, ∃ σ1 : j_G, f_X11_paste a1 a2 a3 a4 a5 σ = some (vx, σ1) ∧ ∃ vm : Int32, ∃ τ1 : j_G, f_X12_paste a1 a2 a3 a4 a5 τ = some (vm, τ1) ∧ j_Rel σ1 τ1 := by
  obtain ⟨v, σ1, τ1, e1, e2, r⟩ := z_paste hR a1 a2 a3 a4 a5
  exact ⟨v, σ1, e1, v, τ1, e2, r⟩
/-! ===== each call of the law ===== -/
theorem x_case0 (L : Nat) (xs : Nat → Int32) (i : Int32) (h0 : ¬ (i < 0 ∨ L ≤ (i).toNatClampNeg)) (h1 : ¬ (i + 1 < 0 ∨ L ≤ (i + 1).toNatClampNeg)) (h2 : ¬ (i + 2 < 0 ∨ L ≤ (i + 2).toNatClampNeg)) (h3 : ¬ (i + 3 < 0 ∨ L ≤ (i + 3).toNatClampNeg)) (h4 : ¬ (i + 4 < 0 ∨ L ≤ (i + 4).toNatClampNeg)) (h5 : ¬ (i + 5 < 0 ∨ L ≤ (i + 5).toNatClampNeg)) {σ τ : j_G} (hR : j_Rel σ τ) {P : Option Value × xH × Nat × Nat → Prop} (kk : ∀ σ τ : j_G, j_Rel σ τ → x_R x_mt (some (L, xs)) 10 M_law (18, [(3, .int (i + Int32.ofInt (6))), (2, .ref 75), (1, .ref 0), (0, .ref x_scr)], [], j_hp true σ τ, 98, 10728) P) : x_R x_mt (some (L, xs)) 10 M_law (328, [(3, .int i), (2, .ref 75), (1, .ref 0), (0, .ref x_scr)], [], j_hp true σ τ, 98, 10728) P := by
  obtain ⟨vx, σ1, ex, vm, τ1, em, hR1⟩ := s_feed hR (xs ((i + 1)).toNatClampNeg) (xs ((i + 2)).toNatClampNeg) (xs ((i + 3)).toNatClampNeg) (xs ((i + 4)).toNatClampNeg) (xs ((i + 5)).toNatClampNeg)
  refine x_c0a _ L xs i h0 h1 h2 h3 h4 h5 ?_
  refine j_RcSi (s := true) (D := 1) (ai := 112) (vs := [.ref 0, .int (xs ((i + 1)).toNatClampNeg), .int (xs ((i + 2)).toNatClampNeg), .int (xs ((i + 3)).toNatClampNeg), .int (xs ((i + 4)).toNatClampNeg), .int (xs ((i + 5)).toNatClampNeg)]) (rest := []) (fun _ => j_Lsc lr_354 rfl) (c_X11_feed (xs ((i + 1)).toNatClampNeg) (xs ((i + 2)).toNatClampNeg) (xs ((i + 3)).toNatClampNeg) (xs ((i + 4)).toNatClampNeg) (xs ((i + 5)).toNatClampNeg) σ) (by decide) ex ?_
  refine x_c0b _ L xs i h0 h1 h2 h3 h4 h5 vx ?_
  rw [j_swp]
  refine j_RcSi (s := false) (D := 0) (ai := 208) (vs := [.ref 75, .int (xs ((i + 1)).toNatClampNeg), .int (xs ((i + 2)).toNatClampNeg), .int (xs ((i + 3)).toNatClampNeg), .int (xs ((i + 4)).toNatClampNeg), .int (xs ((i + 5)).toNatClampNeg)]) (rest := []) (fun _ => j_Lsc lr_384 rfl) (c_X12_feed (xs ((i + 1)).toNatClampNeg) (xs ((i + 2)).toNatClampNeg) (xs ((i + 3)).toNatClampNeg) (xs ((i + 4)).toNatClampNeg) (xs ((i + 5)).toNatClampNeg) τ) (by decide) em ?_
  refine x_c0d _ L xs i h0 h1 h2 h3 h4 h5 vm ?_
  rw [← j_swp]
  exact kk _ _ hR1

theorem x_case1 (L : Nat) (xs : Nat → Int32) (i : Int32) (h0 : ¬ (i < 0 ∨ L ≤ (i).toNatClampNeg)) (h1 : ¬ (i + 1 < 0 ∨ L ≤ (i + 1).toNatClampNeg)) (h2 : ¬ (i + 2 < 0 ∨ L ≤ (i + 2).toNatClampNeg)) (h3 : ¬ (i + 3 < 0 ∨ L ≤ (i + 3).toNatClampNeg)) (h4 : ¬ (i + 4 < 0 ∨ L ≤ (i + 4).toNatClampNeg)) (h5 : ¬ (i + 5 < 0 ∨ L ≤ (i + 5).toNatClampNeg)) {σ τ : j_G} (hR : j_Rel σ τ) {P : Option Value × xH × Nat × Nat → Prop} (kk : ∀ σ τ : j_G, j_Rel σ τ → x_R x_mt (some (L, xs)) 10 M_law (18, [(3, .int (i + Int32.ofInt (6))), (2, .ref 75), (1, .ref 0), (0, .ref x_scr)], [], j_hp true σ τ, 98, 10728) P) : x_R x_mt (some (L, xs)) 10 M_law (391, [(3, .int i), (2, .ref 75), (1, .ref 0), (0, .ref x_scr)], [], j_hp true σ τ, 98, 10728) P := by
  obtain ⟨vx, σ1, ex, vm, τ1, em, hR1⟩ := s_end hR (xs ((i + 1)).toNatClampNeg)
  refine x_c1a _ L xs i h0 h1 h2 h3 h4 h5 ?_
  refine j_RcSi (s := true) (D := 0) (ai := 113) (vs := [.ref 0, .int (xs ((i + 1)).toNatClampNeg)]) (rest := []) (fun _ => j_Lsc lr_397 rfl) (c_X11_end (xs ((i + 1)).toNatClampNeg) σ) (by decide) ex ?_
  refine x_c1b _ L xs i h0 h1 h2 h3 h4 h5 vx ?_
  rw [j_swp]
  refine j_RcSi (s := false) (D := 1) (ai := 209) (vs := [.ref 75, .int (xs ((i + 1)).toNatClampNeg)]) (rest := []) (fun _ => j_Lsc lr_407 rfl) (c_X12_end (xs ((i + 1)).toNatClampNeg) τ) (by decide) em ?_
  refine x_c1d _ L xs i h0 h1 h2 h3 h4 h5 vm ?_
  rw [← j_swp]
  exact kk _ _ hR1

theorem x_case2 (L : Nat) (xs : Nat → Int32) (i : Int32) (h0 : ¬ (i < 0 ∨ L ≤ (i).toNatClampNeg)) (h1 : ¬ (i + 1 < 0 ∨ L ≤ (i + 1).toNatClampNeg)) (h2 : ¬ (i + 2 < 0 ∨ L ≤ (i + 2).toNatClampNeg)) (h3 : ¬ (i + 3 < 0 ∨ L ≤ (i + 3).toNatClampNeg)) (h4 : ¬ (i + 4 < 0 ∨ L ≤ (i + 4).toNatClampNeg)) (h5 : ¬ (i + 5 < 0 ∨ L ≤ (i + 5).toNatClampNeg)) {σ τ : j_G} (hR : j_Rel σ τ) {P : Option Value × xH × Nat × Nat → Prop} (kk : ∀ σ τ : j_G, j_Rel σ τ → x_R x_mt (some (L, xs)) 10 M_law (18, [(3, .int (i + Int32.ofInt (6))), (2, .ref 75), (1, .ref 0), (0, .ref x_scr)], [], j_hp true σ τ, 98, 10728) P) : x_R x_mt (some (L, xs)) 10 M_law (414, [(3, .int i), (2, .ref 75), (1, .ref 0), (0, .ref x_scr)], [], j_hp true σ τ, 98, 10728) P := by
  obtain ⟨vx, σ1, ex, vm, τ1, em, hR1⟩ := s_board hR 
  refine x_c2a _ L xs i h0 h1 h2 h3 h4 h5 ?_
  refine j_RcSi (s := true) (D := 6) (ai := 114) (vs := [.ref 0]) (rest := []) (fun _ => j_Lsc lr_415 rfl) (c_X11_board  σ) (by decide) ex ?_
  refine x_c2b _ L xs i h0 h1 h2 h3 h4 h5 vx ?_
  rw [j_swp]
  refine j_RcSi (s := false) (D := 8) (ai := 232) (vs := [.ref 75]) (rest := []) (fun _ => j_Lsc lr_420 rfl) (c_X12_board  τ) (by decide) em ?_
  refine x_c2d _ L xs i h0 h1 h2 h3 h4 h5 vm ?_
  rw [← j_swp]
  exact kk _ _ hR1

theorem x_case3 (L : Nat) (xs : Nat → Int32) (i : Int32) (h0 : ¬ (i < 0 ∨ L ≤ (i).toNatClampNeg)) (h1 : ¬ (i + 1 < 0 ∨ L ≤ (i + 1).toNatClampNeg)) (h2 : ¬ (i + 2 < 0 ∨ L ≤ (i + 2).toNatClampNeg)) (h3 : ¬ (i + 3 < 0 ∨ L ≤ (i + 3).toNatClampNeg)) (h4 : ¬ (i + 4 < 0 ∨ L ≤ (i + 4).toNatClampNeg)) (h5 : ¬ (i + 5 < 0 ∨ L ≤ (i + 5).toNatClampNeg)) {σ τ : j_G} (hR : j_Rel σ τ) {P : Option Value × xH × Nat × Nat → Prop} (kk : ∀ σ τ : j_G, j_Rel σ τ → x_R x_mt (some (L, xs)) 10 M_law (18, [(3, .int (i + Int32.ofInt (6))), (2, .ref 75), (1, .ref 0), (0, .ref x_scr)], [], j_hp true σ τ, 98, 10728) P) : x_R x_mt (some (L, xs)) 10 M_law (427, [(3, .int i), (2, .ref 75), (1, .ref 0), (0, .ref x_scr)], [], j_hp true σ τ, 98, 10728) P := by
  obtain ⟨vx, ex, vm, em, hR1⟩ := s_fault hR (xs ((i + 1)).toNatClampNeg)
  refine x_c3a _ L xs i h0 h1 h2 h3 h4 h5 ?_
  refine j_RcTi (s := true) (D := 0) (ai := 115) (vs := [.ref 0, .int (xs ((i + 1)).toNatClampNeg)]) (rest := []) (fun _ => j_Lsc lr_433 rfl) (c_X11_fault (xs ((i + 1)).toNatClampNeg) σ) (by decide) ex ?_
  refine x_c3b _ L xs i h0 h1 h2 h3 h4 h5 vx ?_
  rw [j_swp]
  refine j_RcTi (s := false) (D := 0) (ai := 219) (vs := [.ref 75, .int (xs ((i + 1)).toNatClampNeg)]) (rest := []) (fun _ => j_Lsc lr_443 rfl) (c_X12_fault (xs ((i + 1)).toNatClampNeg) τ) (by decide) em ?_
  refine x_c3d _ L xs i h0 h1 h2 h3 h4 h5 vm ?_
  rw [← j_swp]
  exact kk _ _ hR1

theorem x_case4 (L : Nat) (xs : Nat → Int32) (i : Int32) (h0 : ¬ (i < 0 ∨ L ≤ (i).toNatClampNeg)) (h1 : ¬ (i + 1 < 0 ∨ L ≤ (i + 1).toNatClampNeg)) (h2 : ¬ (i + 2 < 0 ∨ L ≤ (i + 2).toNatClampNeg)) (h3 : ¬ (i + 3 < 0 ∨ L ≤ (i + 3).toNatClampNeg)) (h4 : ¬ (i + 4 < 0 ∨ L ≤ (i + 4).toNatClampNeg)) (h5 : ¬ (i + 5 < 0 ∨ L ≤ (i + 5).toNatClampNeg)) {σ τ : j_G} (hR : j_Rel σ τ) {P : Option Value × xH × Nat × Nat → Prop} (kk : ∀ σ τ : j_G, j_Rel σ τ → x_R x_mt (some (L, xs)) 10 M_law (18, [(3, .int (i + Int32.ofInt (6))), (2, .ref 75), (1, .ref 0), (0, .ref x_scr)], [], j_hp true σ τ, 98, 10728) P) : x_R x_mt (some (L, xs)) 10 M_law (450, [(3, .int i), (2, .ref 75), (1, .ref 0), (0, .ref x_scr)], [], j_hp true σ τ, 98, 10728) P := by
  obtain ⟨vx, ex, vm, em, hR1⟩ := s_drum hR (xs ((i + 1)).toNatClampNeg) (xs ((i + 2)).toNatClampNeg)
  refine x_c4a _ L xs i h0 h1 h2 h3 h4 h5 ?_
  refine j_RcPi (s := true) (D := 1) (ai := 116) (vs := [.ref 0, .int (xs ((i + 1)).toNatClampNeg), .int (xs ((i + 2)).toNatClampNeg)]) (rest := []) (fun _ => j_Lsc lr_461 rfl) (c_X11_drum (xs ((i + 1)).toNatClampNeg) (xs ((i + 2)).toNatClampNeg) σ) (by decide) ex ?_
  refine x_c4b _ L xs i h0 h1 h2 h3 h4 h5 vx ?_
  rw [j_swp]
  refine j_RcPi (s := false) (D := 2) (ai := 239) (vs := [.ref 75, .int (xs ((i + 1)).toNatClampNeg), .int (xs ((i + 2)).toNatClampNeg)]) (rest := []) (fun _ => j_Lsc lr_476 rfl) (c_X12_drum (xs ((i + 1)).toNatClampNeg) (xs ((i + 2)).toNatClampNeg) τ) (by decide) em ?_
  refine x_c4d _ L xs i h0 h1 h2 h3 h4 h5 vm ?_
  rw [← j_swp]
  exact kk _ _ hR1

theorem x_case5 (L : Nat) (xs : Nat → Int32) (i : Int32) (h0 : ¬ (i < 0 ∨ L ≤ (i).toNatClampNeg)) (h1 : ¬ (i + 1 < 0 ∨ L ≤ (i + 1).toNatClampNeg)) (h2 : ¬ (i + 2 < 0 ∨ L ≤ (i + 2).toNatClampNeg)) (h3 : ¬ (i + 3 < 0 ∨ L ≤ (i + 3).toNatClampNeg)) (h4 : ¬ (i + 4 < 0 ∨ L ≤ (i + 4).toNatClampNeg)) (h5 : ¬ (i + 5 < 0 ∨ L ≤ (i + 5).toNatClampNeg)) {σ τ : j_G} (hR : j_Rel σ τ) {P : Option Value × xH × Nat × Nat → Prop} (kk : ∀ σ τ : j_G, j_Rel σ τ → x_R x_mt (some (L, xs)) 10 M_law (18, [(3, .int (i + Int32.ofInt (6))), (2, .ref 75), (1, .ref 0), (0, .ref x_scr)], [], j_hp true σ τ, 98, 10728) P) : x_R x_mt (some (L, xs)) 10 M_law (483, [(3, .int i), (2, .ref 75), (1, .ref 0), (0, .ref x_scr)], [], j_hp true σ τ, 98, 10728) P := by
  obtain ⟨vx, ex, vm, em, hR1⟩ := s_player hR (xs ((i + 1)).toNatClampNeg) (xs ((i + 2)).toNatClampNeg)
  refine x_c5a _ L xs i h0 h1 h2 h3 h4 h5 ?_
  refine j_RcPi (s := true) (D := 1) (ai := 117) (vs := [.ref 0, .int (xs ((i + 1)).toNatClampNeg), .int (xs ((i + 2)).toNatClampNeg)]) (rest := []) (fun _ => j_Lsc lr_494 rfl) (c_X11_player (xs ((i + 1)).toNatClampNeg) (xs ((i + 2)).toNatClampNeg) σ) (by decide) ex ?_
  refine x_c5b _ L xs i h0 h1 h2 h3 h4 h5 vx ?_
  rw [j_swp]
  refine j_RcPi (s := false) (D := 2) (ai := 240) (vs := [.ref 75, .int (xs ((i + 1)).toNatClampNeg), .int (xs ((i + 2)).toNatClampNeg)]) (rest := []) (fun _ => j_Lsc lr_509 rfl) (c_X12_player (xs ((i + 1)).toNatClampNeg) (xs ((i + 2)).toNatClampNeg) τ) (by decide) em ?_
  refine x_c5d _ L xs i h0 h1 h2 h3 h4 h5 vm ?_
  rw [← j_swp]
  exact kk _ _ hR1

theorem x_case6 (L : Nat) (xs : Nat → Int32) (i : Int32) (h0 : ¬ (i < 0 ∨ L ≤ (i).toNatClampNeg)) (h1 : ¬ (i + 1 < 0 ∨ L ≤ (i + 1).toNatClampNeg)) (h2 : ¬ (i + 2 < 0 ∨ L ≤ (i + 2).toNatClampNeg)) (h3 : ¬ (i + 3 < 0 ∨ L ≤ (i + 3).toNatClampNeg)) (h4 : ¬ (i + 4 < 0 ∨ L ≤ (i + 4).toNatClampNeg)) (h5 : ¬ (i + 5 < 0 ∨ L ≤ (i + 5).toNatClampNeg)) {σ τ : j_G} (hR : j_Rel σ τ) {P : Option Value × xH × Nat × Nat → Prop} (kk : ∀ σ τ : j_G, j_Rel σ τ → x_R x_mt (some (L, xs)) 10 M_law (18, [(3, .int (i + Int32.ofInt (6))), (2, .ref 75), (1, .ref 0), (0, .ref x_scr)], [], j_hp true σ τ, 98, 10728) P) : x_R x_mt (some (L, xs)) 10 M_law (516, [(3, .int i), (2, .ref 75), (1, .ref 0), (0, .ref x_scr)], [], j_hp true σ τ, 98, 10728) P := by
  obtain ⟨vx, ex, vm, em, hR1⟩ := s_stay hR (xs ((i + 1)).toNatClampNeg)
  refine x_c6a _ L xs i h0 h1 h2 h3 h4 h5 ?_
  refine j_RcPi (s := true) (D := 1) (ai := 118) (vs := [.ref 0, .int (xs ((i + 1)).toNatClampNeg)]) (rest := []) (fun _ => j_Lsc lr_522 rfl) (c_X11_stay (xs ((i + 1)).toNatClampNeg) σ) (by decide) ex ?_
  refine x_c6b _ L xs i h0 h1 h2 h3 h4 h5 vx ?_
  rw [j_swp]
  refine j_RcPi (s := false) (D := 2) (ai := 241) (vs := [.ref 75, .int (xs ((i + 1)).toNatClampNeg)]) (rest := []) (fun _ => j_Lsc lr_532 rfl) (c_X12_stay (xs ((i + 1)).toNatClampNeg) τ) (by decide) em ?_
  refine x_c6d _ L xs i h0 h1 h2 h3 h4 h5 vm ?_
  rw [← j_swp]
  exact kk _ _ hR1

theorem x_case7 (L : Nat) (xs : Nat → Int32) (i : Int32) (h0 : ¬ (i < 0 ∨ L ≤ (i).toNatClampNeg)) (h1 : ¬ (i + 1 < 0 ∨ L ≤ (i + 1).toNatClampNeg)) (h2 : ¬ (i + 2 < 0 ∨ L ≤ (i + 2).toNatClampNeg)) (h3 : ¬ (i + 3 < 0 ∨ L ≤ (i + 3).toNatClampNeg)) (h4 : ¬ (i + 4 < 0 ∨ L ≤ (i + 4).toNatClampNeg)) (h5 : ¬ (i + 5 < 0 ∨ L ≤ (i + 5).toNatClampNeg)) {σ τ : j_G} (hR : j_Rel σ τ) {P : Option Value × xH × Nat × Nat → Prop} (kk : ∀ σ τ : j_G, j_Rel σ τ → x_R x_mt (some (L, xs)) 10 M_law (18, [(3, .int (i + Int32.ofInt (6))), (2, .ref 75), (1, .ref 0), (0, .ref x_scr)], [], j_hp true σ τ, 98, 10728) P) : x_R x_mt (some (L, xs)) 10 M_law (539, [(3, .int i), (2, .ref 75), (1, .ref 0), (0, .ref x_scr)], [], j_hp true σ τ, 98, 10728) P := by
  obtain ⟨vx, σ1, ex, vm, τ1, em, hR1⟩ := s_comings hR 
  refine x_c7a _ L xs i h0 h1 h2 h3 h4 h5 ?_
  refine j_RcSi (s := true) (D := 3) (ai := 120) (vs := [.ref 0]) (rest := []) (fun _ => j_Lsc lr_540 rfl) (c_X11_comings  σ) (by decide) ex ?_
  refine x_c7b _ L xs i h0 h1 h2 h3 h4 h5 vx ?_
  rw [j_swp]
  refine j_RcSi (s := false) (D := 3) (ai := 242) (vs := [.ref 75]) (rest := []) (fun _ => j_Lsc lr_545 rfl) (c_X12_comings  τ) (by decide) em ?_
  refine x_c7d _ L xs i h0 h1 h2 h3 h4 h5 vm ?_
  rw [← j_swp]
  exact kk _ _ hR1

theorem x_case8 (L : Nat) (xs : Nat → Int32) (i : Int32) (h0 : ¬ (i < 0 ∨ L ≤ (i).toNatClampNeg)) (h1 : ¬ (i + 1 < 0 ∨ L ≤ (i + 1).toNatClampNeg)) (h2 : ¬ (i + 2 < 0 ∨ L ≤ (i + 2).toNatClampNeg)) (h3 : ¬ (i + 3 < 0 ∨ L ≤ (i + 3).toNatClampNeg)) (h4 : ¬ (i + 4 < 0 ∨ L ≤ (i + 4).toNatClampNeg)) (h5 : ¬ (i + 5 < 0 ∨ L ≤ (i + 5).toNatClampNeg)) {σ τ : j_G} (hR : j_Rel σ τ) {P : Option Value × xH × Nat × Nat → Prop} (kk : ∀ σ τ : j_G, j_Rel σ τ → x_R x_mt (some (L, xs)) 10 M_law (18, [(3, .int (i + Int32.ofInt (6))), (2, .ref 75), (1, .ref 0), (0, .ref x_scr)], [], j_hp true σ τ, 98, 10728) P) : x_R x_mt (some (L, xs)) 10 M_law (552, [(3, .int i), (2, .ref 75), (1, .ref 0), (0, .ref x_scr)], [], j_hp true σ τ, 98, 10728) P := by
  obtain ⟨vx, σ1, ex, vm, τ1, em, hR1⟩ := s_comes hR (xs ((i + 1)).toNatClampNeg) (xs ((i + 2)).toNatClampNeg)
  refine x_c8a _ L xs i h0 h1 h2 h3 h4 h5 ?_
  refine j_RcSi (s := true) (D := 3) (ai := 121) (vs := [.ref 0, .int (xs ((i + 1)).toNatClampNeg), .int (xs ((i + 2)).toNatClampNeg)]) (rest := []) (fun _ => j_Lsc lr_563 rfl) (c_X11_comes (xs ((i + 1)).toNatClampNeg) (xs ((i + 2)).toNatClampNeg) σ) (by decide) ex ?_
  refine x_c8b _ L xs i h0 h1 h2 h3 h4 h5 vx ?_
  rw [j_swp]
  refine j_RcSi (s := false) (D := 3) (ai := 244) (vs := [.ref 75, .int (xs ((i + 1)).toNatClampNeg), .int (xs ((i + 2)).toNatClampNeg)]) (rest := []) (fun _ => j_Lsc lr_578 rfl) (c_X12_comes (xs ((i + 1)).toNatClampNeg) (xs ((i + 2)).toNatClampNeg) τ) (by decide) em ?_
  refine x_c8d _ L xs i h0 h1 h2 h3 h4 h5 vm ?_
  rw [← j_swp]
  exact kk _ _ hR1

theorem x_case9 (L : Nat) (xs : Nat → Int32) (i : Int32) (h0 : ¬ (i < 0 ∨ L ≤ (i).toNatClampNeg)) (h1 : ¬ (i + 1 < 0 ∨ L ≤ (i + 1).toNatClampNeg)) (h2 : ¬ (i + 2 < 0 ∨ L ≤ (i + 2).toNatClampNeg)) (h3 : ¬ (i + 3 < 0 ∨ L ≤ (i + 3).toNatClampNeg)) (h4 : ¬ (i + 4 < 0 ∨ L ≤ (i + 4).toNatClampNeg)) (h5 : ¬ (i + 5 < 0 ∨ L ≤ (i + 5).toNatClampNeg)) {σ τ : j_G} (hR : j_Rel σ τ) {P : Option Value × xH × Nat × Nat → Prop} (kk : ∀ σ τ : j_G, j_Rel σ τ → x_R x_mt (some (L, xs)) 10 M_law (18, [(3, .int (i + Int32.ofInt (6))), (2, .ref 75), (1, .ref 0), (0, .ref x_scr)], [], j_hp true σ τ, 98, 10728) P) : x_R x_mt (some (L, xs)) 10 M_law (585, [(3, .int i), (2, .ref 75), (1, .ref 0), (0, .ref x_scr)], [], j_hp true σ τ, 98, 10728) P := by
  obtain ⟨vx, σ1, ex, vm, τ1, em, hR1⟩ := s_up hR (xs ((i + 1)).toNatClampNeg)
  refine x_c9a _ L xs i h0 h1 h2 h3 h4 h5 ?_
  refine j_RcSi (s := true) (D := 3) (ai := 122) (vs := [.ref 0, .int (xs ((i + 1)).toNatClampNeg)]) (rest := []) (fun _ => j_Lsc lr_591 rfl) (c_X11_up (xs ((i + 1)).toNatClampNeg) σ) (by decide) ex ?_
  refine x_c9b _ L xs i h0 h1 h2 h3 h4 h5 vx ?_
  rw [j_swp]
  refine j_RcSi (s := false) (D := 3) (ai := 246) (vs := [.ref 75, .int (xs ((i + 1)).toNatClampNeg)]) (rest := []) (fun _ => j_Lsc lr_601 rfl) (c_X12_up (xs ((i + 1)).toNatClampNeg) τ) (by decide) em ?_
  refine x_c9d _ L xs i h0 h1 h2 h3 h4 h5 vm ?_
  rw [← j_swp]
  exact kk _ _ hR1

theorem x_case10 (L : Nat) (xs : Nat → Int32) (i : Int32) (h0 : ¬ (i < 0 ∨ L ≤ (i).toNatClampNeg)) (h1 : ¬ (i + 1 < 0 ∨ L ≤ (i + 1).toNatClampNeg)) (h2 : ¬ (i + 2 < 0 ∨ L ≤ (i + 2).toNatClampNeg)) (h3 : ¬ (i + 3 < 0 ∨ L ≤ (i + 3).toNatClampNeg)) (h4 : ¬ (i + 4 < 0 ∨ L ≤ (i + 4).toNatClampNeg)) (h5 : ¬ (i + 5 < 0 ∨ L ≤ (i + 5).toNatClampNeg)) {σ τ : j_G} (hR : j_Rel σ τ) {P : Option Value × xH × Nat × Nat → Prop} (kk : ∀ σ τ : j_G, j_Rel σ τ → x_R x_mt (some (L, xs)) 10 M_law (18, [(3, .int (i + Int32.ofInt (6))), (2, .ref 75), (1, .ref 0), (0, .ref x_scr)], [], j_hp true σ τ, 98, 10728) P) : x_R x_mt (some (L, xs)) 10 M_law (608, [(3, .int i), (2, .ref 75), (1, .ref 0), (0, .ref x_scr)], [], j_hp true σ τ, 98, 10728) P := by
  obtain ⟨vx, σ1, ex, vm, τ1, em, hR1⟩ := s_calm hR 
  refine x_c10a _ L xs i h0 h1 h2 h3 h4 h5 ?_
  refine j_RcSi (s := true) (D := 3) (ai := 123) (vs := [.ref 0]) (rest := []) (fun _ => j_Lsc lr_609 rfl) (c_X11_calm  σ) (by decide) ex ?_
  refine x_c10b _ L xs i h0 h1 h2 h3 h4 h5 vx ?_
  rw [j_swp]
  refine j_RcSi (s := false) (D := 3) (ai := 247) (vs := [.ref 75]) (rest := []) (fun _ => j_Lsc lr_614 rfl) (c_X12_calm  τ) (by decide) em ?_
  refine x_c10d _ L xs i h0 h1 h2 h3 h4 h5 vm ?_
  rw [← j_swp]
  exact kk _ _ hR1

theorem x_case11 (L : Nat) (xs : Nat → Int32) (i : Int32) (h0 : ¬ (i < 0 ∨ L ≤ (i).toNatClampNeg)) (h1 : ¬ (i + 1 < 0 ∨ L ≤ (i + 1).toNatClampNeg)) (h2 : ¬ (i + 2 < 0 ∨ L ≤ (i + 2).toNatClampNeg)) (h3 : ¬ (i + 3 < 0 ∨ L ≤ (i + 3).toNatClampNeg)) (h4 : ¬ (i + 4 < 0 ∨ L ≤ (i + 4).toNatClampNeg)) (h5 : ¬ (i + 5 < 0 ∨ L ≤ (i + 5).toNatClampNeg)) {σ τ : j_G} (hR : j_Rel σ τ) {P : Option Value × xH × Nat × Nat → Prop} (kk : ∀ σ τ : j_G, j_Rel σ τ → x_R x_mt (some (L, xs)) 10 M_law (18, [(3, .int (i + Int32.ofInt (6))), (2, .ref 75), (1, .ref 0), (0, .ref x_scr)], [], j_hp true σ τ, 98, 10728) P) : x_R x_mt (some (L, xs)) 10 M_law (621, [(3, .int i), (2, .ref 75), (1, .ref 0), (0, .ref x_scr)], [], j_hp true σ τ, 98, 10728) P := by
  obtain ⟨vx, ex, vm, em, hR1⟩ := s_steps hR (xs ((i + 1)).toNatClampNeg) (xs ((i + 2)).toNatClampNeg)
  refine x_c11a _ L xs i h0 h1 h2 h3 h4 h5 ?_
  refine j_RcPi (s := true) (D := 2) (ai := 124) (vs := [.ref 0, .int (xs ((i + 1)).toNatClampNeg), .int (xs ((i + 2)).toNatClampNeg)]) (rest := []) (fun _ => j_Lsc lr_632 rfl) (c_X11_steps (xs ((i + 1)).toNatClampNeg) (xs ((i + 2)).toNatClampNeg) σ) (by decide) ex ?_
  refine x_c11b _ L xs i h0 h1 h2 h3 h4 h5 vx ?_
  rw [j_swp]
  refine j_RcPi (s := false) (D := 2) (ai := 249) (vs := [.ref 75, .int (xs ((i + 1)).toNatClampNeg), .int (xs ((i + 2)).toNatClampNeg)]) (rest := []) (fun _ => j_Lsc lr_647 rfl) (c_X12_steps (xs ((i + 1)).toNatClampNeg) (xs ((i + 2)).toNatClampNeg) τ) (by decide) em ?_
  refine x_c11d _ L xs i h0 h1 h2 h3 h4 h5 vm ?_
  rw [← j_swp]
  exact kk _ _ hR1

theorem x_case12 (L : Nat) (xs : Nat → Int32) (i : Int32) (h0 : ¬ (i < 0 ∨ L ≤ (i).toNatClampNeg)) (h1 : ¬ (i + 1 < 0 ∨ L ≤ (i + 1).toNatClampNeg)) (h2 : ¬ (i + 2 < 0 ∨ L ≤ (i + 2).toNatClampNeg)) (h3 : ¬ (i + 3 < 0 ∨ L ≤ (i + 3).toNatClampNeg)) (h4 : ¬ (i + 4 < 0 ∨ L ≤ (i + 4).toNatClampNeg)) (h5 : ¬ (i + 5 < 0 ∨ L ≤ (i + 5).toNatClampNeg)) {σ τ : j_G} (hR : j_Rel σ τ) {P : Option Value × xH × Nat × Nat → Prop} (kk : ∀ σ τ : j_G, j_Rel σ τ → x_R x_mt (some (L, xs)) 10 M_law (18, [(3, .int (i + Int32.ofInt (6))), (2, .ref 75), (1, .ref 0), (0, .ref x_scr)], [], j_hp true σ τ, 98, 10728) P) : x_R x_mt (some (L, xs)) 10 M_law (654, [(3, .int i), (2, .ref 75), (1, .ref 0), (0, .ref x_scr)], [], j_hp true σ τ, 98, 10728) P := by
  obtain ⟨vx, σ1, ex, vm, em, hR1⟩ := s_pace hR (xs ((i + 1)).toNatClampNeg) (xs ((i + 2)).toNatClampNeg)
  refine x_c12a _ L xs i h0 h1 h2 h3 h4 h5 ?_
  refine j_RcSi (s := true) (D := 2) (ai := 125) (vs := [.ref 0, .int (xs ((i + 1)).toNatClampNeg), .int (xs ((i + 2)).toNatClampNeg)]) (rest := []) (fun _ => j_Lsc lr_665 rfl) (c_X11_pace (xs ((i + 1)).toNatClampNeg) (xs ((i + 2)).toNatClampNeg) σ) (by decide) ex ?_
  refine x_c12b _ L xs i h0 h1 h2 h3 h4 h5 vx ?_
  rw [j_swp]
  refine j_RcPi (s := false) (D := 2) (ai := 251) (vs := [.ref 75, .int (xs ((i + 1)).toNatClampNeg), .int (xs ((i + 2)).toNatClampNeg)]) (rest := []) (fun _ => j_Lsc lr_680 rfl) (c_X12_pace (xs ((i + 1)).toNatClampNeg) (xs ((i + 2)).toNatClampNeg) τ) (by decide) em ?_
  refine x_c12d _ L xs i h0 h1 h2 h3 h4 h5 vm ?_
  rw [← j_swp]
  exact kk _ _ hR1

theorem x_case13 (L : Nat) (xs : Nat → Int32) (i : Int32) (h0 : ¬ (i < 0 ∨ L ≤ (i).toNatClampNeg)) (h1 : ¬ (i + 1 < 0 ∨ L ≤ (i + 1).toNatClampNeg)) (h2 : ¬ (i + 2 < 0 ∨ L ≤ (i + 2).toNatClampNeg)) (h3 : ¬ (i + 3 < 0 ∨ L ≤ (i + 3).toNatClampNeg)) (h4 : ¬ (i + 4 < 0 ∨ L ≤ (i + 4).toNatClampNeg)) (h5 : ¬ (i + 5 < 0 ∨ L ≤ (i + 5).toNatClampNeg)) {σ τ : j_G} (hR : j_Rel σ τ) {P : Option Value × xH × Nat × Nat → Prop} (kk : ∀ σ τ : j_G, j_Rel σ τ → x_R x_mt (some (L, xs)) 10 M_law (18, [(3, .int (i + Int32.ofInt (6))), (2, .ref 75), (1, .ref 0), (0, .ref x_scr)], [], j_hp true σ τ, 98, 10728) P) : x_R x_mt (some (L, xs)) 10 M_law (687, [(3, .int i), (2, .ref 75), (1, .ref 0), (0, .ref x_scr)], [], j_hp true σ τ, 98, 10728) P := by
  obtain ⟨vx, σ1, ex, vm, τ1, em, hR1⟩ := s_aware hR (xs ((i + 1)).toNatClampNeg) (xs ((i + 2)).toNatClampNeg)
  refine x_c13a _ L xs i h0 h1 h2 h3 h4 h5 ?_
  refine j_RcSi (s := true) (D := 4) (ai := 126) (vs := [.ref 0, .int (xs ((i + 1)).toNatClampNeg), .int (xs ((i + 2)).toNatClampNeg)]) (rest := []) (fun _ => j_Lsc lr_698 rfl) (c_X11_aware (xs ((i + 1)).toNatClampNeg) (xs ((i + 2)).toNatClampNeg) σ) (by decide) ex ?_
  refine x_c13b _ L xs i h0 h1 h2 h3 h4 h5 vx ?_
  rw [j_swp]
  refine j_RcSi (s := false) (D := 3) (ai := 254) (vs := [.ref 75, .int (xs ((i + 1)).toNatClampNeg), .int (xs ((i + 2)).toNatClampNeg)]) (rest := []) (fun _ => j_Lsc lr_713 rfl) (c_X12_aware (xs ((i + 1)).toNatClampNeg) (xs ((i + 2)).toNatClampNeg) τ) (by decide) em ?_
  refine x_c13d _ L xs i h0 h1 h2 h3 h4 h5 vm ?_
  rw [← j_swp]
  exact kk _ _ hR1

theorem x_case14 (L : Nat) (xs : Nat → Int32) (i : Int32) (h0 : ¬ (i < 0 ∨ L ≤ (i).toNatClampNeg)) (h1 : ¬ (i + 1 < 0 ∨ L ≤ (i + 1).toNatClampNeg)) (h2 : ¬ (i + 2 < 0 ∨ L ≤ (i + 2).toNatClampNeg)) (h3 : ¬ (i + 3 < 0 ∨ L ≤ (i + 3).toNatClampNeg)) (h4 : ¬ (i + 4 < 0 ∨ L ≤ (i + 4).toNatClampNeg)) (h5 : ¬ (i + 5 < 0 ∨ L ≤ (i + 5).toNatClampNeg)) {σ τ : j_G} (hR : j_Rel σ τ) {P : Option Value × xH × Nat × Nat → Prop} (kk : ∀ σ τ : j_G, j_Rel σ τ → x_R x_mt (some (L, xs)) 10 M_law (18, [(3, .int (i + Int32.ofInt (6))), (2, .ref 75), (1, .ref 0), (0, .ref x_scr)], [], j_hp true σ τ, 98, 10728) P) : x_R x_mt (some (L, xs)) 10 M_law (720, [(3, .int i), (2, .ref 75), (1, .ref 0), (0, .ref x_scr)], [], j_hp true σ τ, 98, 10728) P := by
  obtain ⟨vx, σ1, ex, vm, τ1, em, hR1⟩ := s_hits hR (xs ((i + 1)).toNatClampNeg)
  refine x_c14a _ L xs i h0 h1 h2 h3 h4 h5 ?_
  refine j_RcSi (s := true) (D := 6) (ai := 127) (vs := [.ref 0, .int (xs ((i + 1)).toNatClampNeg)]) (rest := []) (fun _ => j_Lsc lr_726 rfl) (c_X11_hits (xs ((i + 1)).toNatClampNeg) σ) (by decide) ex ?_
  refine x_c14b _ L xs i h0 h1 h2 h3 h4 h5 vx ?_
  rw [j_swp]
  refine j_RcSi (s := false) (D := 6) (ai := 260) (vs := [.ref 75, .int (xs ((i + 1)).toNatClampNeg)]) (rest := []) (fun _ => j_Lsc lr_736 rfl) (c_X12_hits (xs ((i + 1)).toNatClampNeg) τ) (by decide) em ?_
  refine x_c14d _ L xs i h0 h1 h2 h3 h4 h5 vm ?_
  rw [← j_swp]
  exact kk _ _ hR1

theorem x_case15 (L : Nat) (xs : Nat → Int32) (i : Int32) (h0 : ¬ (i < 0 ∨ L ≤ (i).toNatClampNeg)) (h1 : ¬ (i + 1 < 0 ∨ L ≤ (i + 1).toNatClampNeg)) (h2 : ¬ (i + 2 < 0 ∨ L ≤ (i + 2).toNatClampNeg)) (h3 : ¬ (i + 3 < 0 ∨ L ≤ (i + 3).toNatClampNeg)) (h4 : ¬ (i + 4 < 0 ∨ L ≤ (i + 4).toNatClampNeg)) (h5 : ¬ (i + 5 < 0 ∨ L ≤ (i + 5).toNatClampNeg)) {σ τ : j_G} (hR : j_Rel σ τ) {P : Option Value × xH × Nat × Nat → Prop} (kk : ∀ σ τ : j_G, j_Rel σ τ → x_R x_mt (some (L, xs)) 10 M_law (18, [(3, .int (i + Int32.ofInt (6))), (2, .ref 75), (1, .ref 0), (0, .ref x_scr)], [], j_hp true σ τ, 98, 10728) P) : x_R x_mt (some (L, xs)) 10 M_law (743, [(3, .int i), (2, .ref 75), (1, .ref 0), (0, .ref x_scr)], [], j_hp true σ τ, 98, 10728) P := by
  obtain ⟨vx, σ1, ex, vm, τ1, em, hR1⟩ := s_hit hR (xs ((i + 1)).toNatClampNeg) (xs ((i + 2)).toNatClampNeg)
  refine x_c15a _ L xs i h0 h1 h2 h3 h4 h5 ?_
  refine j_RcSi (s := true) (D := 6) (ai := 128) (vs := [.ref 0, .int (xs ((i + 1)).toNatClampNeg), .int (xs ((i + 2)).toNatClampNeg)]) (rest := []) (fun _ => j_Lsc lr_754 rfl) (c_X11_hit (xs ((i + 1)).toNatClampNeg) (xs ((i + 2)).toNatClampNeg) σ) (by decide) ex ?_
  refine x_c15b _ L xs i h0 h1 h2 h3 h4 h5 vx ?_
  rw [j_swp]
  refine j_RcSi (s := false) (D := 6) (ai := 261) (vs := [.ref 75, .int (xs ((i + 1)).toNatClampNeg), .int (xs ((i + 2)).toNatClampNeg)]) (rest := []) (fun _ => j_Lsc lr_769 rfl) (c_X12_hit (xs ((i + 1)).toNatClampNeg) (xs ((i + 2)).toNatClampNeg) τ) (by decide) em ?_
  refine x_c15d _ L xs i h0 h1 h2 h3 h4 h5 vm ?_
  rw [← j_swp]
  exact kk _ _ hR1

theorem x_case16 (L : Nat) (xs : Nat → Int32) (i : Int32) (h0 : ¬ (i < 0 ∨ L ≤ (i).toNatClampNeg)) (h1 : ¬ (i + 1 < 0 ∨ L ≤ (i + 1).toNatClampNeg)) (h2 : ¬ (i + 2 < 0 ∨ L ≤ (i + 2).toNatClampNeg)) (h3 : ¬ (i + 3 < 0 ∨ L ≤ (i + 3).toNatClampNeg)) (h4 : ¬ (i + 4 < 0 ∨ L ≤ (i + 4).toNatClampNeg)) (h5 : ¬ (i + 5 < 0 ∨ L ≤ (i + 5).toNatClampNeg)) {σ τ : j_G} (hR : j_Rel σ τ) {P : Option Value × xH × Nat × Nat → Prop} (kk : ∀ σ τ : j_G, j_Rel σ τ → x_R x_mt (some (L, xs)) 10 M_law (18, [(3, .int (i + Int32.ofInt (6))), (2, .ref 75), (1, .ref 0), (0, .ref x_scr)], [], j_hp true σ τ, 98, 10728) P) : x_R x_mt (some (L, xs)) 10 M_law (776, [(3, .int i), (2, .ref 75), (1, .ref 0), (0, .ref x_scr)], [], j_hp true σ τ, 98, 10728) P := by
  obtain ⟨vx, σ1, ex, vm, τ1, em, hR1⟩ := s_twice hR (xs ((i + 1)).toNatClampNeg) (xs ((i + 2)).toNatClampNeg)
  refine x_c16a _ L xs i h0 h1 h2 h3 h4 h5 ?_
  refine j_RcSi (s := true) (D := 6) (ai := 129) (vs := [.ref 0, .int (xs ((i + 1)).toNatClampNeg), .int (xs ((i + 2)).toNatClampNeg)]) (rest := []) (fun _ => j_Lsc lr_787 rfl) (c_X11_twice (xs ((i + 1)).toNatClampNeg) (xs ((i + 2)).toNatClampNeg) σ) (by decide) ex ?_
  refine x_c16b _ L xs i h0 h1 h2 h3 h4 h5 vx ?_
  rw [j_swp]
  refine j_RcSi (s := false) (D := 6) (ai := 262) (vs := [.ref 75, .int (xs ((i + 1)).toNatClampNeg), .int (xs ((i + 2)).toNatClampNeg)]) (rest := []) (fun _ => j_Lsc lr_802 rfl) (c_X12_twice (xs ((i + 1)).toNatClampNeg) (xs ((i + 2)).toNatClampNeg) τ) (by decide) em ?_
  refine x_c16d _ L xs i h0 h1 h2 h3 h4 h5 vm ?_
  rw [← j_swp]
  exact kk _ _ hR1

theorem x_case17 (L : Nat) (xs : Nat → Int32) (i : Int32) (h0 : ¬ (i < 0 ∨ L ≤ (i).toNatClampNeg)) (h1 : ¬ (i + 1 < 0 ∨ L ≤ (i + 1).toNatClampNeg)) (h2 : ¬ (i + 2 < 0 ∨ L ≤ (i + 2).toNatClampNeg)) (h3 : ¬ (i + 3 < 0 ∨ L ≤ (i + 3).toNatClampNeg)) (h4 : ¬ (i + 4 < 0 ∨ L ≤ (i + 4).toNatClampNeg)) (h5 : ¬ (i + 5 < 0 ∨ L ≤ (i + 5).toNatClampNeg)) {σ τ : j_G} (hR : j_Rel σ τ) {P : Option Value × xH × Nat × Nat → Prop} (kk : ∀ σ τ : j_G, j_Rel σ τ → x_R x_mt (some (L, xs)) 10 M_law (18, [(3, .int (i + Int32.ofInt (6))), (2, .ref 75), (1, .ref 0), (0, .ref x_scr)], [], j_hp true σ τ, 98, 10728) P) : x_R x_mt (some (L, xs)) 10 M_law (809, [(3, .int i), (2, .ref 75), (1, .ref 0), (0, .ref x_scr)], [], j_hp true σ τ, 98, 10728) P := by
  obtain ⟨vx, σ1, ex, vm, τ1, em, hR1⟩ := s_where hR (xs ((i + 1)).toNatClampNeg) (xs ((i + 2)).toNatClampNeg)
  refine x_c17a _ L xs i h0 h1 h2 h3 h4 h5 ?_
  refine j_RcSi (s := true) (D := 6) (ai := 130) (vs := [.ref 0, .int (xs ((i + 1)).toNatClampNeg), .int (xs ((i + 2)).toNatClampNeg)]) (rest := []) (fun _ => j_Lsc lr_820 rfl) (c_X11_where (xs ((i + 1)).toNatClampNeg) (xs ((i + 2)).toNatClampNeg) σ) (by decide) ex ?_
  refine x_c17b _ L xs i h0 h1 h2 h3 h4 h5 vx ?_
  rw [j_swp]
  refine j_RcSi (s := false) (D := 6) (ai := 263) (vs := [.ref 75, .int (xs ((i + 1)).toNatClampNeg), .int (xs ((i + 2)).toNatClampNeg)]) (rest := []) (fun _ => j_Lsc lr_835 rfl) (c_X12_where (xs ((i + 1)).toNatClampNeg) (xs ((i + 2)).toNatClampNeg) τ) (by decide) em ?_
  refine x_c17d _ L xs i h0 h1 h2 h3 h4 h5 vm ?_
  rw [← j_swp]
  exact kk _ _ hR1

theorem x_case18 (L : Nat) (xs : Nat → Int32) (i : Int32) (h0 : ¬ (i < 0 ∨ L ≤ (i).toNatClampNeg)) (h1 : ¬ (i + 1 < 0 ∨ L ≤ (i + 1).toNatClampNeg)) (h2 : ¬ (i + 2 < 0 ∨ L ≤ (i + 2).toNatClampNeg)) (h3 : ¬ (i + 3 < 0 ∨ L ≤ (i + 3).toNatClampNeg)) (h4 : ¬ (i + 4 < 0 ∨ L ≤ (i + 4).toNatClampNeg)) (h5 : ¬ (i + 5 < 0 ∨ L ≤ (i + 5).toNatClampNeg)) {σ τ : j_G} (hR : j_Rel σ τ) {P : Option Value × xH × Nat × Nat → Prop} (kk : ∀ σ τ : j_G, j_Rel σ τ → x_R x_mt (some (L, xs)) 10 M_law (18, [(3, .int (i + Int32.ofInt (6))), (2, .ref 75), (1, .ref 0), (0, .ref x_scr)], [], j_hp true σ τ, 98, 10728) P) : x_R x_mt (some (L, xs)) 10 M_law (842, [(3, .int i), (2, .ref 75), (1, .ref 0), (0, .ref x_scr)], [], j_hp true σ τ, 98, 10728) P := by
  obtain ⟨vx, σ1, ex, vm, τ1, em, hR1⟩ := s_missed hR (xs ((i + 1)).toNatClampNeg)
  refine x_c18a _ L xs i h0 h1 h2 h3 h4 h5 ?_
  refine j_RcSi (s := true) (D := 6) (ai := 131) (vs := [.ref 0, .int (xs ((i + 1)).toNatClampNeg)]) (rest := []) (fun _ => j_Lsc lr_848 rfl) (c_X11_missed (xs ((i + 1)).toNatClampNeg) σ) (by decide) ex ?_
  refine x_c18b _ L xs i h0 h1 h2 h3 h4 h5 vx ?_
  rw [j_swp]
  refine j_RcSi (s := false) (D := 6) (ai := 264) (vs := [.ref 75, .int (xs ((i + 1)).toNatClampNeg)]) (rest := []) (fun _ => j_Lsc lr_858 rfl) (c_X12_missed (xs ((i + 1)).toNatClampNeg) τ) (by decide) em ?_
  refine x_c18d _ L xs i h0 h1 h2 h3 h4 h5 vm ?_
  rw [← j_swp]
  exact kk _ _ hR1

theorem x_case19 (L : Nat) (xs : Nat → Int32) (i : Int32) (h0 : ¬ (i < 0 ∨ L ≤ (i).toNatClampNeg)) (h1 : ¬ (i + 1 < 0 ∨ L ≤ (i + 1).toNatClampNeg)) (h2 : ¬ (i + 2 < 0 ∨ L ≤ (i + 2).toNatClampNeg)) (h3 : ¬ (i + 3 < 0 ∨ L ≤ (i + 3).toNatClampNeg)) (h4 : ¬ (i + 4 < 0 ∨ L ≤ (i + 4).toNatClampNeg)) (h5 : ¬ (i + 5 < 0 ∨ L ≤ (i + 5).toNatClampNeg)) {σ τ : j_G} (hR : j_Rel σ τ) {P : Option Value × xH × Nat × Nat → Prop} (kk : ∀ σ τ : j_G, j_Rel σ τ → x_R x_mt (some (L, xs)) 10 M_law (18, [(3, .int (i + Int32.ofInt (6))), (2, .ref 75), (1, .ref 0), (0, .ref x_scr)], [], j_hp true σ τ, 98, 10728) P) : x_R x_mt (some (L, xs)) 10 M_law (865, [(3, .int i), (2, .ref 75), (1, .ref 0), (0, .ref x_scr)], [], j_hp true σ τ, 98, 10728) P := by
  obtain ⟨vx, σ1, ex, vm, τ1, em, hR1⟩ := s_walked hR (xs ((i + 1)).toNatClampNeg)
  refine x_c19a _ L xs i h0 h1 h2 h3 h4 h5 ?_
  refine j_RcSi (s := true) (D := 6) (ai := 132) (vs := [.ref 0, .int (xs ((i + 1)).toNatClampNeg)]) (rest := []) (fun _ => j_Lsc lr_871 rfl) (c_X11_walked (xs ((i + 1)).toNatClampNeg) σ) (by decide) ex ?_
  refine x_c19b _ L xs i h0 h1 h2 h3 h4 h5 vx ?_
  rw [j_swp]
  refine j_RcSi (s := false) (D := 6) (ai := 265) (vs := [.ref 75, .int (xs ((i + 1)).toNatClampNeg)]) (rest := []) (fun _ => j_Lsc lr_881 rfl) (c_X12_walked (xs ((i + 1)).toNatClampNeg) τ) (by decide) em ?_
  refine x_c19d _ L xs i h0 h1 h2 h3 h4 h5 vm ?_
  rw [← j_swp]
  exact kk _ _ hR1

theorem x_case20 (L : Nat) (xs : Nat → Int32) (i : Int32) (h0 : ¬ (i < 0 ∨ L ≤ (i).toNatClampNeg)) (h1 : ¬ (i + 1 < 0 ∨ L ≤ (i + 1).toNatClampNeg)) (h2 : ¬ (i + 2 < 0 ∨ L ≤ (i + 2).toNatClampNeg)) (h3 : ¬ (i + 3 < 0 ∨ L ≤ (i + 3).toNatClampNeg)) (h4 : ¬ (i + 4 < 0 ∨ L ≤ (i + 4).toNatClampNeg)) (h5 : ¬ (i + 5 < 0 ∨ L ≤ (i + 5).toNatClampNeg)) {σ τ : j_G} (hR : j_Rel σ τ) {P : Option Value × xH × Nat × Nat → Prop} (kk : ∀ σ τ : j_G, j_Rel σ τ → x_R x_mt (some (L, xs)) 10 M_law (18, [(3, .int (i + Int32.ofInt (6))), (2, .ref 75), (1, .ref 0), (0, .ref x_scr)], [], j_hp true σ τ, 98, 10728) P) : x_R x_mt (some (L, xs)) 10 M_law (888, [(3, .int i), (2, .ref 75), (1, .ref 0), (0, .ref x_scr)], [], j_hp true σ τ, 98, 10728) P := by
  obtain ⟨vx, σ1, ex, vm, τ1, em, hR1⟩ := s_best hR (xs ((i + 1)).toNatClampNeg)
  refine x_c20a _ L xs i h0 h1 h2 h3 h4 h5 ?_
  refine j_RcSi (s := true) (D := 5) (ai := 133) (vs := [.ref 0, .int (xs ((i + 1)).toNatClampNeg)]) (rest := []) (fun _ => j_Lsc lr_894 rfl) (c_X11_best (xs ((i + 1)).toNatClampNeg) σ) (by decide) ex ?_
  refine x_c20b _ L xs i h0 h1 h2 h3 h4 h5 vx ?_
  rw [j_swp]
  refine j_RcSi (s := false) (D := 5) (ai := 271) (vs := [.ref 75, .int (xs ((i + 1)).toNatClampNeg)]) (rest := []) (fun _ => j_Lsc lr_904 rfl) (c_X12_best (xs ((i + 1)).toNatClampNeg) τ) (by decide) em ?_
  refine x_c20d _ L xs i h0 h1 h2 h3 h4 h5 vm ?_
  rw [← j_swp]
  exact kk _ _ hR1

theorem x_case21 (L : Nat) (xs : Nat → Int32) (i : Int32) (h0 : ¬ (i < 0 ∨ L ≤ (i).toNatClampNeg)) (h1 : ¬ (i + 1 < 0 ∨ L ≤ (i + 1).toNatClampNeg)) (h2 : ¬ (i + 2 < 0 ∨ L ≤ (i + 2).toNatClampNeg)) (h3 : ¬ (i + 3 < 0 ∨ L ≤ (i + 3).toNatClampNeg)) (h4 : ¬ (i + 4 < 0 ∨ L ≤ (i + 4).toNatClampNeg)) (h5 : ¬ (i + 5 < 0 ∨ L ≤ (i + 5).toNatClampNeg)) {σ τ : j_G} (hR : j_Rel σ τ) {P : Option Value × xH × Nat × Nat → Prop} (kk : ∀ σ τ : j_G, j_Rel σ τ → x_R x_mt (some (L, xs)) 10 M_law (18, [(3, .int (i + Int32.ofInt (6))), (2, .ref 75), (1, .ref 0), (0, .ref x_scr)], [], j_hp true σ τ, 98, 10728) P) : x_R x_mt (some (L, xs)) 10 M_law (911, [(3, .int i), (2, .ref 75), (1, .ref 0), (0, .ref x_scr)], [], j_hp true σ τ, 98, 10728) P := by
  obtain ⟨vx, σ1, ex, vm, τ1, em, hR1⟩ := s_ahead hR (xs ((i + 1)).toNatClampNeg) (xs ((i + 2)).toNatClampNeg)
  refine x_c21a _ L xs i h0 h1 h2 h3 h4 h5 ?_
  refine j_RcSi (s := true) (D := 4) (ai := 134) (vs := [.ref 0, .int (xs ((i + 1)).toNatClampNeg), .int (xs ((i + 2)).toNatClampNeg)]) (rest := []) (fun _ => j_Lsc lr_922 rfl) (c_X11_ahead (xs ((i + 1)).toNatClampNeg) (xs ((i + 2)).toNatClampNeg) σ) (by decide) ex ?_
  refine x_c21b _ L xs i h0 h1 h2 h3 h4 h5 vx ?_
  rw [j_swp]
  refine j_RcSi (s := false) (D := 5) (ai := 272) (vs := [.ref 75, .int (xs ((i + 1)).toNatClampNeg), .int (xs ((i + 2)).toNatClampNeg)]) (rest := []) (fun _ => j_Lsc lr_937 rfl) (c_X12_ahead (xs ((i + 1)).toNatClampNeg) (xs ((i + 2)).toNatClampNeg) τ) (by decide) em ?_
  refine x_c21d _ L xs i h0 h1 h2 h3 h4 h5 vm ?_
  rw [← j_swp]
  exact kk _ _ hR1

theorem x_case22 (L : Nat) (xs : Nat → Int32) (i : Int32) (h0 : ¬ (i < 0 ∨ L ≤ (i).toNatClampNeg)) (h1 : ¬ (i + 1 < 0 ∨ L ≤ (i + 1).toNatClampNeg)) (h2 : ¬ (i + 2 < 0 ∨ L ≤ (i + 2).toNatClampNeg)) (h3 : ¬ (i + 3 < 0 ∨ L ≤ (i + 3).toNatClampNeg)) (h4 : ¬ (i + 4 < 0 ∨ L ≤ (i + 4).toNatClampNeg)) (h5 : ¬ (i + 5 < 0 ∨ L ≤ (i + 5).toNatClampNeg)) {σ τ : j_G} (hR : j_Rel σ τ) {P : Option Value × xH × Nat × Nat → Prop} (kk : ∀ σ τ : j_G, j_Rel σ τ → x_R x_mt (some (L, xs)) 10 M_law (18, [(3, .int (i + Int32.ofInt (6))), (2, .ref 75), (1, .ref 0), (0, .ref x_scr)], [], j_hp true σ τ, 98, 10728) P) : x_R x_mt (some (L, xs)) 10 M_law (944, [(3, .int i), (2, .ref 75), (1, .ref 0), (0, .ref x_scr)], [], j_hp true σ τ, 98, 10728) P := by
  obtain ⟨vx, σ1, ex, vm, τ1, em, hR1⟩ := s_learns hR (xs ((i + 1)).toNatClampNeg) (xs ((i + 2)).toNatClampNeg)
  refine x_c22a _ L xs i h0 h1 h2 h3 h4 h5 ?_
  refine j_RcSi (s := true) (D := 6) (ai := 135) (vs := [.ref 0, .int (xs ((i + 1)).toNatClampNeg), .int (xs ((i + 2)).toNatClampNeg)]) (rest := []) (fun _ => j_Lsc lr_955 rfl) (c_X11_learns (xs ((i + 1)).toNatClampNeg) (xs ((i + 2)).toNatClampNeg) σ) (by decide) ex ?_
  refine x_c22b _ L xs i h0 h1 h2 h3 h4 h5 vx ?_
  rw [j_swp]
  refine j_RcSi (s := false) (D := 6) (ai := 274) (vs := [.ref 75, .int (xs ((i + 1)).toNatClampNeg), .int (xs ((i + 2)).toNatClampNeg)]) (rest := []) (fun _ => j_Lsc lr_970 rfl) (c_X12_learns (xs ((i + 1)).toNatClampNeg) (xs ((i + 2)).toNatClampNeg) τ) (by decide) em ?_
  refine x_c22d _ L xs i h0 h1 h2 h3 h4 h5 vm ?_
  rw [← j_swp]
  exact kk _ _ hR1

theorem x_case23 (L : Nat) (xs : Nat → Int32) (i : Int32) (h0 : ¬ (i < 0 ∨ L ≤ (i).toNatClampNeg)) (h1 : ¬ (i + 1 < 0 ∨ L ≤ (i + 1).toNatClampNeg)) (h2 : ¬ (i + 2 < 0 ∨ L ≤ (i + 2).toNatClampNeg)) (h3 : ¬ (i + 3 < 0 ∨ L ≤ (i + 3).toNatClampNeg)) (h4 : ¬ (i + 4 < 0 ∨ L ≤ (i + 4).toNatClampNeg)) (h5 : ¬ (i + 5 < 0 ∨ L ≤ (i + 5).toNatClampNeg)) {σ τ : j_G} (hR : j_Rel σ τ) {P : Option Value × xH × Nat × Nat → Prop} (kk : ∀ σ τ : j_G, j_Rel σ τ → x_R x_mt (some (L, xs)) 10 M_law (18, [(3, .int (i + Int32.ofInt (6))), (2, .ref 75), (1, .ref 0), (0, .ref x_scr)], [], j_hp true σ τ, 98, 10728) P) : x_R x_mt (some (L, xs)) 10 M_law (977, [(3, .int i), (2, .ref 75), (1, .ref 0), (0, .ref x_scr)], [], j_hp true σ τ, 98, 10728) P := by
  obtain ⟨vx, σ1, ex, vm, τ1, em, hR1⟩ := s_enough hR (xs ((i + 1)).toNatClampNeg)
  refine x_c23a _ L xs i h0 h1 h2 h3 h4 h5 ?_
  refine j_RcSi (s := true) (D := 6) (ai := 136) (vs := [.ref 0, .int (xs ((i + 1)).toNatClampNeg)]) (rest := []) (fun _ => j_Lsc lr_983 rfl) (c_X11_enough (xs ((i + 1)).toNatClampNeg) σ) (by decide) ex ?_
  refine x_c23b _ L xs i h0 h1 h2 h3 h4 h5 vx ?_
  rw [j_swp]
  refine j_RcSi (s := false) (D := 6) (ai := 275) (vs := [.ref 75, .int (xs ((i + 1)).toNatClampNeg)]) (rest := []) (fun _ => j_Lsc lr_993 rfl) (c_X12_enough (xs ((i + 1)).toNatClampNeg) τ) (by decide) em ?_
  refine x_c23d _ L xs i h0 h1 h2 h3 h4 h5 vm ?_
  rw [← j_swp]
  exact kk _ _ hR1

theorem x_case24 (L : Nat) (xs : Nat → Int32) (i : Int32) (h0 : ¬ (i < 0 ∨ L ≤ (i).toNatClampNeg)) (h1 : ¬ (i + 1 < 0 ∨ L ≤ (i + 1).toNatClampNeg)) (h2 : ¬ (i + 2 < 0 ∨ L ≤ (i + 2).toNatClampNeg)) (h3 : ¬ (i + 3 < 0 ∨ L ≤ (i + 3).toNatClampNeg)) (h4 : ¬ (i + 4 < 0 ∨ L ≤ (i + 4).toNatClampNeg)) (h5 : ¬ (i + 5 < 0 ∨ L ≤ (i + 5).toNatClampNeg)) {σ τ : j_G} (hR : j_Rel σ τ) {P : Option Value × xH × Nat × Nat → Prop} (kk : ∀ σ τ : j_G, j_Rel σ τ → x_R x_mt (some (L, xs)) 10 M_law (18, [(3, .int (i + Int32.ofInt (6))), (2, .ref 75), (1, .ref 0), (0, .ref x_scr)], [], j_hp true σ τ, 98, 10728) P) : x_R x_mt (some (L, xs)) 10 M_law (1000, [(3, .int i), (2, .ref 75), (1, .ref 0), (0, .ref x_scr)], [], j_hp true σ τ, 98, 10728) P := by
  obtain ⟨vx, σ1, ex, vm, τ1, em, hR1⟩ := s_waits hR (xs ((i + 1)).toNatClampNeg) (xs ((i + 2)).toNatClampNeg)
  refine x_c24a _ L xs i h0 h1 h2 h3 h4 h5 ?_
  refine j_RcSi (s := true) (D := 5) (ai := 137) (vs := [.ref 0, .int (xs ((i + 1)).toNatClampNeg), .int (xs ((i + 2)).toNatClampNeg)]) (rest := []) (fun _ => j_Lsc lr_1011 rfl) (c_X11_waits (xs ((i + 1)).toNatClampNeg) (xs ((i + 2)).toNatClampNeg) σ) (by decide) ex ?_
  refine x_c24b _ L xs i h0 h1 h2 h3 h4 h5 vx ?_
  rw [j_swp]
  refine j_RcSi (s := false) (D := 6) (ai := 277) (vs := [.ref 75, .int (xs ((i + 1)).toNatClampNeg), .int (xs ((i + 2)).toNatClampNeg)]) (rest := []) (fun _ => j_Lsc lr_1026 rfl) (c_X12_waits (xs ((i + 1)).toNatClampNeg) (xs ((i + 2)).toNatClampNeg) τ) (by decide) em ?_
  refine x_c24d _ L xs i h0 h1 h2 h3 h4 h5 vm ?_
  rw [← j_swp]
  exact kk _ _ hR1

theorem x_case25 (L : Nat) (xs : Nat → Int32) (i : Int32) (h0 : ¬ (i < 0 ∨ L ≤ (i).toNatClampNeg)) (h1 : ¬ (i + 1 < 0 ∨ L ≤ (i + 1).toNatClampNeg)) (h2 : ¬ (i + 2 < 0 ∨ L ≤ (i + 2).toNatClampNeg)) (h3 : ¬ (i + 3 < 0 ∨ L ≤ (i + 3).toNatClampNeg)) (h4 : ¬ (i + 4 < 0 ∨ L ≤ (i + 4).toNatClampNeg)) (h5 : ¬ (i + 5 < 0 ∨ L ≤ (i + 5).toNatClampNeg)) {σ τ : j_G} (hR : j_Rel σ τ) {P : Option Value × xH × Nat × Nat → Prop} (kk : ∀ σ τ : j_G, j_Rel σ τ → x_R x_mt (some (L, xs)) 10 M_law (18, [(3, .int (i + Int32.ofInt (6))), (2, .ref 75), (1, .ref 0), (0, .ref x_scr)], [], j_hp true σ τ, 98, 10728) P) : x_R x_mt (some (L, xs)) 10 M_law (1033, [(3, .int i), (2, .ref 75), (1, .ref 0), (0, .ref x_scr)], [], j_hp true σ τ, 98, 10728) P := by
  obtain ⟨vx, ex, vm, em, hR1⟩ := s_mean hR (xs ((i + 1)).toNatClampNeg) (xs ((i + 2)).toNatClampNeg)
  refine x_c25a _ L xs i h0 h1 h2 h3 h4 h5 ?_
  refine j_RcPi (s := true) (D := 2) (ai := 140) (vs := [.ref 0, .int (xs ((i + 1)).toNatClampNeg), .int (xs ((i + 2)).toNatClampNeg)]) (rest := []) (fun _ => j_Lsc lr_1044 rfl) (c_X11_mean (xs ((i + 1)).toNatClampNeg) (xs ((i + 2)).toNatClampNeg) σ) (by decide) ex ?_
  refine x_c25b _ L xs i h0 h1 h2 h3 h4 h5 vx ?_
  rw [j_swp]
  refine j_RcPi (s := false) (D := 2) (ai := 281) (vs := [.ref 75, .int (xs ((i + 1)).toNatClampNeg), .int (xs ((i + 2)).toNatClampNeg)]) (rest := []) (fun _ => j_Lsc lr_1059 rfl) (c_X12_mean (xs ((i + 1)).toNatClampNeg) (xs ((i + 2)).toNatClampNeg) τ) (by decide) em ?_
  refine x_c25d _ L xs i h0 h1 h2 h3 h4 h5 vm ?_
  rw [← j_swp]
  exact kk _ _ hR1

theorem x_case26 (L : Nat) (xs : Nat → Int32) (i : Int32) (h0 : ¬ (i < 0 ∨ L ≤ (i).toNatClampNeg)) (h1 : ¬ (i + 1 < 0 ∨ L ≤ (i + 1).toNatClampNeg)) (h2 : ¬ (i + 2 < 0 ∨ L ≤ (i + 2).toNatClampNeg)) (h3 : ¬ (i + 3 < 0 ∨ L ≤ (i + 3).toNatClampNeg)) (h4 : ¬ (i + 4 < 0 ∨ L ≤ (i + 4).toNatClampNeg)) (h5 : ¬ (i + 5 < 0 ∨ L ≤ (i + 5).toNatClampNeg)) {σ τ : j_G} (hR : j_Rel σ τ) {P : Option Value × xH × Nat × Nat → Prop} (kk : ∀ σ τ : j_G, j_Rel σ τ → x_R x_mt (some (L, xs)) 10 M_law (18, [(3, .int (i + Int32.ofInt (6))), (2, .ref 75), (1, .ref 0), (0, .ref x_scr)], [], j_hp true σ τ, 98, 10728) P) : x_R x_mt (some (L, xs)) 10 M_law (1066, [(3, .int i), (2, .ref 75), (1, .ref 0), (0, .ref x_scr)], [], j_hp true σ τ, 98, 10728) P := by
  obtain ⟨vx, ex, vm, em, hR1⟩ := s_middle hR (xs ((i + 1)).toNatClampNeg)
  refine x_c26a _ L xs i h0 h1 h2 h3 h4 h5 ?_
  refine j_RcPi (s := true) (D := 2) (ai := 141) (vs := [.ref 0, .int (xs ((i + 1)).toNatClampNeg)]) (rest := []) (fun _ => j_Lsc lr_1072 rfl) (c_X11_middle (xs ((i + 1)).toNatClampNeg) σ) (by decide) ex ?_
  refine x_c26b _ L xs i h0 h1 h2 h3 h4 h5 vx ?_
  rw [j_swp]
  refine j_RcPi (s := false) (D := 2) (ai := 282) (vs := [.ref 75, .int (xs ((i + 1)).toNatClampNeg)]) (rest := []) (fun _ => j_Lsc lr_1082 rfl) (c_X12_middle (xs ((i + 1)).toNatClampNeg) τ) (by decide) em ?_
  refine x_c26d _ L xs i h0 h1 h2 h3 h4 h5 vm ?_
  rw [← j_swp]
  exact kk _ _ hR1

theorem x_case27 (L : Nat) (xs : Nat → Int32) (i : Int32) (h0 : ¬ (i < 0 ∨ L ≤ (i).toNatClampNeg)) (h1 : ¬ (i + 1 < 0 ∨ L ≤ (i + 1).toNatClampNeg)) (h2 : ¬ (i + 2 < 0 ∨ L ≤ (i + 2).toNatClampNeg)) (h3 : ¬ (i + 3 < 0 ∨ L ≤ (i + 3).toNatClampNeg)) (h4 : ¬ (i + 4 < 0 ∨ L ≤ (i + 4).toNatClampNeg)) (h5 : ¬ (i + 5 < 0 ∨ L ≤ (i + 5).toNatClampNeg)) {σ τ : j_G} (hR : j_Rel σ τ) {P : Option Value × xH × Nat × Nat → Prop} (kk : ∀ σ τ : j_G, j_Rel σ τ → x_R x_mt (some (L, xs)) 10 M_law (18, [(3, .int (i + Int32.ofInt (6))), (2, .ref 75), (1, .ref 0), (0, .ref x_scr)], [], j_hp true σ τ, 98, 10728) P) : x_R x_mt (some (L, xs)) 10 M_law (1089, [(3, .int i), (2, .ref 75), (1, .ref 0), (0, .ref x_scr)], [], j_hp true σ τ, 98, 10728) P := by
  obtain ⟨vx, σ1, ex, vm, em, hR1⟩ := s_reach hR (xs ((i + 1)).toNatClampNeg) (xs ((i + 2)).toNatClampNeg)
  refine x_c27a _ L xs i h0 h1 h2 h3 h4 h5 ?_
  refine j_RcSi (s := true) (D := 3) (ai := 142) (vs := [.ref 0, .int (xs ((i + 1)).toNatClampNeg), .int (xs ((i + 2)).toNatClampNeg)]) (rest := []) (fun _ => j_Lsc lr_1100 rfl) (c_X11_reach (xs ((i + 1)).toNatClampNeg) (xs ((i + 2)).toNatClampNeg) σ) (by decide) ex ?_
  refine x_c27b _ L xs i h0 h1 h2 h3 h4 h5 vx ?_
  rw [j_swp]
  refine j_RcPi (s := false) (D := 3) (ai := 284) (vs := [.ref 75, .int (xs ((i + 1)).toNatClampNeg), .int (xs ((i + 2)).toNatClampNeg)]) (rest := []) (fun _ => j_Lsc lr_1115 rfl) (c_X12_reach (xs ((i + 1)).toNatClampNeg) (xs ((i + 2)).toNatClampNeg) τ) (by decide) em ?_
  refine x_c27d _ L xs i h0 h1 h2 h3 h4 h5 vm ?_
  rw [← j_swp]
  exact kk _ _ hR1

theorem x_case28 (L : Nat) (xs : Nat → Int32) (i : Int32) (h0 : ¬ (i < 0 ∨ L ≤ (i).toNatClampNeg)) (h1 : ¬ (i + 1 < 0 ∨ L ≤ (i + 1).toNatClampNeg)) (h2 : ¬ (i + 2 < 0 ∨ L ≤ (i + 2).toNatClampNeg)) (h3 : ¬ (i + 3 < 0 ∨ L ≤ (i + 3).toNatClampNeg)) (h4 : ¬ (i + 4 < 0 ∨ L ≤ (i + 4).toNatClampNeg)) (h5 : ¬ (i + 5 < 0 ∨ L ≤ (i + 5).toNatClampNeg)) {σ τ : j_G} (hR : j_Rel σ τ) {P : Option Value × xH × Nat × Nat → Prop} (kk : ∀ σ τ : j_G, j_Rel σ τ → x_R x_mt (some (L, xs)) 10 M_law (18, [(3, .int (i + Int32.ofInt (6))), (2, .ref 75), (1, .ref 0), (0, .ref x_scr)], [], j_hp true σ τ, 98, 10728) P) : x_R x_mt (some (L, xs)) 10 M_law (1122, [(3, .int i), (2, .ref 75), (1, .ref 0), (0, .ref x_scr)], [], j_hp true σ τ, 98, 10728) P := by
  obtain ⟨vx, σ1, ex, vm, em, hR1⟩ := s_post hR (xs ((i + 1)).toNatClampNeg)
  refine x_c28a _ L xs i h0 h1 h2 h3 h4 h5 ?_
  refine j_RcSi (s := true) (D := 3) (ai := 143) (vs := [.ref 0, .int (xs ((i + 1)).toNatClampNeg)]) (rest := []) (fun _ => j_Lsc lr_1128 rfl) (c_X11_post (xs ((i + 1)).toNatClampNeg) σ) (by decide) ex ?_
  refine x_c28b _ L xs i h0 h1 h2 h3 h4 h5 vx ?_
  rw [j_swp]
  refine j_RcPi (s := false) (D := 3) (ai := 286) (vs := [.ref 75, .int (xs ((i + 1)).toNatClampNeg)]) (rest := []) (fun _ => j_Lsc lr_1138 rfl) (c_X12_post (xs ((i + 1)).toNatClampNeg) τ) (by decide) em ?_
  refine x_c28d _ L xs i h0 h1 h2 h3 h4 h5 vm ?_
  rw [← j_swp]
  exact kk _ _ hR1

theorem x_case29 (L : Nat) (xs : Nat → Int32) (i : Int32) (h0 : ¬ (i < 0 ∨ L ≤ (i).toNatClampNeg)) (h1 : ¬ (i + 1 < 0 ∨ L ≤ (i + 1).toNatClampNeg)) (h2 : ¬ (i + 2 < 0 ∨ L ≤ (i + 2).toNatClampNeg)) (h3 : ¬ (i + 3 < 0 ∨ L ≤ (i + 3).toNatClampNeg)) (h4 : ¬ (i + 4 < 0 ∨ L ≤ (i + 4).toNatClampNeg)) (h5 : ¬ (i + 5 < 0 ∨ L ≤ (i + 5).toNatClampNeg)) {σ τ : j_G} (hR : j_Rel σ τ) {P : Option Value × xH × Nat × Nat → Prop} (kk : ∀ σ τ : j_G, j_Rel σ τ → x_R x_mt (some (L, xs)) 10 M_law (18, [(3, .int (i + Int32.ofInt (6))), (2, .ref 75), (1, .ref 0), (0, .ref x_scr)], [], j_hp true σ τ, 98, 10728) P) : x_R x_mt (some (L, xs)) 10 M_law (1145, [(3, .int i), (2, .ref 75), (1, .ref 0), (0, .ref x_scr)], [], j_hp true σ τ, 98, 10728) P := by
  obtain ⟨vx, σ1, ex, vm, τ1, em, hR1⟩ := s_slack hR (xs ((i + 1)).toNatClampNeg)
  refine x_c29a _ L xs i h0 h1 h2 h3 h4 h5 ?_
  refine j_RcSi (s := true) (D := 6) (ai := 138) (vs := [.ref 0, .int (xs ((i + 1)).toNatClampNeg)]) (rest := []) (fun _ => j_Lsc lr_1151 rfl) (c_X11_slack (xs ((i + 1)).toNatClampNeg) σ) (by decide) ex ?_
  refine x_c29b _ L xs i h0 h1 h2 h3 h4 h5 vx ?_
  rw [j_swp]
  refine j_RcSi (s := false) (D := 6) (ai := 288) (vs := [.ref 75, .int (xs ((i + 1)).toNatClampNeg)]) (rest := []) (fun _ => j_Lsc lr_1161 rfl) (c_X12_slack (xs ((i + 1)).toNatClampNeg) τ) (by decide) em ?_
  refine x_c29d _ L xs i h0 h1 h2 h3 h4 h5 vm ?_
  rw [← j_swp]
  exact kk _ _ hR1

theorem x_case30 (L : Nat) (xs : Nat → Int32) (i : Int32) (h0 : ¬ (i < 0 ∨ L ≤ (i).toNatClampNeg)) (h1 : ¬ (i + 1 < 0 ∨ L ≤ (i + 1).toNatClampNeg)) (h2 : ¬ (i + 2 < 0 ∨ L ≤ (i + 2).toNatClampNeg)) (h3 : ¬ (i + 3 < 0 ∨ L ≤ (i + 3).toNatClampNeg)) (h4 : ¬ (i + 4 < 0 ∨ L ≤ (i + 4).toNatClampNeg)) (h5 : ¬ (i + 5 < 0 ∨ L ≤ (i + 5).toNatClampNeg)) {σ τ : j_G} (hR : j_Rel σ τ) {P : Option Value × xH × Nat × Nat → Prop} (kk : ∀ σ τ : j_G, j_Rel σ τ → x_R x_mt (some (L, xs)) 10 M_law (18, [(3, .int (i + Int32.ofInt (6))), (2, .ref 75), (1, .ref 0), (0, .ref x_scr)], [], j_hp true σ τ, 98, 10728) P) : x_R x_mt (some (L, xs)) 10 M_law (1168, [(3, .int i), (2, .ref 75), (1, .ref 0), (0, .ref x_scr)], [], j_hp true σ τ, 98, 10728) P := by
  obtain ⟨vx, σ1, ex, vm, τ1, em, hR1⟩ := s_rows hR (xs ((i + 1)).toNatClampNeg) (xs ((i + 2)).toNatClampNeg)
  refine x_c30a _ L xs i h0 h1 h2 h3 h4 h5 ?_
  refine j_RcSl (s := true) (D := 5) (ai := 144) (vs := [.ref 0, .int (xs ((i + 1)).toNatClampNeg), .int (xs ((i + 2)).toNatClampNeg)]) (rest := []) (fun _ => j_Lsc lr_1179 rfl) (c_X11_rows (xs ((i + 1)).toNatClampNeg) (xs ((i + 2)).toNatClampNeg) σ) (by decide) ex ?_
  refine x_c30b _ L xs i h0 h1 h2 h3 h4 h5 vx ?_
  rw [j_swp]
  refine j_RcSl (s := false) (D := 3) (ai := 293) (vs := [.ref 75, .int (xs ((i + 1)).toNatClampNeg), .int (xs ((i + 2)).toNatClampNeg)]) (rest := []) (fun _ => j_Lsc lr_1194 rfl) (c_X12_rows (xs ((i + 1)).toNatClampNeg) (xs ((i + 2)).toNatClampNeg) τ) (by decide) em ?_
  refine x_c30d _ L xs i h0 h1 h2 h3 h4 h5 vm ?_
  rw [← j_swp]
  exact kk _ _ hR1

theorem x_case31 (L : Nat) (xs : Nat → Int32) (i : Int32) (h0 : ¬ (i < 0 ∨ L ≤ (i).toNatClampNeg)) (h1 : ¬ (i + 1 < 0 ∨ L ≤ (i + 1).toNatClampNeg)) (h2 : ¬ (i + 2 < 0 ∨ L ≤ (i + 2).toNatClampNeg)) (h3 : ¬ (i + 3 < 0 ∨ L ≤ (i + 3).toNatClampNeg)) (h4 : ¬ (i + 4 < 0 ∨ L ≤ (i + 4).toNatClampNeg)) (h5 : ¬ (i + 5 < 0 ∨ L ≤ (i + 5).toNatClampNeg)) {σ τ : j_G} (hR : j_Rel σ τ) {P : Option Value × xH × Nat × Nat → Prop} (kk : ∀ σ τ : j_G, j_Rel σ τ → x_R x_mt (some (L, xs)) 10 M_law (18, [(3, .int (i + Int32.ofInt (6))), (2, .ref 75), (1, .ref 0), (0, .ref x_scr)], [], j_hp true σ τ, 98, 10728) P) : x_R x_mt (some (L, xs)) 10 M_law (1201, [(3, .int i), (2, .ref 75), (1, .ref 0), (0, .ref x_scr)], [], j_hp true σ τ, 98, 10728) P := by
  obtain ⟨vx, σ1, ex, vm, τ1, em, hR1⟩ := s_ends hR (xs ((i + 1)).toNatClampNeg) (xs ((i + 2)).toNatClampNeg) (xs ((i + 3)).toNatClampNeg)
  refine x_c31a _ L xs i h0 h1 h2 h3 h4 h5 ?_
  refine j_RcSl (s := true) (D := 5) (ai := 145) (vs := [.ref 0, .int (xs ((i + 1)).toNatClampNeg), .int (xs ((i + 2)).toNatClampNeg), .int (xs ((i + 3)).toNatClampNeg)]) (rest := []) (fun _ => j_Lsc lr_1217 rfl) (c_X11_ends (xs ((i + 1)).toNatClampNeg) (xs ((i + 2)).toNatClampNeg) (xs ((i + 3)).toNatClampNeg) σ) (by decide) ex ?_
  refine x_c31b _ L xs i h0 h1 h2 h3 h4 h5 vx ?_
  rw [j_swp]
  refine j_RcSl (s := false) (D := 3) (ai := 294) (vs := [.ref 75, .int (xs ((i + 1)).toNatClampNeg), .int (xs ((i + 2)).toNatClampNeg), .int (xs ((i + 3)).toNatClampNeg)]) (rest := []) (fun _ => j_Lsc lr_1237 rfl) (c_X12_ends (xs ((i + 1)).toNatClampNeg) (xs ((i + 2)).toNatClampNeg) (xs ((i + 3)).toNatClampNeg) τ) (by decide) em ?_
  refine x_c31d _ L xs i h0 h1 h2 h3 h4 h5 vm ?_
  rw [← j_swp]
  exact kk _ _ hR1

theorem x_case32 (L : Nat) (xs : Nat → Int32) (i : Int32) (h0 : ¬ (i < 0 ∨ L ≤ (i).toNatClampNeg)) (h1 : ¬ (i + 1 < 0 ∨ L ≤ (i + 1).toNatClampNeg)) (h2 : ¬ (i + 2 < 0 ∨ L ≤ (i + 2).toNatClampNeg)) (h3 : ¬ (i + 3 < 0 ∨ L ≤ (i + 3).toNatClampNeg)) (h4 : ¬ (i + 4 < 0 ∨ L ≤ (i + 4).toNatClampNeg)) (h5 : ¬ (i + 5 < 0 ∨ L ≤ (i + 5).toNatClampNeg)) {σ τ : j_G} (hR : j_Rel σ τ) {P : Option Value × xH × Nat × Nat → Prop} (kk : ∀ σ τ : j_G, j_Rel σ τ → x_R x_mt (some (L, xs)) 10 M_law (18, [(3, .int (i + Int32.ofInt (6))), (2, .ref 75), (1, .ref 0), (0, .ref x_scr)], [], j_hp true σ τ, 98, 10728) P) : x_R x_mt (some (L, xs)) 10 M_law (1244, [(3, .int i), (2, .ref 75), (1, .ref 0), (0, .ref x_scr)], [], j_hp true σ τ, 98, 10728) P := by
  obtain ⟨vx, σ1, ex, vm, τ1, em, hR1⟩ := s_fair hR (xs ((i + 1)).toNatClampNeg)
  refine x_c32a _ L xs i h0 h1 h2 h3 h4 h5 ?_
  refine j_RcSi (s := true) (D := 4) (ai := 146) (vs := [.ref 0, .int (xs ((i + 1)).toNatClampNeg)]) (rest := []) (fun _ => j_Lsc lr_1250 rfl) (c_X11_fair (xs ((i + 1)).toNatClampNeg) σ) (by decide) ex ?_
  refine x_c32b _ L xs i h0 h1 h2 h3 h4 h5 vx ?_
  rw [j_swp]
  refine j_RcSi (s := false) (D := 3) (ai := 295) (vs := [.ref 75, .int (xs ((i + 1)).toNatClampNeg)]) (rest := []) (fun _ => j_Lsc lr_1260 rfl) (c_X12_fair (xs ((i + 1)).toNatClampNeg) τ) (by decide) em ?_
  refine x_c32d _ L xs i h0 h1 h2 h3 h4 h5 vm ?_
  rw [← j_swp]
  exact kk _ _ hR1

theorem x_case33 (L : Nat) (xs : Nat → Int32) (i : Int32) (h0 : ¬ (i < 0 ∨ L ≤ (i).toNatClampNeg)) (h1 : ¬ (i + 1 < 0 ∨ L ≤ (i + 1).toNatClampNeg)) (h2 : ¬ (i + 2 < 0 ∨ L ≤ (i + 2).toNatClampNeg)) (h3 : ¬ (i + 3 < 0 ∨ L ≤ (i + 3).toNatClampNeg)) (h4 : ¬ (i + 4 < 0 ∨ L ≤ (i + 4).toNatClampNeg)) (h5 : ¬ (i + 5 < 0 ∨ L ≤ (i + 5).toNatClampNeg)) {σ τ : j_G} (hR : j_Rel σ τ) {P : Option Value × xH × Nat × Nat → Prop} (kk : ∀ σ τ : j_G, j_Rel σ τ → x_R x_mt (some (L, xs)) 10 M_law (18, [(3, .int (i + Int32.ofInt (6))), (2, .ref 75), (1, .ref 0), (0, .ref x_scr)], [], j_hp true σ τ, 98, 10728) P) : x_R x_mt (some (L, xs)) 10 M_law (1267, [(3, .int i), (2, .ref 75), (1, .ref 0), (0, .ref x_scr)], [], j_hp true σ τ, 98, 10728) P := by
  obtain ⟨vx, ex, vm, em, hR1⟩ := s_breaks hR (xs ((i + 1)).toNatClampNeg)
  refine x_c33a _ L xs i h0 h1 h2 h3 h4 h5 ?_
  refine j_RcPi (s := true) (D := 2) (ai := 147) (vs := [.ref 0, .int (xs ((i + 1)).toNatClampNeg)]) (rest := []) (fun _ => j_Lsc lr_1273 rfl) (c_X11_breaks (xs ((i + 1)).toNatClampNeg) σ) (by decide) ex ?_
  refine x_c33b _ L xs i h0 h1 h2 h3 h4 h5 vx ?_
  rw [j_swp]
  refine j_RcPi (s := false) (D := 2) (ai := 297) (vs := [.ref 75, .int (xs ((i + 1)).toNatClampNeg)]) (rest := []) (fun _ => j_Lsc lr_1283 rfl) (c_X12_breaks (xs ((i + 1)).toNatClampNeg) τ) (by decide) em ?_
  refine x_c33d _ L xs i h0 h1 h2 h3 h4 h5 vm ?_
  rw [← j_swp]
  exact kk _ _ hR1

theorem x_case34 (L : Nat) (xs : Nat → Int32) (i : Int32) (h0 : ¬ (i < 0 ∨ L ≤ (i).toNatClampNeg)) (h1 : ¬ (i + 1 < 0 ∨ L ≤ (i + 1).toNatClampNeg)) (h2 : ¬ (i + 2 < 0 ∨ L ≤ (i + 2).toNatClampNeg)) (h3 : ¬ (i + 3 < 0 ∨ L ≤ (i + 3).toNatClampNeg)) (h4 : ¬ (i + 4 < 0 ∨ L ≤ (i + 4).toNatClampNeg)) (h5 : ¬ (i + 5 < 0 ∨ L ≤ (i + 5).toNatClampNeg)) {σ τ : j_G} (hR : j_Rel σ τ) {P : Option Value × xH × Nat × Nat → Prop} (kk : ∀ σ τ : j_G, j_Rel σ τ → x_R x_mt (some (L, xs)) 10 M_law (18, [(3, .int (i + Int32.ofInt (6))), (2, .ref 75), (1, .ref 0), (0, .ref x_scr)], [], j_hp true σ τ, 98, 10728) P) : x_R x_mt (some (L, xs)) 10 M_law (1290, [(3, .int i), (2, .ref 75), (1, .ref 0), (0, .ref x_scr)], [], j_hp true σ τ, 98, 10728) P := by
  obtain ⟨vx, ex, vm, em, hR1⟩ := s_period hR (xs ((i + 1)).toNatClampNeg)
  refine x_c34a _ L xs i h0 h1 h2 h3 h4 h5 ?_
  refine j_RcPi (s := true) (D := 2) (ai := 148) (vs := [.ref 0, .int (xs ((i + 1)).toNatClampNeg)]) (rest := []) (fun _ => j_Lsc lr_1296 rfl) (c_X11_period (xs ((i + 1)).toNatClampNeg) σ) (by decide) ex ?_
  refine x_c34b _ L xs i h0 h1 h2 h3 h4 h5 vx ?_
  rw [j_swp]
  refine j_RcPi (s := false) (D := 3) (ai := 302) (vs := [.ref 75, .int (xs ((i + 1)).toNatClampNeg)]) (rest := []) (fun _ => j_Lsc lr_1306 rfl) (c_X12_period (xs ((i + 1)).toNatClampNeg) τ) (by decide) em ?_
  refine x_c34d _ L xs i h0 h1 h2 h3 h4 h5 vm ?_
  rw [← j_swp]
  exact kk _ _ hR1

theorem x_case35 (L : Nat) (xs : Nat → Int32) (i : Int32) (h0 : ¬ (i < 0 ∨ L ≤ (i).toNatClampNeg)) (h1 : ¬ (i + 1 < 0 ∨ L ≤ (i + 1).toNatClampNeg)) (h2 : ¬ (i + 2 < 0 ∨ L ≤ (i + 2).toNatClampNeg)) (h3 : ¬ (i + 3 < 0 ∨ L ≤ (i + 3).toNatClampNeg)) (h4 : ¬ (i + 4 < 0 ∨ L ≤ (i + 4).toNatClampNeg)) (h5 : ¬ (i + 5 < 0 ∨ L ≤ (i + 5).toNatClampNeg)) {σ τ : j_G} (hR : j_Rel σ τ) {P : Option Value × xH × Nat × Nat → Prop} (kk : ∀ σ τ : j_G, j_Rel σ τ → x_R x_mt (some (L, xs)) 10 M_law (18, [(3, .int (i + Int32.ofInt (6))), (2, .ref 75), (1, .ref 0), (0, .ref x_scr)], [], j_hp true σ τ, 98, 10728) P) : x_R x_mt (some (L, xs)) 10 M_law (1313, [(3, .int i), (2, .ref 75), (1, .ref 0), (0, .ref x_scr)], [], j_hp true σ τ, 98, 10728) P := by
  obtain ⟨vx, ex, vm, em, hR1⟩ := s_periods hR (xs ((i + 1)).toNatClampNeg)
  refine x_c35a _ L xs i h0 h1 h2 h3 h4 h5 ?_
  refine j_RcPi (s := true) (D := 2) (ai := 149) (vs := [.ref 0, .int (xs ((i + 1)).toNatClampNeg)]) (rest := []) (fun _ => j_Lsc lr_1319 rfl) (c_X11_periods (xs ((i + 1)).toNatClampNeg) σ) (by decide) ex ?_
  refine x_c35b _ L xs i h0 h1 h2 h3 h4 h5 vx ?_
  rw [j_swp]
  refine j_RcPi (s := false) (D := 3) (ai := 303) (vs := [.ref 75, .int (xs ((i + 1)).toNatClampNeg)]) (rest := []) (fun _ => j_Lsc lr_1329 rfl) (c_X12_periods (xs ((i + 1)).toNatClampNeg) τ) (by decide) em ?_
  refine x_c35d _ L xs i h0 h1 h2 h3 h4 h5 vm ?_
  rw [← j_swp]
  exact kk _ _ hR1

theorem x_case36 (L : Nat) (xs : Nat → Int32) (i : Int32) (h0 : ¬ (i < 0 ∨ L ≤ (i).toNatClampNeg)) (h1 : ¬ (i + 1 < 0 ∨ L ≤ (i + 1).toNatClampNeg)) (h2 : ¬ (i + 2 < 0 ∨ L ≤ (i + 2).toNatClampNeg)) (h3 : ¬ (i + 3 < 0 ∨ L ≤ (i + 3).toNatClampNeg)) (h4 : ¬ (i + 4 < 0 ∨ L ≤ (i + 4).toNatClampNeg)) (h5 : ¬ (i + 5 < 0 ∨ L ≤ (i + 5).toNatClampNeg)) {σ τ : j_G} (hR : j_Rel σ τ) {P : Option Value × xH × Nat × Nat → Prop} (kk : ∀ σ τ : j_G, j_Rel σ τ → x_R x_mt (some (L, xs)) 10 M_law (18, [(3, .int (i + Int32.ofInt (6))), (2, .ref 75), (1, .ref 0), (0, .ref x_scr)], [], j_hp true σ τ, 98, 10728) P) : x_R x_mt (some (L, xs)) 10 M_law (1336, [(3, .int i), (2, .ref 75), (1, .ref 0), (0, .ref x_scr)], [], j_hp true σ τ, 98, 10728) P := by
  obtain ⟨vx, ex, vm, em, hR1⟩ := s_luck hR (xs ((i + 1)).toNatClampNeg)
  refine x_c36a _ L xs i h0 h1 h2 h3 h4 h5 ?_
  refine j_RcPi (s := true) (D := 2) (ai := 150) (vs := [.ref 0, .int (xs ((i + 1)).toNatClampNeg)]) (rest := []) (fun _ => j_Lsc lr_1342 rfl) (c_X11_luck (xs ((i + 1)).toNatClampNeg) σ) (by decide) ex ?_
  refine x_c36b _ L xs i h0 h1 h2 h3 h4 h5 vx ?_
  rw [j_swp]
  refine j_RcPi (s := false) (D := 3) (ai := 304) (vs := [.ref 75, .int (xs ((i + 1)).toNatClampNeg)]) (rest := []) (fun _ => j_Lsc lr_1352 rfl) (c_X12_luck (xs ((i + 1)).toNatClampNeg) τ) (by decide) em ?_
  refine x_c36d _ L xs i h0 h1 h2 h3 h4 h5 vm ?_
  rw [← j_swp]
  exact kk _ _ hR1

theorem x_case37 (L : Nat) (xs : Nat → Int32) (i : Int32) (h0 : ¬ (i < 0 ∨ L ≤ (i).toNatClampNeg)) (h1 : ¬ (i + 1 < 0 ∨ L ≤ (i + 1).toNatClampNeg)) (h2 : ¬ (i + 2 < 0 ∨ L ≤ (i + 2).toNatClampNeg)) (h3 : ¬ (i + 3 < 0 ∨ L ≤ (i + 3).toNatClampNeg)) (h4 : ¬ (i + 4 < 0 ∨ L ≤ (i + 4).toNatClampNeg)) (h5 : ¬ (i + 5 < 0 ∨ L ≤ (i + 5).toNatClampNeg)) {σ τ : j_G} (hR : j_Rel σ τ) {P : Option Value × xH × Nat × Nat → Prop} (kk : ∀ σ τ : j_G, j_Rel σ τ → x_R x_mt (some (L, xs)) 10 M_law (18, [(3, .int (i + Int32.ofInt (6))), (2, .ref 75), (1, .ref 0), (0, .ref x_scr)], [], j_hp true σ τ, 98, 10728) P) : x_R x_mt (some (L, xs)) 10 M_law (1359, [(3, .int i), (2, .ref 75), (1, .ref 0), (0, .ref x_scr)], [], j_hp true σ τ, 98, 10728) P := by
  obtain ⟨vx, ex, vm, em, hR1⟩ := s_fits hR (xs ((i + 1)).toNatClampNeg)
  refine x_c37a _ L xs i h0 h1 h2 h3 h4 h5 ?_
  refine j_RcPi (s := true) (D := 3) (ai := 151) (vs := [.ref 0, .int (xs ((i + 1)).toNatClampNeg)]) (rest := []) (fun _ => j_Lsc lr_1365 rfl) (c_X11_fits (xs ((i + 1)).toNatClampNeg) σ) (by decide) ex ?_
  refine x_c37b _ L xs i h0 h1 h2 h3 h4 h5 vx ?_
  rw [j_swp]
  refine j_RcPi (s := false) (D := 3) (ai := 306) (vs := [.ref 75, .int (xs ((i + 1)).toNatClampNeg)]) (rest := []) (fun _ => j_Lsc lr_1375 rfl) (c_X12_fits (xs ((i + 1)).toNatClampNeg) τ) (by decide) em ?_
  refine x_c37d _ L xs i h0 h1 h2 h3 h4 h5 vm ?_
  rw [← j_swp]
  exact kk _ _ hR1

theorem x_case38 (L : Nat) (xs : Nat → Int32) (i : Int32) (h0 : ¬ (i < 0 ∨ L ≤ (i).toNatClampNeg)) (h1 : ¬ (i + 1 < 0 ∨ L ≤ (i + 1).toNatClampNeg)) (h2 : ¬ (i + 2 < 0 ∨ L ≤ (i + 2).toNatClampNeg)) (h3 : ¬ (i + 3 < 0 ∨ L ≤ (i + 3).toNatClampNeg)) (h4 : ¬ (i + 4 < 0 ∨ L ≤ (i + 4).toNatClampNeg)) (h5 : ¬ (i + 5 < 0 ∨ L ≤ (i + 5).toNatClampNeg)) {σ τ : j_G} (hR : j_Rel σ τ) {P : Option Value × xH × Nat × Nat → Prop} (kk : ∀ σ τ : j_G, j_Rel σ τ → x_R x_mt (some (L, xs)) 10 M_law (18, [(3, .int (i + Int32.ofInt (6))), (2, .ref 75), (1, .ref 0), (0, .ref x_scr)], [], j_hp true σ τ, 98, 10728) P) : x_R x_mt (some (L, xs)) 10 M_law (1382, [(3, .int i), (2, .ref 75), (1, .ref 0), (0, .ref x_scr)], [], j_hp true σ τ, 98, 10728) P := by
  obtain ⟨vx, ex, vm, em, hR1⟩ := s_place hR (xs ((i + 1)).toNatClampNeg) (xs ((i + 2)).toNatClampNeg)
  refine x_c38a _ L xs i h0 h1 h2 h3 h4 h5 ?_
  refine j_RcPi (s := true) (D := 3) (ai := 152) (vs := [.ref 0, .int (xs ((i + 1)).toNatClampNeg), .int (xs ((i + 2)).toNatClampNeg)]) (rest := []) (fun _ => j_Lsc lr_1393 rfl) (c_X11_place (xs ((i + 1)).toNatClampNeg) (xs ((i + 2)).toNatClampNeg) σ) (by decide) ex ?_
  refine x_c38b _ L xs i h0 h1 h2 h3 h4 h5 vx ?_
  rw [j_swp]
  refine j_RcPi (s := false) (D := 3) (ai := 307) (vs := [.ref 75, .int (xs ((i + 1)).toNatClampNeg), .int (xs ((i + 2)).toNatClampNeg)]) (rest := []) (fun _ => j_Lsc lr_1408 rfl) (c_X12_place (xs ((i + 1)).toNatClampNeg) (xs ((i + 2)).toNatClampNeg) τ) (by decide) em ?_
  refine x_c38d _ L xs i h0 h1 h2 h3 h4 h5 vm ?_
  rw [← j_swp]
  exact kk _ _ hR1

theorem x_case39 (L : Nat) (xs : Nat → Int32) (i : Int32) (h0 : ¬ (i < 0 ∨ L ≤ (i).toNatClampNeg)) (h1 : ¬ (i + 1 < 0 ∨ L ≤ (i + 1).toNatClampNeg)) (h2 : ¬ (i + 2 < 0 ∨ L ≤ (i + 2).toNatClampNeg)) (h3 : ¬ (i + 3 < 0 ∨ L ≤ (i + 3).toNatClampNeg)) (h4 : ¬ (i + 4 < 0 ∨ L ≤ (i + 4).toNatClampNeg)) (h5 : ¬ (i + 5 < 0 ∨ L ≤ (i + 5).toNatClampNeg)) {σ τ : j_G} (hR : j_Rel σ τ) {P : Option Value × xH × Nat × Nat → Prop} (kk : ∀ σ τ : j_G, j_Rel σ τ → x_R x_mt (some (L, xs)) 10 M_law (18, [(3, .int (i + Int32.ofInt (6))), (2, .ref 75), (1, .ref 0), (0, .ref x_scr)], [], j_hp true σ τ, 98, 10728) P) : x_R x_mt (some (L, xs)) 10 M_law (1415, [(3, .int i), (2, .ref 75), (1, .ref 0), (0, .ref x_scr)], [], j_hp true σ τ, 98, 10728) P := by
  obtain ⟨vx, ex, vm, em, hR1⟩ := s_next hR (xs ((i + 1)).toNatClampNeg)
  refine x_c39a _ L xs i h0 h1 h2 h3 h4 h5 ?_
  refine j_RcPi (s := true) (D := 3) (ai := 153) (vs := [.ref 0, .int (xs ((i + 1)).toNatClampNeg)]) (rest := []) (fun _ => j_Lsc lr_1421 rfl) (c_X11_next (xs ((i + 1)).toNatClampNeg) σ) (by decide) ex ?_
  refine x_c39b _ L xs i h0 h1 h2 h3 h4 h5 vx ?_
  rw [j_swp]
  refine j_RcPi (s := false) (D := 3) (ai := 308) (vs := [.ref 75, .int (xs ((i + 1)).toNatClampNeg)]) (rest := []) (fun _ => j_Lsc lr_1431 rfl) (c_X12_next (xs ((i + 1)).toNatClampNeg) τ) (by decide) em ?_
  refine x_c39d _ L xs i h0 h1 h2 h3 h4 h5 vm ?_
  rw [← j_swp]
  exact kk _ _ hR1

theorem x_case40 (L : Nat) (xs : Nat → Int32) (i : Int32) (h0 : ¬ (i < 0 ∨ L ≤ (i).toNatClampNeg)) (h1 : ¬ (i + 1 < 0 ∨ L ≤ (i + 1).toNatClampNeg)) (h2 : ¬ (i + 2 < 0 ∨ L ≤ (i + 2).toNatClampNeg)) (h3 : ¬ (i + 3 < 0 ∨ L ≤ (i + 3).toNatClampNeg)) (h4 : ¬ (i + 4 < 0 ∨ L ≤ (i + 4).toNatClampNeg)) (h5 : ¬ (i + 5 < 0 ∨ L ≤ (i + 5).toNatClampNeg)) {σ τ : j_G} (hR : j_Rel σ τ) {P : Option Value × xH × Nat × Nat → Prop} (kk : ∀ σ τ : j_G, j_Rel σ τ → x_R x_mt (some (L, xs)) 10 M_law (18, [(3, .int (i + Int32.ofInt (6))), (2, .ref 75), (1, .ref 0), (0, .ref x_scr)], [], j_hp true σ τ, 98, 10728) P) : x_R x_mt (some (L, xs)) 10 M_law (1438, [(3, .int i), (2, .ref 75), (1, .ref 0), (0, .ref x_scr)], [], j_hp true σ τ, 98, 10728) P := by
  obtain ⟨vx, ex, vm, em, hR1⟩ := s_needed hR (xs ((i + 1)).toNatClampNeg)
  refine x_c40a _ L xs i h0 h1 h2 h3 h4 h5 ?_
  refine j_RcPi (s := true) (D := 4) (ai := 154) (vs := [.ref 0, .int (xs ((i + 1)).toNatClampNeg)]) (rest := []) (fun _ => j_Lsc lr_1444 rfl) (c_X11_needed (xs ((i + 1)).toNatClampNeg) σ) (by decide) ex ?_
  refine x_c40b _ L xs i h0 h1 h2 h3 h4 h5 vx ?_
  rw [j_swp]
  refine j_RcPi (s := false) (D := 4) (ai := 311) (vs := [.ref 75, .int (xs ((i + 1)).toNatClampNeg)]) (rest := []) (fun _ => j_Lsc lr_1454 rfl) (c_X12_needed (xs ((i + 1)).toNatClampNeg) τ) (by decide) em ?_
  refine x_c40d _ L xs i h0 h1 h2 h3 h4 h5 vm ?_
  rw [← j_swp]
  exact kk _ _ hR1

theorem x_case41 (L : Nat) (xs : Nat → Int32) (i : Int32) (h0 : ¬ (i < 0 ∨ L ≤ (i).toNatClampNeg)) (h1 : ¬ (i + 1 < 0 ∨ L ≤ (i + 1).toNatClampNeg)) (h2 : ¬ (i + 2 < 0 ∨ L ≤ (i + 2).toNatClampNeg)) (h3 : ¬ (i + 3 < 0 ∨ L ≤ (i + 3).toNatClampNeg)) (h4 : ¬ (i + 4 < 0 ∨ L ≤ (i + 4).toNatClampNeg)) (h5 : ¬ (i + 5 < 0 ∨ L ≤ (i + 5).toNatClampNeg)) {σ τ : j_G} (hR : j_Rel σ τ) {P : Option Value × xH × Nat × Nat → Prop} (kk : ∀ σ τ : j_G, j_Rel σ τ → x_R x_mt (some (L, xs)) 10 M_law (18, [(3, .int (i + Int32.ofInt (6))), (2, .ref 75), (1, .ref 0), (0, .ref x_scr)], [], j_hp true σ τ, 98, 10728) P) : x_R x_mt (some (L, xs)) 10 M_law (1461, [(3, .int i), (2, .ref 75), (1, .ref 0), (0, .ref x_scr)], [], j_hp true σ τ, 98, 10728) P := by
  obtain ⟨vx, ex, vm, em, hR1⟩ := s_known hR 
  refine x_c41a _ L xs i h0 h1 h2 h3 h4 h5 ?_
  refine j_RcPi (s := true) (D := 4) (ai := 155) (vs := [.ref 0]) (rest := []) (fun _ => j_Lsc lr_1462 rfl) (c_X11_known  σ) (by decide) ex ?_
  refine x_c41b _ L xs i h0 h1 h2 h3 h4 h5 vx ?_
  rw [j_swp]
  refine j_RcPi (s := false) (D := 4) (ai := 312) (vs := [.ref 75]) (rest := []) (fun _ => j_Lsc lr_1467 rfl) (c_X12_known  τ) (by decide) em ?_
  refine x_c41d _ L xs i h0 h1 h2 h3 h4 h5 vm ?_
  rw [← j_swp]
  exact kk _ _ hR1

theorem x_case42 (L : Nat) (xs : Nat → Int32) (i : Int32) (h0 : ¬ (i < 0 ∨ L ≤ (i).toNatClampNeg)) (h1 : ¬ (i + 1 < 0 ∨ L ≤ (i + 1).toNatClampNeg)) (h2 : ¬ (i + 2 < 0 ∨ L ≤ (i + 2).toNatClampNeg)) (h3 : ¬ (i + 3 < 0 ∨ L ≤ (i + 3).toNatClampNeg)) (h4 : ¬ (i + 4 < 0 ∨ L ≤ (i + 4).toNatClampNeg)) (h5 : ¬ (i + 5 < 0 ∨ L ≤ (i + 5).toNatClampNeg)) {σ τ : j_G} (hR : j_Rel σ τ) {P : Option Value × xH × Nat × Nat → Prop} (kk : ∀ σ τ : j_G, j_Rel σ τ → x_R x_mt (some (L, xs)) 10 M_law (18, [(3, .int (i + Int32.ofInt (6))), (2, .ref 75), (1, .ref 0), (0, .ref x_scr)], [], j_hp true σ τ, 98, 10728) P) : x_R x_mt (some (L, xs)) 10 M_law (1474, [(3, .int i), (2, .ref 75), (1, .ref 0), (0, .ref x_scr)], [], j_hp true σ τ, 98, 10728) P := by
  obtain ⟨vx, σ1, ex, vm, τ1, em, hR1⟩ := s_rash hR (xs ((i + 1)).toNatClampNeg)
  refine x_c42a _ L xs i h0 h1 h2 h3 h4 h5 ?_
  refine j_RcSi (s := true) (D := 5) (ai := 156) (vs := [.ref 0, .int (xs ((i + 1)).toNatClampNeg)]) (rest := []) (fun _ => j_Lsc lr_1480 rfl) (c_X11_rash (xs ((i + 1)).toNatClampNeg) σ) (by decide) ex ?_
  refine x_c42b _ L xs i h0 h1 h2 h3 h4 h5 vx ?_
  rw [j_swp]
  refine j_RcSi (s := false) (D := 6) (ai := 314) (vs := [.ref 75, .int (xs ((i + 1)).toNatClampNeg)]) (rest := []) (fun _ => j_Lsc lr_1490 rfl) (c_X12_rash (xs ((i + 1)).toNatClampNeg) τ) (by decide) em ?_
  refine x_c42d _ L xs i h0 h1 h2 h3 h4 h5 vm ?_
  rw [← j_swp]
  exact kk _ _ hR1

theorem x_case43 (L : Nat) (xs : Nat → Int32) (i : Int32) (h0 : ¬ (i < 0 ∨ L ≤ (i).toNatClampNeg)) (h1 : ¬ (i + 1 < 0 ∨ L ≤ (i + 1).toNatClampNeg)) (h2 : ¬ (i + 2 < 0 ∨ L ≤ (i + 2).toNatClampNeg)) (h3 : ¬ (i + 3 < 0 ∨ L ≤ (i + 3).toNatClampNeg)) (h4 : ¬ (i + 4 < 0 ∨ L ≤ (i + 4).toNatClampNeg)) (h5 : ¬ (i + 5 < 0 ∨ L ≤ (i + 5).toNatClampNeg)) {σ τ : j_G} (hR : j_Rel σ τ) {P : Option Value × xH × Nat × Nat → Prop} (kk : ∀ σ τ : j_G, j_Rel σ τ → x_R x_mt (some (L, xs)) 10 M_law (18, [(3, .int (i + Int32.ofInt (6))), (2, .ref 75), (1, .ref 0), (0, .ref x_scr)], [], j_hp true σ τ, 98, 10728) P) : x_R x_mt (some (L, xs)) 10 M_law (1497, [(3, .int i), (2, .ref 75), (1, .ref 0), (0, .ref x_scr)], [], j_hp true σ τ, 98, 10728) P := by
  obtain ⟨vx, σ1, ex, vm, τ1, em, hR1⟩ := s_look hR (xs ((i + 1)).toNatClampNeg) (xs ((i + 2)).toNatClampNeg)
  refine x_c43a _ L xs i h0 h1 h2 h3 h4 h5 ?_
  refine j_RcSi (s := true) (D := 6) (ai := 157) (vs := [.ref 0, .int (xs ((i + 1)).toNatClampNeg), .int (xs ((i + 2)).toNatClampNeg)]) (rest := []) (fun _ => j_Lsc lr_1508 rfl) (c_X11_look (xs ((i + 1)).toNatClampNeg) (xs ((i + 2)).toNatClampNeg) σ) (by decide) ex ?_
  refine x_c43b _ L xs i h0 h1 h2 h3 h4 h5 vx ?_
  rw [j_swp]
  refine j_RcSi (s := false) (D := 6) (ai := 316) (vs := [.ref 75, .int (xs ((i + 1)).toNatClampNeg), .int (xs ((i + 2)).toNatClampNeg)]) (rest := []) (fun _ => j_Lsc lr_1523 rfl) (c_X12_look (xs ((i + 1)).toNatClampNeg) (xs ((i + 2)).toNatClampNeg) τ) (by decide) em ?_
  refine x_c43d _ L xs i h0 h1 h2 h3 h4 h5 vm ?_
  rw [← j_swp]
  exact kk _ _ hR1

theorem x_case44 (L : Nat) (xs : Nat → Int32) (i : Int32) (h0 : ¬ (i < 0 ∨ L ≤ (i).toNatClampNeg)) (h1 : ¬ (i + 1 < 0 ∨ L ≤ (i + 1).toNatClampNeg)) (h2 : ¬ (i + 2 < 0 ∨ L ≤ (i + 2).toNatClampNeg)) (h3 : ¬ (i + 3 < 0 ∨ L ≤ (i + 3).toNatClampNeg)) (h4 : ¬ (i + 4 < 0 ∨ L ≤ (i + 4).toNatClampNeg)) (h5 : ¬ (i + 5 < 0 ∨ L ≤ (i + 5).toNatClampNeg)) {σ τ : j_G} (hR : j_Rel σ τ) {P : Option Value × xH × Nat × Nat → Prop} (kk : ∀ σ τ : j_G, j_Rel σ τ → x_R x_mt (some (L, xs)) 10 M_law (18, [(3, .int (i + Int32.ofInt (6))), (2, .ref 75), (1, .ref 0), (0, .ref x_scr)], [], j_hp true σ τ, 98, 10728) P) : x_R x_mt (some (L, xs)) 10 M_law (1530, [(3, .int i), (2, .ref 75), (1, .ref 0), (0, .ref x_scr)], [], j_hp true σ τ, 98, 10728) P := by
  obtain ⟨vx, σ1, ex, vm, τ1, em, hR1⟩ := s_line hR (xs ((i + 1)).toNatClampNeg)
  refine x_c44a _ L xs i h0 h1 h2 h3 h4 h5 ?_
  refine j_RcSi (s := true) (D := 6) (ai := 158) (vs := [.ref 0, .int (xs ((i + 1)).toNatClampNeg)]) (rest := []) (fun _ => j_Lsc lr_1536 rfl) (c_X11_line (xs ((i + 1)).toNatClampNeg) σ) (by decide) ex ?_
  refine x_c44b _ L xs i h0 h1 h2 h3 h4 h5 vx ?_
  rw [j_swp]
  refine j_RcSi (s := false) (D := 6) (ai := 317) (vs := [.ref 75, .int (xs ((i + 1)).toNatClampNeg)]) (rest := []) (fun _ => j_Lsc lr_1546 rfl) (c_X12_line (xs ((i + 1)).toNatClampNeg) τ) (by decide) em ?_
  refine x_c44d _ L xs i h0 h1 h2 h3 h4 h5 vm ?_
  rw [← j_swp]
  exact kk _ _ hR1

theorem x_case45 (L : Nat) (xs : Nat → Int32) (i : Int32) (h0 : ¬ (i < 0 ∨ L ≤ (i).toNatClampNeg)) (h1 : ¬ (i + 1 < 0 ∨ L ≤ (i + 1).toNatClampNeg)) (h2 : ¬ (i + 2 < 0 ∨ L ≤ (i + 2).toNatClampNeg)) (h3 : ¬ (i + 3 < 0 ∨ L ≤ (i + 3).toNatClampNeg)) (h4 : ¬ (i + 4 < 0 ∨ L ≤ (i + 4).toNatClampNeg)) (h5 : ¬ (i + 5 < 0 ∨ L ≤ (i + 5).toNatClampNeg)) {σ τ : j_G} (hR : j_Rel σ τ) {P : Option Value × xH × Nat × Nat → Prop} (kk : ∀ σ τ : j_G, j_Rel σ τ → x_R x_mt (some (L, xs)) 10 M_law (18, [(3, .int (i + Int32.ofInt (6))), (2, .ref 75), (1, .ref 0), (0, .ref x_scr)], [], j_hp true σ τ, 98, 10728) P) : x_R x_mt (some (L, xs)) 10 M_law (1553, [(3, .int i), (2, .ref 75), (1, .ref 0), (0, .ref x_scr)], [], j_hp true σ τ, 98, 10728) P := by
  obtain ⟨vx, σ1, ex, vm, τ1, em, hR1⟩ := s_two hR (xs ((i + 1)).toNatClampNeg) (xs ((i + 2)).toNatClampNeg) (xs ((i + 3)).toNatClampNeg)
  refine x_c45a _ L xs i h0 h1 h2 h3 h4 h5 ?_
  refine j_RcSi (s := true) (D := 5) (ai := 159) (vs := [.ref 0, .int (xs ((i + 1)).toNatClampNeg), .int (xs ((i + 2)).toNatClampNeg), .int (xs ((i + 3)).toNatClampNeg)]) (rest := []) (fun _ => j_Lsc lr_1569 rfl) (c_X11_two (xs ((i + 1)).toNatClampNeg) (xs ((i + 2)).toNatClampNeg) (xs ((i + 3)).toNatClampNeg) σ) (by decide) ex ?_
  refine x_c45b _ L xs i h0 h1 h2 h3 h4 h5 vx ?_
  rw [j_swp]
  refine j_RcSi (s := false) (D := 6) (ai := 319) (vs := [.ref 75, .int (xs ((i + 1)).toNatClampNeg), .int (xs ((i + 2)).toNatClampNeg), .int (xs ((i + 3)).toNatClampNeg)]) (rest := []) (fun _ => j_Lsc lr_1589 rfl) (c_X12_two (xs ((i + 1)).toNatClampNeg) (xs ((i + 2)).toNatClampNeg) (xs ((i + 3)).toNatClampNeg) τ) (by decide) em ?_
  refine x_c45d _ L xs i h0 h1 h2 h3 h4 h5 vm ?_
  rw [← j_swp]
  exact kk _ _ hR1

theorem x_case46 (L : Nat) (xs : Nat → Int32) (i : Int32) (h0 : ¬ (i < 0 ∨ L ≤ (i).toNatClampNeg)) (h1 : ¬ (i + 1 < 0 ∨ L ≤ (i + 1).toNatClampNeg)) (h2 : ¬ (i + 2 < 0 ∨ L ≤ (i + 2).toNatClampNeg)) (h3 : ¬ (i + 3 < 0 ∨ L ≤ (i + 3).toNatClampNeg)) (h4 : ¬ (i + 4 < 0 ∨ L ≤ (i + 4).toNatClampNeg)) (h5 : ¬ (i + 5 < 0 ∨ L ≤ (i + 5).toNatClampNeg)) {σ τ : j_G} (hR : j_Rel σ τ) {P : Option Value × xH × Nat × Nat → Prop} (kk : ∀ σ τ : j_G, j_Rel σ τ → x_R x_mt (some (L, xs)) 10 M_law (18, [(3, .int (i + Int32.ofInt (6))), (2, .ref 75), (1, .ref 0), (0, .ref x_scr)], [], j_hp true σ τ, 98, 10728) P) : x_R x_mt (some (L, xs)) 10 M_law (1596, [(3, .int i), (2, .ref 75), (1, .ref 0), (0, .ref x_scr)], [], j_hp true σ τ, 98, 10728) P := by
  obtain ⟨vx, σ1, ex, vm, τ1, em, hR1⟩ := s_tickets hR (xs ((i + 1)).toNatClampNeg)
  refine x_c46a _ L xs i h0 h1 h2 h3 h4 h5 ?_
  refine j_RcSi (s := true) (D := 6) (ai := 160) (vs := [.ref 0, .int (xs ((i + 1)).toNatClampNeg)]) (rest := []) (fun _ => j_Lsc lr_1602 rfl) (c_X11_tickets (xs ((i + 1)).toNatClampNeg) σ) (by decide) ex ?_
  refine x_c46b _ L xs i h0 h1 h2 h3 h4 h5 vx ?_
  rw [j_swp]
  refine j_RcSi (s := false) (D := 7) (ai := 321) (vs := [.ref 75, .int (xs ((i + 1)).toNatClampNeg)]) (rest := []) (fun _ => j_Lsc lr_1612 rfl) (c_X12_tickets (xs ((i + 1)).toNatClampNeg) τ) (by decide) em ?_
  refine x_c46d _ L xs i h0 h1 h2 h3 h4 h5 vm ?_
  rw [← j_swp]
  exact kk _ _ hR1

theorem x_case47 (L : Nat) (xs : Nat → Int32) (i : Int32) (h0 : ¬ (i < 0 ∨ L ≤ (i).toNatClampNeg)) (h1 : ¬ (i + 1 < 0 ∨ L ≤ (i + 1).toNatClampNeg)) (h2 : ¬ (i + 2 < 0 ∨ L ≤ (i + 2).toNatClampNeg)) (h3 : ¬ (i + 3 < 0 ∨ L ≤ (i + 3).toNatClampNeg)) (h4 : ¬ (i + 4 < 0 ∨ L ≤ (i + 4).toNatClampNeg)) (h5 : ¬ (i + 5 < 0 ∨ L ≤ (i + 5).toNatClampNeg)) {σ τ : j_G} (hR : j_Rel σ τ) {P : Option Value × xH × Nat × Nat → Prop} (kk : ∀ σ τ : j_G, j_Rel σ τ → x_R x_mt (some (L, xs)) 10 M_law (18, [(3, .int (i + Int32.ofInt (6))), (2, .ref 75), (1, .ref 0), (0, .ref x_scr)], [], j_hp true σ τ, 98, 10728) P) : x_R x_mt (some (L, xs)) 10 M_law (1619, [(3, .int i), (2, .ref 75), (1, .ref 0), (0, .ref x_scr)], [], j_hp true σ τ, 98, 10728) P := by
  obtain ⟨vx, σ1, ex, vm, τ1, em, hR1⟩ := s_prize hR (xs ((i + 1)).toNatClampNeg)
  refine x_c47a _ L xs i h0 h1 h2 h3 h4 h5 ?_
  refine j_RcSi (s := true) (D := 6) (ai := 161) (vs := [.ref 0, .int (xs ((i + 1)).toNatClampNeg)]) (rest := []) (fun _ => j_Lsc lr_1625 rfl) (c_X11_prize (xs ((i + 1)).toNatClampNeg) σ) (by decide) ex ?_
  refine x_c47b _ L xs i h0 h1 h2 h3 h4 h5 vx ?_
  rw [j_swp]
  refine j_RcSi (s := false) (D := 7) (ai := 322) (vs := [.ref 75, .int (xs ((i + 1)).toNatClampNeg)]) (rest := []) (fun _ => j_Lsc lr_1635 rfl) (c_X12_prize (xs ((i + 1)).toNatClampNeg) τ) (by decide) em ?_
  refine x_c47d _ L xs i h0 h1 h2 h3 h4 h5 vm ?_
  rw [← j_swp]
  exact kk _ _ hR1

theorem x_case48 (L : Nat) (xs : Nat → Int32) (i : Int32) (h0 : ¬ (i < 0 ∨ L ≤ (i).toNatClampNeg)) (h1 : ¬ (i + 1 < 0 ∨ L ≤ (i + 1).toNatClampNeg)) (h2 : ¬ (i + 2 < 0 ∨ L ≤ (i + 2).toNatClampNeg)) (h3 : ¬ (i + 3 < 0 ∨ L ≤ (i + 3).toNatClampNeg)) (h4 : ¬ (i + 4 < 0 ∨ L ≤ (i + 4).toNatClampNeg)) (h5 : ¬ (i + 5 < 0 ∨ L ≤ (i + 5).toNatClampNeg)) {σ τ : j_G} (hR : j_Rel σ τ) {P : Option Value × xH × Nat × Nat → Prop} (kk : ∀ σ τ : j_G, j_Rel σ τ → x_R x_mt (some (L, xs)) 10 M_law (18, [(3, .int (i + Int32.ofInt (6))), (2, .ref 75), (1, .ref 0), (0, .ref x_scr)], [], j_hp true σ τ, 98, 10728) P) : x_R x_mt (some (L, xs)) 10 M_law (1642, [(3, .int i), (2, .ref 75), (1, .ref 0), (0, .ref x_scr)], [], j_hp true σ τ, 98, 10728) P := by
  obtain ⟨vx, σ1, ex, vm, τ1, em, hR1⟩ := s_counted hR (xs ((i + 1)).toNatClampNeg)
  refine x_c48a _ L xs i h0 h1 h2 h3 h4 h5 ?_
  refine j_RcSi (s := true) (D := 4) (ai := 162) (vs := [.ref 0, .int (xs ((i + 1)).toNatClampNeg)]) (rest := []) (fun _ => j_Lsc lr_1648 rfl) (c_X11_counted (xs ((i + 1)).toNatClampNeg) σ) (by decide) ex ?_
  refine x_c48b _ L xs i h0 h1 h2 h3 h4 h5 vx ?_
  rw [j_swp]
  refine j_RcSi (s := false) (D := 4) (ai := 326) (vs := [.ref 75, .int (xs ((i + 1)).toNatClampNeg)]) (rest := []) (fun _ => j_Lsc lr_1658 rfl) (c_X12_counted (xs ((i + 1)).toNatClampNeg) τ) (by decide) em ?_
  refine x_c48d _ L xs i h0 h1 h2 h3 h4 h5 vm ?_
  rw [← j_swp]
  exact kk _ _ hR1

theorem x_case49 (L : Nat) (xs : Nat → Int32) (i : Int32) (h0 : ¬ (i < 0 ∨ L ≤ (i).toNatClampNeg)) (h1 : ¬ (i + 1 < 0 ∨ L ≤ (i + 1).toNatClampNeg)) (h2 : ¬ (i + 2 < 0 ∨ L ≤ (i + 2).toNatClampNeg)) (h3 : ¬ (i + 3 < 0 ∨ L ≤ (i + 3).toNatClampNeg)) (h4 : ¬ (i + 4 < 0 ∨ L ≤ (i + 4).toNatClampNeg)) (h5 : ¬ (i + 5 < 0 ∨ L ≤ (i + 5).toNatClampNeg)) {σ τ : j_G} (hR : j_Rel σ τ) {P : Option Value × xH × Nat × Nat → Prop} (kk : ∀ σ τ : j_G, j_Rel σ τ → x_R x_mt (some (L, xs)) 10 M_law (18, [(3, .int (i + Int32.ofInt (6))), (2, .ref 75), (1, .ref 0), (0, .ref x_scr)], [], j_hp true σ τ, 98, 10728) P) : x_R x_mt (some (L, xs)) 10 M_law (1665, [(3, .int i), (2, .ref 75), (1, .ref 0), (0, .ref x_scr)], [], j_hp true σ τ, 98, 10728) P := by
  obtain ⟨vx, σ1, ex, vm, τ1, em, hR1⟩ := s_scored hR (xs ((i + 1)).toNatClampNeg)
  refine x_c49a _ L xs i h0 h1 h2 h3 h4 h5 ?_
  refine j_RcSi (s := true) (D := 4) (ai := 163) (vs := [.ref 0, .int (xs ((i + 1)).toNatClampNeg)]) (rest := []) (fun _ => j_Lsc lr_1671 rfl) (c_X11_scored (xs ((i + 1)).toNatClampNeg) σ) (by decide) ex ?_
  refine x_c49b _ L xs i h0 h1 h2 h3 h4 h5 vx ?_
  rw [j_swp]
  refine j_RcSi (s := false) (D := 4) (ai := 327) (vs := [.ref 75, .int (xs ((i + 1)).toNatClampNeg)]) (rest := []) (fun _ => j_Lsc lr_1681 rfl) (c_X12_scored (xs ((i + 1)).toNatClampNeg) τ) (by decide) em ?_
  refine x_c49d _ L xs i h0 h1 h2 h3 h4 h5 vm ?_
  rw [← j_swp]
  exact kk _ _ hR1

theorem x_case50 (L : Nat) (xs : Nat → Int32) (i : Int32) (h0 : ¬ (i < 0 ∨ L ≤ (i).toNatClampNeg)) (h1 : ¬ (i + 1 < 0 ∨ L ≤ (i + 1).toNatClampNeg)) (h2 : ¬ (i + 2 < 0 ∨ L ≤ (i + 2).toNatClampNeg)) (h3 : ¬ (i + 3 < 0 ∨ L ≤ (i + 3).toNatClampNeg)) (h4 : ¬ (i + 4 < 0 ∨ L ≤ (i + 4).toNatClampNeg)) (h5 : ¬ (i + 5 < 0 ∨ L ≤ (i + 5).toNatClampNeg)) {σ τ : j_G} (hR : j_Rel σ τ) {P : Option Value × xH × Nat × Nat → Prop} (kk : ∀ σ τ : j_G, j_Rel σ τ → x_R x_mt (some (L, xs)) 10 M_law (18, [(3, .int (i + Int32.ofInt (6))), (2, .ref 75), (1, .ref 0), (0, .ref x_scr)], [], j_hp true σ τ, 98, 10728) P) : x_R x_mt (some (L, xs)) 10 M_law (1688, [(3, .int i), (2, .ref 75), (1, .ref 0), (0, .ref x_scr)], [], j_hp true σ τ, 98, 10728) P := by
  obtain ⟨vx, σ1, ex, vm, τ1, em, hR1⟩ := s_early hR (xs ((i + 1)).toNatClampNeg) (xs ((i + 2)).toNatClampNeg)
  refine x_c50a _ L xs i h0 h1 h2 h3 h4 h5 ?_
  refine j_RcSi (s := true) (D := 4) (ai := 164) (vs := [.ref 0, .int (xs ((i + 1)).toNatClampNeg), .int (xs ((i + 2)).toNatClampNeg)]) (rest := []) (fun _ => j_Lsc lr_1699 rfl) (c_X11_early (xs ((i + 1)).toNatClampNeg) (xs ((i + 2)).toNatClampNeg) σ) (by decide) ex ?_
  refine x_c50b _ L xs i h0 h1 h2 h3 h4 h5 vx ?_
  rw [j_swp]
  refine j_RcSi (s := false) (D := 4) (ai := 328) (vs := [.ref 75, .int (xs ((i + 1)).toNatClampNeg), .int (xs ((i + 2)).toNatClampNeg)]) (rest := []) (fun _ => j_Lsc lr_1714 rfl) (c_X12_early (xs ((i + 1)).toNatClampNeg) (xs ((i + 2)).toNatClampNeg) τ) (by decide) em ?_
  refine x_c50d _ L xs i h0 h1 h2 h3 h4 h5 vm ?_
  rw [← j_swp]
  exact kk _ _ hR1

theorem x_case51 (L : Nat) (xs : Nat → Int32) (i : Int32) (h0 : ¬ (i < 0 ∨ L ≤ (i).toNatClampNeg)) (h1 : ¬ (i + 1 < 0 ∨ L ≤ (i + 1).toNatClampNeg)) (h2 : ¬ (i + 2 < 0 ∨ L ≤ (i + 2).toNatClampNeg)) (h3 : ¬ (i + 3 < 0 ∨ L ≤ (i + 3).toNatClampNeg)) (h4 : ¬ (i + 4 < 0 ∨ L ≤ (i + 4).toNatClampNeg)) (h5 : ¬ (i + 5 < 0 ∨ L ≤ (i + 5).toNatClampNeg)) {σ τ : j_G} (hR : j_Rel σ τ) {P : Option Value × xH × Nat × Nat → Prop} (kk : ∀ σ τ : j_G, j_Rel σ τ → x_R x_mt (some (L, xs)) 10 M_law (18, [(3, .int (i + Int32.ofInt (6))), (2, .ref 75), (1, .ref 0), (0, .ref x_scr)], [], j_hp true σ τ, 98, 10728) P) : x_R x_mt (some (L, xs)) 10 M_law (1721, [(3, .int i), (2, .ref 75), (1, .ref 0), (0, .ref x_scr)], [], j_hp true σ τ, 98, 10728) P := by
  obtain ⟨vx, ex, vm, em, hR1⟩ := s_often hR (xs ((i + 1)).toNatClampNeg)
  refine x_c51a _ L xs i h0 h1 h2 h3 h4 h5 ?_
  refine j_RcPi (s := true) (D := 2) (ai := 165) (vs := [.ref 0, .int (xs ((i + 1)).toNatClampNeg)]) (rest := []) (fun _ => j_Lsc lr_1727 rfl) (c_X11_often (xs ((i + 1)).toNatClampNeg) σ) (by decide) ex ?_
  refine x_c51b _ L xs i h0 h1 h2 h3 h4 h5 vx ?_
  rw [j_swp]
  refine j_RcPi (s := false) (D := 2) (ai := 330) (vs := [.ref 75, .int (xs ((i + 1)).toNatClampNeg)]) (rest := []) (fun _ => j_Lsc lr_1737 rfl) (c_X12_often (xs ((i + 1)).toNatClampNeg) τ) (by decide) em ?_
  refine x_c51d _ L xs i h0 h1 h2 h3 h4 h5 vm ?_
  rw [← j_swp]
  exact kk _ _ hR1

theorem x_case52 (L : Nat) (xs : Nat → Int32) (i : Int32) (h0 : ¬ (i < 0 ∨ L ≤ (i).toNatClampNeg)) (h1 : ¬ (i + 1 < 0 ∨ L ≤ (i + 1).toNatClampNeg)) (h2 : ¬ (i + 2 < 0 ∨ L ≤ (i + 2).toNatClampNeg)) (h3 : ¬ (i + 3 < 0 ∨ L ≤ (i + 3).toNatClampNeg)) (h4 : ¬ (i + 4 < 0 ∨ L ≤ (i + 4).toNatClampNeg)) (h5 : ¬ (i + 5 < 0 ∨ L ≤ (i + 5).toNatClampNeg)) {σ τ : j_G} (hR : j_Rel σ τ) {P : Option Value × xH × Nat × Nat → Prop} (kk : ∀ σ τ : j_G, j_Rel σ τ → x_R x_mt (some (L, xs)) 10 M_law (18, [(3, .int (i + Int32.ofInt (6))), (2, .ref 75), (1, .ref 0), (0, .ref x_scr)], [], j_hp true σ τ, 98, 10728) P) : x_R x_mt (some (L, xs)) 10 M_law (1744, [(3, .int i), (2, .ref 75), (1, .ref 0), (0, .ref x_scr)], [], j_hp true σ τ, 98, 10728) P := by
  obtain ⟨vx, ex, vm, em, hR1⟩ := s_balance hR 
  refine x_c52a _ L xs i h0 h1 h2 h3 h4 h5 ?_
  refine j_RcPi (s := true) (D := 1) (ai := 166) (vs := [.ref 0]) (rest := []) (fun _ => j_Lsc lr_1745 rfl) (c_X11_balance  σ) (by decide) ex ?_
  refine x_c52b _ L xs i h0 h1 h2 h3 h4 h5 vx ?_
  rw [j_swp]
  refine j_RcPi (s := false) (D := 2) (ai := 331) (vs := [.ref 75]) (rest := []) (fun _ => j_Lsc lr_1750 rfl) (c_X12_balance  τ) (by decide) em ?_
  refine x_c52d _ L xs i h0 h1 h2 h3 h4 h5 vm ?_
  rw [← j_swp]
  exact kk _ _ hR1

theorem x_case53 (L : Nat) (xs : Nat → Int32) (i : Int32) (h0 : ¬ (i < 0 ∨ L ≤ (i).toNatClampNeg)) (h1 : ¬ (i + 1 < 0 ∨ L ≤ (i + 1).toNatClampNeg)) (h2 : ¬ (i + 2 < 0 ∨ L ≤ (i + 2).toNatClampNeg)) (h3 : ¬ (i + 3 < 0 ∨ L ≤ (i + 3).toNatClampNeg)) (h4 : ¬ (i + 4 < 0 ∨ L ≤ (i + 4).toNatClampNeg)) (h5 : ¬ (i + 5 < 0 ∨ L ≤ (i + 5).toNatClampNeg)) {σ τ : j_G} (hR : j_Rel σ τ) {P : Option Value × xH × Nat × Nat → Prop} (kk : ∀ σ τ : j_G, j_Rel σ τ → x_R x_mt (some (L, xs)) 10 M_law (18, [(3, .int (i + Int32.ofInt (6))), (2, .ref 75), (1, .ref 0), (0, .ref x_scr)], [], j_hp true σ τ, 98, 10728) P) : x_R x_mt (some (L, xs)) 10 M_law (1757, [(3, .int i), (2, .ref 75), (1, .ref 0), (0, .ref x_scr)], [], j_hp true σ τ, 98, 10728) P := by
  obtain ⟨vx, ex, vm, em, hR1⟩ := s_path hR 
  refine x_c53a _ L xs i h0 h1 h2 h3 h4 h5 ?_
  refine j_RcPi (s := true) (D := 3) (ai := 167) (vs := [.ref 0]) (rest := []) (fun _ => j_Lsc lr_1758 rfl) (c_X11_path  σ) (by decide) ex ?_
  refine x_c53b _ L xs i h0 h1 h2 h3 h4 h5 vx ?_
  rw [j_swp]
  refine j_RcPi (s := false) (D := 3) (ai := 333) (vs := [.ref 75]) (rest := []) (fun _ => j_Lsc lr_1763 rfl) (c_X12_path  τ) (by decide) em ?_
  refine x_c53d _ L xs i h0 h1 h2 h3 h4 h5 vm ?_
  rw [← j_swp]
  exact kk _ _ hR1

theorem x_case54 (L : Nat) (xs : Nat → Int32) (i : Int32) (h0 : ¬ (i < 0 ∨ L ≤ (i).toNatClampNeg)) (h1 : ¬ (i + 1 < 0 ∨ L ≤ (i + 1).toNatClampNeg)) (h2 : ¬ (i + 2 < 0 ∨ L ≤ (i + 2).toNatClampNeg)) (h3 : ¬ (i + 3 < 0 ∨ L ≤ (i + 3).toNatClampNeg)) (h4 : ¬ (i + 4 < 0 ∨ L ≤ (i + 4).toNatClampNeg)) (h5 : ¬ (i + 5 < 0 ∨ L ≤ (i + 5).toNatClampNeg)) {σ τ : j_G} (hR : j_Rel σ τ) {P : Option Value × xH × Nat × Nat → Prop} (kk : ∀ σ τ : j_G, j_Rel σ τ → x_R x_mt (some (L, xs)) 10 M_law (18, [(3, .int (i + Int32.ofInt (6))), (2, .ref 75), (1, .ref 0), (0, .ref x_scr)], [], j_hp true σ τ, 98, 10728) P) : x_R x_mt (some (L, xs)) 10 M_law (1770, [(3, .int i), (2, .ref 75), (1, .ref 0), (0, .ref x_scr)], [], j_hp true σ τ, 98, 10728) P := by
  obtain ⟨vx, σ1, ex, vm, τ1, em, hR1⟩ := s_better hR (xs ((i + 1)).toNatClampNeg)
  refine x_c54a _ L xs i h0 h1 h2 h3 h4 h5 ?_
  refine j_RcSi (s := true) (D := 3) (ai := 168) (vs := [.ref 0, .int (xs ((i + 1)).toNatClampNeg)]) (rest := []) (fun _ => j_Lsc lr_1776 rfl) (c_X11_better (xs ((i + 1)).toNatClampNeg) σ) (by decide) ex ?_
  refine x_c54b _ L xs i h0 h1 h2 h3 h4 h5 vx ?_
  rw [j_swp]
  refine j_RcSi (s := false) (D := 3) (ai := 335) (vs := [.ref 75, .int (xs ((i + 1)).toNatClampNeg)]) (rest := []) (fun _ => j_Lsc lr_1786 rfl) (c_X12_better (xs ((i + 1)).toNatClampNeg) τ) (by decide) em ?_
  refine x_c54d _ L xs i h0 h1 h2 h3 h4 h5 vm ?_
  rw [← j_swp]
  exact kk _ _ hR1

theorem x_case55 (L : Nat) (xs : Nat → Int32) (i : Int32) (h0 : ¬ (i < 0 ∨ L ≤ (i).toNatClampNeg)) (h1 : ¬ (i + 1 < 0 ∨ L ≤ (i + 1).toNatClampNeg)) (h2 : ¬ (i + 2 < 0 ∨ L ≤ (i + 2).toNatClampNeg)) (h3 : ¬ (i + 3 < 0 ∨ L ≤ (i + 3).toNatClampNeg)) (h4 : ¬ (i + 4 < 0 ∨ L ≤ (i + 4).toNatClampNeg)) (h5 : ¬ (i + 5 < 0 ∨ L ≤ (i + 5).toNatClampNeg)) {σ τ : j_G} (hR : j_Rel σ τ) {P : Option Value × xH × Nat × Nat → Prop} (kk : ∀ σ τ : j_G, j_Rel σ τ → x_R x_mt (some (L, xs)) 10 M_law (18, [(3, .int (i + Int32.ofInt (6))), (2, .ref 75), (1, .ref 0), (0, .ref x_scr)], [], j_hp true σ τ, 98, 10728) P) : x_R x_mt (some (L, xs)) 10 M_law (1793, [(3, .int i), (2, .ref 75), (1, .ref 0), (0, .ref x_scr)], [], j_hp true σ τ, 98, 10728) P := by
  obtain ⟨vx, σ1, ex, vm, τ1, em, hR1⟩ := s_swap hR (xs ((i + 1)).toNatClampNeg) (xs ((i + 2)).toNatClampNeg)
  refine x_c55a _ L xs i h0 h1 h2 h3 h4 h5 ?_
  refine j_RcSi (s := true) (D := 2) (ai := 169) (vs := [.ref 0, .int (xs ((i + 1)).toNatClampNeg), .int (xs ((i + 2)).toNatClampNeg)]) (rest := []) (fun _ => j_Lsc lr_1804 rfl) (c_X11_swap (xs ((i + 1)).toNatClampNeg) (xs ((i + 2)).toNatClampNeg) σ) (by decide) ex ?_
  refine x_c55b _ L xs i h0 h1 h2 h3 h4 h5 vx ?_
  rw [j_swp]
  refine j_RcSi (s := false) (D := 2) (ai := 336) (vs := [.ref 75, .int (xs ((i + 1)).toNatClampNeg), .int (xs ((i + 2)).toNatClampNeg)]) (rest := []) (fun _ => j_Lsc lr_1819 rfl) (c_X12_swap (xs ((i + 1)).toNatClampNeg) (xs ((i + 2)).toNatClampNeg) τ) (by decide) em ?_
  refine x_c55d _ L xs i h0 h1 h2 h3 h4 h5 vm ?_
  rw [← j_swp]
  exact kk _ _ hR1

theorem x_case56 (L : Nat) (xs : Nat → Int32) (i : Int32) (h0 : ¬ (i < 0 ∨ L ≤ (i).toNatClampNeg)) (h1 : ¬ (i + 1 < 0 ∨ L ≤ (i + 1).toNatClampNeg)) (h2 : ¬ (i + 2 < 0 ∨ L ≤ (i + 2).toNatClampNeg)) (h3 : ¬ (i + 3 < 0 ∨ L ≤ (i + 3).toNatClampNeg)) (h4 : ¬ (i + 4 < 0 ∨ L ≤ (i + 4).toNatClampNeg)) (h5 : ¬ (i + 5 < 0 ∨ L ≤ (i + 5).toNatClampNeg)) {σ τ : j_G} (hR : j_Rel σ τ) {P : Option Value × xH × Nat × Nat → Prop} (kk : ∀ σ τ : j_G, j_Rel σ τ → x_R x_mt (some (L, xs)) 10 M_law (18, [(3, .int (i + Int32.ofInt (6))), (2, .ref 75), (1, .ref 0), (0, .ref x_scr)], [], j_hp true σ τ, 98, 10728) P) : x_R x_mt (some (L, xs)) 10 M_law (1826, [(3, .int i), (2, .ref 75), (1, .ref 0), (0, .ref x_scr)], [], j_hp true σ τ, 98, 10728) P := by
  obtain ⟨vx, σ1, ex, vm, τ1, em, hR1⟩ := s_paint hR (xs ((i + 1)).toNatClampNeg) (xs ((i + 2)).toNatClampNeg)
  refine x_c56a _ L xs i h0 h1 h2 h3 h4 h5 ?_
  refine j_RcSi (s := true) (D := 1) (ai := 170) (vs := [.ref 0, .int (xs ((i + 1)).toNatClampNeg), .int (xs ((i + 2)).toNatClampNeg)]) (rest := []) (fun _ => j_Lsc lr_1837 rfl) (c_X11_paint (xs ((i + 1)).toNatClampNeg) (xs ((i + 2)).toNatClampNeg) σ) (by decide) ex ?_
  refine x_c56b _ L xs i h0 h1 h2 h3 h4 h5 vx ?_
  rw [j_swp]
  refine j_RcSi (s := false) (D := 2) (ai := 337) (vs := [.ref 75, .int (xs ((i + 1)).toNatClampNeg), .int (xs ((i + 2)).toNatClampNeg)]) (rest := []) (fun _ => j_Lsc lr_1852 rfl) (c_X12_paint (xs ((i + 1)).toNatClampNeg) (xs ((i + 2)).toNatClampNeg) τ) (by decide) em ?_
  refine x_c56d _ L xs i h0 h1 h2 h3 h4 h5 vm ?_
  rw [← j_swp]
  exact kk _ _ hR1

theorem x_case57 (L : Nat) (xs : Nat → Int32) (i : Int32) (h0 : ¬ (i < 0 ∨ L ≤ (i).toNatClampNeg)) (h1 : ¬ (i + 1 < 0 ∨ L ≤ (i + 1).toNatClampNeg)) (h2 : ¬ (i + 2 < 0 ∨ L ≤ (i + 2).toNatClampNeg)) (h3 : ¬ (i + 3 < 0 ∨ L ≤ (i + 3).toNatClampNeg)) (h4 : ¬ (i + 4 < 0 ∨ L ≤ (i + 4).toNatClampNeg)) (h5 : ¬ (i + 5 < 0 ∨ L ≤ (i + 5).toNatClampNeg)) {σ τ : j_G} (hR : j_Rel σ τ) {P : Option Value × xH × Nat × Nat → Prop} (kk : ∀ σ τ : j_G, j_Rel σ τ → x_R x_mt (some (L, xs)) 10 M_law (18, [(3, .int (i + Int32.ofInt (6))), (2, .ref 75), (1, .ref 0), (0, .ref x_scr)], [], j_hp true σ τ, 98, 10728) P) : x_R x_mt (some (L, xs)) 10 M_law (1859, [(3, .int i), (2, .ref 75), (1, .ref 0), (0, .ref x_scr)], [], j_hp true σ τ, 98, 10728) P := by
  obtain ⟨vx, σ1, ex, vm, τ1, em, hR1⟩ := s_turn hR (xs ((i + 1)).toNatClampNeg)
  refine x_c57a _ L xs i h0 h1 h2 h3 h4 h5 ?_
  refine j_RcSi (s := true) (D := 1) (ai := 171) (vs := [.ref 0, .int (xs ((i + 1)).toNatClampNeg)]) (rest := []) (fun _ => j_Lsc lr_1865 rfl) (c_X11_turn (xs ((i + 1)).toNatClampNeg) σ) (by decide) ex ?_
  refine x_c57b _ L xs i h0 h1 h2 h3 h4 h5 vx ?_
  rw [j_swp]
  refine j_RcSi (s := false) (D := 2) (ai := 338) (vs := [.ref 75, .int (xs ((i + 1)).toNatClampNeg)]) (rest := []) (fun _ => j_Lsc lr_1875 rfl) (c_X12_turn (xs ((i + 1)).toNatClampNeg) τ) (by decide) em ?_
  refine x_c57d _ L xs i h0 h1 h2 h3 h4 h5 vm ?_
  rw [← j_swp]
  exact kk _ _ hR1

theorem x_case58 (L : Nat) (xs : Nat → Int32) (i : Int32) (h0 : ¬ (i < 0 ∨ L ≤ (i).toNatClampNeg)) (h1 : ¬ (i + 1 < 0 ∨ L ≤ (i + 1).toNatClampNeg)) (h2 : ¬ (i + 2 < 0 ∨ L ≤ (i + 2).toNatClampNeg)) (h3 : ¬ (i + 3 < 0 ∨ L ≤ (i + 3).toNatClampNeg)) (h4 : ¬ (i + 4 < 0 ∨ L ≤ (i + 4).toNatClampNeg)) (h5 : ¬ (i + 5 < 0 ∨ L ≤ (i + 5).toNatClampNeg)) {σ τ : j_G} (hR : j_Rel σ τ) {P : Option Value × xH × Nat × Nat → Prop} (kk : ∀ σ τ : j_G, j_Rel σ τ → x_R x_mt (some (L, xs)) 10 M_law (18, [(3, .int (i + Int32.ofInt (6))), (2, .ref 75), (1, .ref 0), (0, .ref x_scr)], [], j_hp true σ τ, 98, 10728) P) : x_R x_mt (some (L, xs)) 10 M_law (1882, [(3, .int i), (2, .ref 75), (1, .ref 0), (0, .ref x_scr)], [], j_hp true σ τ, 98, 10728) P := by
  obtain ⟨vx, σ1, ex, vm, τ1, em, hR1, eq⟩ := s_lucky hR (xs ((i + 1)).toNatClampNeg)
  refine x_c58a _ L xs i h0 h1 h2 h3 h4 h5 ?_
  refine j_RcSi (s := true) (D := 5) (ai := 139) (vs := [.ref 0, .int (xs ((i + 1)).toNatClampNeg)]) (rest := []) (fun _ => j_Lsc lr_1888 rfl) (c_X11_lucky (xs ((i + 1)).toNatClampNeg) σ) (by decide) ex ?_
  refine x_c58b _ L xs i h0 h1 h2 h3 h4 h5 vx ?_
  rw [j_swp]
  refine j_RcSi (s := false) (D := 6) (ai := 339) (vs := [.ref 75, .int (xs ((i + 1)).toNatClampNeg)]) (rest := [.int vx]) (fun _ => j_Lsc lr_1897 rfl) (c_X12_lucky (xs ((i + 1)).toNatClampNeg) τ) (by decide) em ?_
  subst eq
  refine x_c58c _ L xs i vx ?_
  refine x_c58d _ L xs i h0 h1 h2 h3 h4 h5 ?_
  rw [← j_swp]
  exact kk _ _ hR1

theorem x_case59 (L : Nat) (xs : Nat → Int32) (i : Int32) (h0 : ¬ (i < 0 ∨ L ≤ (i).toNatClampNeg)) (h1 : ¬ (i + 1 < 0 ∨ L ≤ (i + 1).toNatClampNeg)) (h2 : ¬ (i + 2 < 0 ∨ L ≤ (i + 2).toNatClampNeg)) (h3 : ¬ (i + 3 < 0 ∨ L ≤ (i + 3).toNatClampNeg)) (h4 : ¬ (i + 4 < 0 ∨ L ≤ (i + 4).toNatClampNeg)) (h5 : ¬ (i + 5 < 0 ∨ L ≤ (i + 5).toNatClampNeg)) {σ τ : j_G} (hR : j_Rel σ τ) {P : Option Value × xH × Nat × Nat → Prop} (kk : ∀ σ τ : j_G, j_Rel σ τ → x_R x_mt (some (L, xs)) 10 M_law (18, [(3, .int (i + Int32.ofInt (6))), (2, .ref 75), (1, .ref 0), (0, .ref x_scr)], [], j_hp true σ τ, 98, 10728) P) : x_R x_mt (some (L, xs)) 10 M_law (1905, [(3, .int i), (2, .ref 75), (1, .ref 0), (0, .ref x_scr)], [], j_hp true σ τ, 98, 10728) P := by
  obtain ⟨vx, σ1, ex, vm, τ1, em, hR1⟩ := s_shut hR (xs ((i + 1)).toNatClampNeg) (xs ((i + 2)).toNatClampNeg)
  refine x_c59a _ L xs i h0 h1 h2 h3 h4 h5 ?_
  refine j_RcSi (s := true) (D := 2) (ai := 172) (vs := [.ref 0, .int (xs ((i + 1)).toNatClampNeg), .int (xs ((i + 2)).toNatClampNeg)]) (rest := []) (fun _ => j_Lsc lr_1916 rfl) (c_X11_shut (xs ((i + 1)).toNatClampNeg) (xs ((i + 2)).toNatClampNeg) σ) (by decide) ex ?_
  refine x_c59b _ L xs i h0 h1 h2 h3 h4 h5 vx ?_
  rw [j_swp]
  refine j_RcSi (s := false) (D := 2) (ai := 340) (vs := [.ref 75, .int (xs ((i + 1)).toNatClampNeg), .int (xs ((i + 2)).toNatClampNeg)]) (rest := []) (fun _ => j_Lsc lr_1931 rfl) (c_X12_shut (xs ((i + 1)).toNatClampNeg) (xs ((i + 2)).toNatClampNeg) τ) (by decide) em ?_
  refine x_c59d _ L xs i h0 h1 h2 h3 h4 h5 vm ?_
  rw [← j_swp]
  exact kk _ _ hR1

theorem x_case60 (L : Nat) (xs : Nat → Int32) (i : Int32) (h0 : ¬ (i < 0 ∨ L ≤ (i).toNatClampNeg)) (h1 : ¬ (i + 1 < 0 ∨ L ≤ (i + 1).toNatClampNeg)) (h2 : ¬ (i + 2 < 0 ∨ L ≤ (i + 2).toNatClampNeg)) (h3 : ¬ (i + 3 < 0 ∨ L ≤ (i + 3).toNatClampNeg)) (h4 : ¬ (i + 4 < 0 ∨ L ≤ (i + 4).toNatClampNeg)) (h5 : ¬ (i + 5 < 0 ∨ L ≤ (i + 5).toNatClampNeg)) {σ τ : j_G} (hR : j_Rel σ τ) {P : Option Value × xH × Nat × Nat → Prop} (kk : ∀ σ τ : j_G, j_Rel σ τ → x_R x_mt (some (L, xs)) 10 M_law (18, [(3, .int (i + Int32.ofInt (6))), (2, .ref 75), (1, .ref 0), (0, .ref x_scr)], [], j_hp true σ τ, 98, 10728) P) : x_R x_mt (some (L, xs)) 10 M_law (1938, [(3, .int i), (2, .ref 75), (1, .ref 0), (0, .ref x_scr)], [], j_hp true σ τ, 98, 10728) P := by
  obtain ⟨vx, σ1, ex, vm, τ1, em, hR1⟩ := s_train hR (xs ((i + 1)).toNatClampNeg) (xs ((i + 2)).toNatClampNeg) (xs ((i + 3)).toNatClampNeg)
  refine x_c60a _ L xs i h0 h1 h2 h3 h4 h5 ?_
  refine j_RcSi (s := true) (D := 3) (ai := 173) (vs := [.ref 0, .int (xs ((i + 1)).toNatClampNeg), .int (xs ((i + 2)).toNatClampNeg), .int (xs ((i + 3)).toNatClampNeg)]) (rest := []) (fun _ => j_Lsc lr_1954 rfl) (c_X11_train (xs ((i + 1)).toNatClampNeg) (xs ((i + 2)).toNatClampNeg) (xs ((i + 3)).toNatClampNeg) σ) (by decide) ex ?_
  refine x_c60b _ L xs i h0 h1 h2 h3 h4 h5 vx ?_
  rw [j_swp]
  refine j_RcSi (s := false) (D := 2) (ai := 341) (vs := [.ref 75, .int (xs ((i + 1)).toNatClampNeg), .int (xs ((i + 2)).toNatClampNeg), .int (xs ((i + 3)).toNatClampNeg)]) (rest := []) (fun _ => j_Lsc lr_1974 rfl) (c_X12_train (xs ((i + 1)).toNatClampNeg) (xs ((i + 2)).toNatClampNeg) (xs ((i + 3)).toNatClampNeg) τ) (by decide) em ?_
  refine x_c60d _ L xs i h0 h1 h2 h3 h4 h5 vm ?_
  rw [← j_swp]
  exact kk _ _ hR1

theorem x_case61 (L : Nat) (xs : Nat → Int32) (i : Int32) (h0 : ¬ (i < 0 ∨ L ≤ (i).toNatClampNeg)) (h1 : ¬ (i + 1 < 0 ∨ L ≤ (i + 1).toNatClampNeg)) (h2 : ¬ (i + 2 < 0 ∨ L ≤ (i + 2).toNatClampNeg)) (h3 : ¬ (i + 3 < 0 ∨ L ≤ (i + 3).toNatClampNeg)) (h4 : ¬ (i + 4 < 0 ∨ L ≤ (i + 4).toNatClampNeg)) (h5 : ¬ (i + 5 < 0 ∨ L ≤ (i + 5).toNatClampNeg)) {σ τ : j_G} (hR : j_Rel σ τ) {P : Option Value × xH × Nat × Nat → Prop} (kk : ∀ σ τ : j_G, j_Rel σ τ → x_R x_mt (some (L, xs)) 10 M_law (18, [(3, .int (i + Int32.ofInt (6))), (2, .ref 75), (1, .ref 0), (0, .ref x_scr)], [], j_hp true σ τ, 98, 10728) P) : x_R x_mt (some (L, xs)) 10 M_law (1981, [(3, .int i), (2, .ref 75), (1, .ref 0), (0, .ref x_scr)], [], j_hp true σ τ, 98, 10728) P := by
  obtain ⟨vx, σ1, ex, vm, τ1, em, hR1⟩ := s_drawn hR (xs ((i + 1)).toNatClampNeg) (xs ((i + 2)).toNatClampNeg) (xs ((i + 3)).toNatClampNeg)
  refine x_c61a _ L xs i h0 h1 h2 h3 h4 h5 ?_
  refine j_RcSi (s := true) (D := 4) (ai := 174) (vs := [.ref 0, .int (xs ((i + 1)).toNatClampNeg), .int (xs ((i + 2)).toNatClampNeg), .int (xs ((i + 3)).toNatClampNeg)]) (rest := []) (fun _ => j_Lsc lr_1997 rfl) (c_X11_drawn (xs ((i + 1)).toNatClampNeg) (xs ((i + 2)).toNatClampNeg) (xs ((i + 3)).toNatClampNeg) σ) (by decide) ex ?_
  refine x_c61b _ L xs i h0 h1 h2 h3 h4 h5 vx ?_
  rw [j_swp]
  refine j_RcSi (s := false) (D := 4) (ai := 346) (vs := [.ref 75, .int (xs ((i + 1)).toNatClampNeg), .int (xs ((i + 2)).toNatClampNeg), .int (xs ((i + 3)).toNatClampNeg)]) (rest := []) (fun _ => j_Lsc lr_2017 rfl) (c_X12_drawn (xs ((i + 1)).toNatClampNeg) (xs ((i + 2)).toNatClampNeg) (xs ((i + 3)).toNatClampNeg) τ) (by decide) em ?_
  refine x_c61d _ L xs i h0 h1 h2 h3 h4 h5 vm ?_
  rw [← j_swp]
  exact kk _ _ hR1

theorem x_case62 (L : Nat) (xs : Nat → Int32) (i : Int32) (h0 : ¬ (i < 0 ∨ L ≤ (i).toNatClampNeg)) (h1 : ¬ (i + 1 < 0 ∨ L ≤ (i + 1).toNatClampNeg)) (h2 : ¬ (i + 2 < 0 ∨ L ≤ (i + 2).toNatClampNeg)) (h3 : ¬ (i + 3 < 0 ∨ L ≤ (i + 3).toNatClampNeg)) (h4 : ¬ (i + 4 < 0 ∨ L ≤ (i + 4).toNatClampNeg)) (h5 : ¬ (i + 5 < 0 ∨ L ≤ (i + 5).toNatClampNeg)) {σ τ : j_G} (hR : j_Rel σ τ) {P : Option Value × xH × Nat × Nat → Prop} (kk : ∀ σ τ : j_G, j_Rel σ τ → x_R x_mt (some (L, xs)) 10 M_law (18, [(3, .int (i + Int32.ofInt (6))), (2, .ref 75), (1, .ref 0), (0, .ref x_scr)], [], j_hp true σ τ, 98, 10728) P) : x_R x_mt (some (L, xs)) 10 M_law (2024, [(3, .int i), (2, .ref 75), (1, .ref 0), (0, .ref x_scr)], [], j_hp true σ τ, 98, 10728) P := by
  obtain ⟨vx, σ1, ex, vm, τ1, em, hR1⟩ := s_night hR (xs ((i + 1)).toNatClampNeg) (xs ((i + 2)).toNatClampNeg) (xs ((i + 3)).toNatClampNeg)
  refine x_c62a _ L xs i h0 h1 h2 h3 h4 h5 ?_
  refine j_RcSi (s := true) (D := 6) (ai := 175) (vs := [.ref 0, .int (xs ((i + 1)).toNatClampNeg), .int (xs ((i + 2)).toNatClampNeg), .int (xs ((i + 3)).toNatClampNeg)]) (rest := []) (fun _ => j_Lsc lr_2040 rfl) (c_X11_night (xs ((i + 1)).toNatClampNeg) (xs ((i + 2)).toNatClampNeg) (xs ((i + 3)).toNatClampNeg) σ) (by decide) ex ?_
  refine x_c62b _ L xs i h0 h1 h2 h3 h4 h5 vx ?_
  rw [j_swp]
  refine j_RcSi (s := false) (D := 6) (ai := 348) (vs := [.ref 75, .int (xs ((i + 1)).toNatClampNeg), .int (xs ((i + 2)).toNatClampNeg), .int (xs ((i + 3)).toNatClampNeg)]) (rest := []) (fun _ => j_Lsc lr_2060 rfl) (c_X12_night (xs ((i + 1)).toNatClampNeg) (xs ((i + 2)).toNatClampNeg) (xs ((i + 3)).toNatClampNeg) τ) (by decide) em ?_
  refine x_c62d _ L xs i h0 h1 h2 h3 h4 h5 vm ?_
  rw [← j_swp]
  exact kk _ _ hR1

theorem x_case63 (L : Nat) (xs : Nat → Int32) (i : Int32) (h0 : ¬ (i < 0 ∨ L ≤ (i).toNatClampNeg)) (h1 : ¬ (i + 1 < 0 ∨ L ≤ (i + 1).toNatClampNeg)) (h2 : ¬ (i + 2 < 0 ∨ L ≤ (i + 2).toNatClampNeg)) (h3 : ¬ (i + 3 < 0 ∨ L ≤ (i + 3).toNatClampNeg)) (h4 : ¬ (i + 4 < 0 ∨ L ≤ (i + 4).toNatClampNeg)) (h5 : ¬ (i + 5 < 0 ∨ L ≤ (i + 5).toNatClampNeg)) {σ τ : j_G} (hR : j_Rel σ τ) {P : Option Value × xH × Nat × Nat → Prop} (kk : ∀ σ τ : j_G, j_Rel σ τ → x_R x_mt (some (L, xs)) 10 M_law (18, [(3, .int (i + Int32.ofInt (6))), (2, .ref 75), (1, .ref 0), (0, .ref x_scr)], [], j_hp true σ τ, 98, 10728) P) : x_R x_mt (some (L, xs)) 10 M_law (2067, [(3, .int i), (2, .ref 75), (1, .ref 0), (0, .ref x_scr)], [], j_hp true σ τ, 98, 10728) P := by
  obtain ⟨vx, σ1, ex, vm, τ1, em, hR1⟩ := s_years hR (xs ((i + 1)).toNatClampNeg) (xs ((i + 2)).toNatClampNeg) (xs ((i + 3)).toNatClampNeg) (xs ((i + 4)).toNatClampNeg)
  refine x_c63a _ L xs i h0 h1 h2 h3 h4 h5 ?_
  refine j_RcSi (s := true) (D := 5) (ai := 176) (vs := [.ref 0, .int (xs ((i + 1)).toNatClampNeg), .int (xs ((i + 2)).toNatClampNeg), .int (xs ((i + 3)).toNatClampNeg), .int (xs ((i + 4)).toNatClampNeg)]) (rest := []) (fun _ => j_Lsc lr_2088 rfl) (c_X11_years (xs ((i + 1)).toNatClampNeg) (xs ((i + 2)).toNatClampNeg) (xs ((i + 3)).toNatClampNeg) (xs ((i + 4)).toNatClampNeg) σ) (by decide) ex ?_
  refine x_c63b _ L xs i h0 h1 h2 h3 h4 h5 vx ?_
  rw [j_swp]
  refine j_RcSi (s := false) (D := 6) (ai := 349) (vs := [.ref 75, .int (xs ((i + 1)).toNatClampNeg), .int (xs ((i + 2)).toNatClampNeg), .int (xs ((i + 3)).toNatClampNeg), .int (xs ((i + 4)).toNatClampNeg)]) (rest := []) (fun _ => j_Lsc lr_2113 rfl) (c_X12_years (xs ((i + 1)).toNatClampNeg) (xs ((i + 2)).toNatClampNeg) (xs ((i + 3)).toNatClampNeg) (xs ((i + 4)).toNatClampNeg) τ) (by decide) em ?_
  refine x_c63d _ L xs i h0 h1 h2 h3 h4 h5 vm ?_
  rw [← j_swp]
  exact kk _ _ hR1

theorem x_case64 (L : Nat) (xs : Nat → Int32) (i : Int32) (h0 : ¬ (i < 0 ∨ L ≤ (i).toNatClampNeg)) (h1 : ¬ (i + 1 < 0 ∨ L ≤ (i + 1).toNatClampNeg)) (h2 : ¬ (i + 2 < 0 ∨ L ≤ (i + 2).toNatClampNeg)) (h3 : ¬ (i + 3 < 0 ∨ L ≤ (i + 3).toNatClampNeg)) (h4 : ¬ (i + 4 < 0 ∨ L ≤ (i + 4).toNatClampNeg)) (h5 : ¬ (i + 5 < 0 ∨ L ≤ (i + 5).toNatClampNeg)) {σ τ : j_G} (hR : j_Rel σ τ) {P : Option Value × xH × Nat × Nat → Prop} (kk : ∀ σ τ : j_G, j_Rel σ τ → x_R x_mt (some (L, xs)) 10 M_law (18, [(3, .int (i + Int32.ofInt (6))), (2, .ref 75), (1, .ref 0), (0, .ref x_scr)], [], j_hp true σ τ, 98, 10728) P) : x_R x_mt (some (L, xs)) 10 M_law (2120, [(3, .int i), (2, .ref 75), (1, .ref 0), (0, .ref x_scr)], [], j_hp true σ τ, 98, 10728) P := by
  obtain ⟨vx, ex, vm, em, hR1⟩ := s_count hR (xs ((i + 1)).toNatClampNeg)
  refine x_c64a _ L xs i h0 h1 h2 h3 h4 h5 ?_
  refine j_RcPi (s := true) (D := 2) (ai := 119) (vs := [.ref 0, .int (xs ((i + 1)).toNatClampNeg)]) (rest := []) (fun _ => j_Lsc lr_2126 rfl) (c_X11_count (xs ((i + 1)).toNatClampNeg) σ) (by decide) ex ?_
  refine x_c64b _ L xs i h0 h1 h2 h3 h4 h5 vx ?_
  rw [j_swp]
  refine j_RcPi (s := false) (D := 0) (ai := 350) (vs := [.ref 75, .int (xs ((i + 1)).toNatClampNeg)]) (rest := []) (fun _ => j_Lsc lr_2136 rfl) (c_X12_count (xs ((i + 1)).toNatClampNeg) τ) (by decide) em ?_
  refine x_c64d _ L xs i h0 h1 h2 h3 h4 h5 vm ?_
  rw [← j_swp]
  exact kk _ _ hR1

theorem x_case65 (L : Nat) (xs : Nat → Int32) (i : Int32) (h0 : ¬ (i < 0 ∨ L ≤ (i).toNatClampNeg)) (h1 : ¬ (i + 1 < 0 ∨ L ≤ (i + 1).toNatClampNeg)) (h2 : ¬ (i + 2 < 0 ∨ L ≤ (i + 2).toNatClampNeg)) (h3 : ¬ (i + 3 < 0 ∨ L ≤ (i + 3).toNatClampNeg)) (h4 : ¬ (i + 4 < 0 ∨ L ≤ (i + 4).toNatClampNeg)) (h5 : ¬ (i + 5 < 0 ∨ L ≤ (i + 5).toNatClampNeg)) {σ τ : j_G} (hR : j_Rel σ τ) {P : Option Value × xH × Nat × Nat → Prop} (kk : ∀ σ τ : j_G, j_Rel σ τ → x_R x_mt (some (L, xs)) 10 M_law (18, [(3, .int (i + Int32.ofInt (6))), (2, .ref 75), (1, .ref 0), (0, .ref x_scr)], [], j_hp true σ τ, 98, 10728) P) : x_R x_mt (some (L, xs)) 10 M_law (2143, [(3, .int i), (2, .ref 75), (1, .ref 0), (0, .ref x_scr)], [], j_hp true σ τ, 98, 10728) P := by
  obtain ⟨vx, σ1, ex, vm, τ1, em, hR1⟩ := s_image hR (xs ((i + 1)).toNatClampNeg)
  refine x_c65a _ L xs i h0 h1 h2 h3 h4 h5 ?_
  refine j_RcSi (s := true) (D := 2) (ai := 177) (vs := [.ref 0, .int (xs ((i + 1)).toNatClampNeg)]) (rest := []) (fun _ => j_Lsc lr_2149 rfl) (c_X11_image (xs ((i + 1)).toNatClampNeg) σ) (by decide) ex ?_
  refine x_c65b _ L xs i h0 h1 h2 h3 h4 h5 vx ?_
  rw [j_swp]
  refine j_RcSi (s := false) (D := 1) (ai := 197) (vs := [.ref 75, .int (xs ((i + 1)).toNatClampNeg)]) (rest := []) (fun _ => j_Lsc lr_2159 rfl) (c_X12_image (xs ((i + 1)).toNatClampNeg) τ) (by decide) em ?_
  refine x_c65d _ L xs i h0 h1 h2 h3 h4 h5 vm ?_
  rw [← j_swp]
  exact kk _ _ hR1

theorem x_case66 (L : Nat) (xs : Nat → Int32) (i : Int32) (h0 : ¬ (i < 0 ∨ L ≤ (i).toNatClampNeg)) (h1 : ¬ (i + 1 < 0 ∨ L ≤ (i + 1).toNatClampNeg)) (h2 : ¬ (i + 2 < 0 ∨ L ≤ (i + 2).toNatClampNeg)) (h3 : ¬ (i + 3 < 0 ∨ L ≤ (i + 3).toNatClampNeg)) (h4 : ¬ (i + 4 < 0 ∨ L ≤ (i + 4).toNatClampNeg)) (h5 : ¬ (i + 5 < 0 ∨ L ≤ (i + 5).toNatClampNeg)) {σ τ : j_G} (hR : j_Rel σ τ) {P : Option Value × xH × Nat × Nat → Prop} (kk : ∀ σ τ : j_G, j_Rel σ τ → x_R x_mt (some (L, xs)) 10 M_law (18, [(3, .int (i + Int32.ofInt (6))), (2, .ref 75), (1, .ref 0), (0, .ref x_scr)], [], j_hp true σ τ, 98, 10728) P) : x_R x_mt (some (L, xs)) 10 M_law (2166, [(3, .int i), (2, .ref 75), (1, .ref 0), (0, .ref x_scr)], [], j_hp true σ τ, 98, 10728) P := by
  obtain ⟨vx, σ1, ex, vm, τ1, em, hR1⟩ := s_back hR (xs ((i + 1)).toNatClampNeg)
  refine x_c66a _ L xs i h0 h1 h2 h3 h4 h5 ?_
  refine j_RcSi (s := true) (D := 2) (ai := 178) (vs := [.ref 0, .int (xs ((i + 1)).toNatClampNeg)]) (rest := []) (fun _ => j_Lsc lr_2172 rfl) (c_X11_back (xs ((i + 1)).toNatClampNeg) σ) (by decide) ex ?_
  refine x_c66b _ L xs i h0 h1 h2 h3 h4 h5 vx ?_
  rw [j_swp]
  refine j_RcSi (s := false) (D := 1) (ai := 198) (vs := [.ref 75, .int (xs ((i + 1)).toNatClampNeg)]) (rest := []) (fun _ => j_Lsc lr_2182 rfl) (c_X12_back (xs ((i + 1)).toNatClampNeg) τ) (by decide) em ?_
  refine x_c66d _ L xs i h0 h1 h2 h3 h4 h5 vm ?_
  rw [← j_swp]
  exact kk _ _ hR1

theorem x_case67 (L : Nat) (xs : Nat → Int32) (i : Int32) (h0 : ¬ (i < 0 ∨ L ≤ (i).toNatClampNeg)) (h1 : ¬ (i + 1 < 0 ∨ L ≤ (i + 1).toNatClampNeg)) (h2 : ¬ (i + 2 < 0 ∨ L ≤ (i + 2).toNatClampNeg)) (h3 : ¬ (i + 3 < 0 ∨ L ≤ (i + 3).toNatClampNeg)) (h4 : ¬ (i + 4 < 0 ∨ L ≤ (i + 4).toNatClampNeg)) (h5 : ¬ (i + 5 < 0 ∨ L ≤ (i + 5).toNatClampNeg)) {σ τ : j_G} (hR : j_Rel σ τ) {P : Option Value × xH × Nat × Nat → Prop} (kk : ∀ σ τ : j_G, j_Rel σ τ → x_R x_mt (some (L, xs)) 10 M_law (18, [(3, .int (i + Int32.ofInt (6))), (2, .ref 75), (1, .ref 0), (0, .ref x_scr)], [], j_hp true σ τ, 98, 10728) P) : x_R x_mt (some (L, xs)) 10 M_law (2189, [(3, .int i), (2, .ref 75), (1, .ref 0), (0, .ref x_scr)], [], j_hp true σ τ, 98, 10728) P := by
  obtain ⟨vx, σ1, ex, vm, τ1, em, hR1⟩ := s_row hR (xs ((i + 1)).toNatClampNeg) (xs ((i + 2)).toNatClampNeg) (xs ((i + 3)).toNatClampNeg)
  refine x_c67a _ L xs i h0 h1 h2 h3 h4 h5 ?_
  refine j_RcSi (s := true) (D := 1) (ai := 179) (vs := [.ref 0, .int (xs ((i + 1)).toNatClampNeg), .int (xs ((i + 2)).toNatClampNeg), .int (xs ((i + 3)).toNatClampNeg)]) (rest := []) (fun _ => j_Lsc lr_2205 rfl) (c_X11_row (xs ((i + 1)).toNatClampNeg) (xs ((i + 2)).toNatClampNeg) (xs ((i + 3)).toNatClampNeg) σ) (by decide) ex ?_
  refine x_c67b _ L xs i h0 h1 h2 h3 h4 h5 vx ?_
  rw [j_swp]
  refine j_RcSi (s := false) (D := 2) (ai := 353) (vs := [.ref 75, .int (xs ((i + 1)).toNatClampNeg), .int (xs ((i + 2)).toNatClampNeg), .int (xs ((i + 3)).toNatClampNeg)]) (rest := []) (fun _ => j_Lsc lr_2225 rfl) (c_X12_row (xs ((i + 1)).toNatClampNeg) (xs ((i + 2)).toNatClampNeg) (xs ((i + 3)).toNatClampNeg) τ) (by decide) em ?_
  refine x_c67d _ L xs i h0 h1 h2 h3 h4 h5 vm ?_
  rw [← j_swp]
  exact kk _ _ hR1

theorem x_case68 (L : Nat) (xs : Nat → Int32) (i : Int32) (h0 : ¬ (i < 0 ∨ L ≤ (i).toNatClampNeg)) (h1 : ¬ (i + 1 < 0 ∨ L ≤ (i + 1).toNatClampNeg)) (h2 : ¬ (i + 2 < 0 ∨ L ≤ (i + 2).toNatClampNeg)) (h3 : ¬ (i + 3 < 0 ∨ L ≤ (i + 3).toNatClampNeg)) (h4 : ¬ (i + 4 < 0 ∨ L ≤ (i + 4).toNatClampNeg)) (h5 : ¬ (i + 5 < 0 ∨ L ≤ (i + 5).toNatClampNeg)) {σ τ : j_G} (hR : j_Rel σ τ) {P : Option Value × xH × Nat × Nat → Prop} (kk : ∀ σ τ : j_G, j_Rel σ τ → x_R x_mt (some (L, xs)) 10 M_law (18, [(3, .int (i + Int32.ofInt (6))), (2, .ref 75), (1, .ref 0), (0, .ref x_scr)], [], j_hp true σ τ, 98, 10728) P) : x_R x_mt (some (L, xs)) 10 M_law (2232, [(3, .int i), (2, .ref 75), (1, .ref 0), (0, .ref x_scr)], [], j_hp true σ τ, 98, 10728) P := by
  obtain ⟨vx, σ1, ex, vm, τ1, em, hR1⟩ := s_write hR (xs ((i + 1)).toNatClampNeg) (xs ((i + 2)).toNatClampNeg) ((((xs ((i + 3)).toNatClampNeg)).toInt64 <<< ((32 : Int32).toInt64 &&& 63)) ||| (((xs ((i + 4)).toNatClampNeg)).toInt64 &&& 4294967295))
  refine x_c68a _ L xs i h0 h1 h2 h3 h4 h5 ?_
  refine j_RcSi (s := true) (D := 1) (ai := 180) (vs := [.ref 0, .int (xs ((i + 1)).toNatClampNeg), .int (xs ((i + 2)).toNatClampNeg), .long ((((xs ((i + 3)).toNatClampNeg)).toInt64 <<< ((32 : Int32).toInt64 &&& 63)) ||| (((xs ((i + 4)).toNatClampNeg)).toInt64 &&& 4294967295))]) (rest := []) (fun _ => j_Lsc lr_2263 rfl) (c_X11_write (xs ((i + 1)).toNatClampNeg) (xs ((i + 2)).toNatClampNeg) ((((xs ((i + 3)).toNatClampNeg)).toInt64 <<< ((32 : Int32).toInt64 &&& 63)) ||| (((xs ((i + 4)).toNatClampNeg)).toInt64 &&& 4294967295)) σ) (by decide) ex ?_
  refine x_c68b _ L xs i h0 h1 h2 h3 h4 h5 vx ?_
  rw [j_swp]
  refine j_RcSi (s := false) (D := 2) (ai := 354) (vs := [.ref 75, .int (xs ((i + 1)).toNatClampNeg), .int (xs ((i + 2)).toNatClampNeg), .long ((((xs ((i + 3)).toNatClampNeg)).toInt64 <<< ((32 : Int32).toInt64 &&& 63)) ||| (((xs ((i + 4)).toNatClampNeg)).toInt64 &&& 4294967295))]) (rest := []) (fun _ => j_Lsc lr_2298 rfl) (c_X12_write (xs ((i + 1)).toNatClampNeg) (xs ((i + 2)).toNatClampNeg) ((((xs ((i + 3)).toNatClampNeg)).toInt64 <<< ((32 : Int32).toInt64 &&& 63)) ||| (((xs ((i + 4)).toNatClampNeg)).toInt64 &&& 4294967295)) τ) (by decide) em ?_
  refine x_c68d _ L xs i h0 h1 h2 h3 h4 h5 vm ?_
  rw [← j_swp]
  exact kk _ _ hR1

theorem x_case69 (L : Nat) (xs : Nat → Int32) (i : Int32) (h0 : ¬ (i < 0 ∨ L ≤ (i).toNatClampNeg)) (h1 : ¬ (i + 1 < 0 ∨ L ≤ (i + 1).toNatClampNeg)) (h2 : ¬ (i + 2 < 0 ∨ L ≤ (i + 2).toNatClampNeg)) (h3 : ¬ (i + 3 < 0 ∨ L ≤ (i + 3).toNatClampNeg)) (h4 : ¬ (i + 4 < 0 ∨ L ≤ (i + 4).toNatClampNeg)) (h5 : ¬ (i + 5 < 0 ∨ L ≤ (i + 5).toNatClampNeg)) {σ τ : j_G} (hR : j_Rel σ τ) {P : Option Value × xH × Nat × Nat → Prop} (kk : ∀ σ τ : j_G, j_Rel σ τ → x_R x_mt (some (L, xs)) 10 M_law (18, [(3, .int (i + Int32.ofInt (6))), (2, .ref 75), (1, .ref 0), (0, .ref x_scr)], [], j_hp true σ τ, 98, 10728) P) : x_R x_mt (some (L, xs)) 10 M_law (2305, [(3, .int i), (2, .ref 75), (1, .ref 0), (0, .ref x_scr)], [], j_hp true σ τ, 98, 10728) P := by
  obtain ⟨vx, σ1, ex, vm, τ1, em, hR1⟩ := s_paste hR (xs ((i + 1)).toNatClampNeg) (xs ((i + 2)).toNatClampNeg) (xs ((i + 3)).toNatClampNeg) (xs ((i + 4)).toNatClampNeg) (xs ((i + 5)).toNatClampNeg)
  refine x_c69a _ L xs i h0 h1 h2 h3 h4 h5 ?_
  refine j_RcSi (s := true) (D := 1) (ai := 181) (vs := [.ref 0, .int (xs ((i + 1)).toNatClampNeg), .int (xs ((i + 2)).toNatClampNeg), .int (xs ((i + 3)).toNatClampNeg), .int (xs ((i + 4)).toNatClampNeg), .int (xs ((i + 5)).toNatClampNeg)]) (rest := []) (fun _ => j_Lsc lr_2331 rfl) (c_X11_paste (xs ((i + 1)).toNatClampNeg) (xs ((i + 2)).toNatClampNeg) (xs ((i + 3)).toNatClampNeg) (xs ((i + 4)).toNatClampNeg) (xs ((i + 5)).toNatClampNeg) σ) (by decide) ex ?_
  refine x_c69b _ L xs i h0 h1 h2 h3 h4 h5 vx ?_
  rw [j_swp]
  refine j_RcSi (s := false) (D := 2) (ai := 355) (vs := [.ref 75, .int (xs ((i + 1)).toNatClampNeg), .int (xs ((i + 2)).toNatClampNeg), .int (xs ((i + 3)).toNatClampNeg), .int (xs ((i + 4)).toNatClampNeg), .int (xs ((i + 5)).toNatClampNeg)]) (rest := []) (fun _ => j_Lsc lr_2361 rfl) (c_X12_paste (xs ((i + 1)).toNatClampNeg) (xs ((i + 2)).toNatClampNeg) (xs ((i + 3)).toNatClampNeg) (xs ((i + 4)).toNatClampNeg) (xs ((i + 5)).toNatClampNeg) τ) (by decide) em ?_
  refine x_c69d _ L xs i h0 h1 h2 h3 h4 h5 vm ?_
  rw [← j_swp]
  exact kk _ _ hR1
/-! ===== the law's loop ===== -/
set_option maxRecDepth 100000 in
theorem x_one (L : Nat) (xs : Nat → Int32) (i : Int32) (h0 : ¬ (i < 0 ∨ L ≤ (i).toNatClampNeg)) (h1 : ¬ (i + 1 < 0 ∨ L ≤ (i + 1).toNatClampNeg)) (h2 : ¬ (i + 2 < 0 ∨ L ≤ (i + 2).toNatClampNeg)) (h3 : ¬ (i + 3 < 0 ∨ L ≤ (i + 3).toNatClampNeg)) (h4 : ¬ (i + 4 < 0 ∨ L ≤ (i + 4).toNatClampNeg)) (h5 : ¬ (i + 5 < 0 ∨ L ≤ (i + 5).toNatClampNeg)) {σ τ : j_G} (hR : j_Rel σ τ) {P : Option Value × xH × Nat × Nat → Prop} (kk : ∀ σ τ : j_G, j_Rel σ τ → x_R x_mt (some (L, xs)) 10 M_law (18, [(3, .int (i + Int32.ofInt (6))), (2, .ref 75), (1, .ref 0), (0, .ref x_scr)], [], j_hp true σ τ, 98, 10728) P) : x_R x_mt (some (L, xs)) 10 M_law (27, [(3, .int i), (2, .ref 75), (1, .ref 0), (0, .ref x_scr)], [], j_hp true σ τ, 98, 10728) P := by
  refine x_sw _ L xs i h0 h1 h2 h3 h4 h5 ?_
  obtain ⟨j, hj, e⟩ := pk_andE (xs (i).toNatClampNeg) (m := 127) 7 (by decide)
  rw [e]
  match j, hj with
  | 0, _ => exact x_tb0 _ L xs i (x_case0 L xs i h0 h1 h2 h3 h4 h5 hR kk)
  | 1, _ => exact x_tb1 _ L xs i (x_case1 L xs i h0 h1 h2 h3 h4 h5 hR kk)
  | 2, _ => exact x_tb2 _ L xs i (x_case2 L xs i h0 h1 h2 h3 h4 h5 hR kk)
  | 3, _ => exact x_tb3 _ L xs i (x_case3 L xs i h0 h1 h2 h3 h4 h5 hR kk)
  | 4, _ => exact x_tb4 _ L xs i (x_case4 L xs i h0 h1 h2 h3 h4 h5 hR kk)
  | 5, _ => exact x_tb5 _ L xs i (x_case5 L xs i h0 h1 h2 h3 h4 h5 hR kk)
  | 6, _ => exact x_tb6 _ L xs i (x_case6 L xs i h0 h1 h2 h3 h4 h5 hR kk)
  | 7, _ => exact x_tb7 _ L xs i (x_case7 L xs i h0 h1 h2 h3 h4 h5 hR kk)
  | 8, _ => exact x_tb8 _ L xs i (x_case8 L xs i h0 h1 h2 h3 h4 h5 hR kk)
  | 9, _ => exact x_tb9 _ L xs i (x_case9 L xs i h0 h1 h2 h3 h4 h5 hR kk)
  | 10, _ => exact x_tb10 _ L xs i (x_case10 L xs i h0 h1 h2 h3 h4 h5 hR kk)
  | 11, _ => exact x_tb11 _ L xs i (x_case11 L xs i h0 h1 h2 h3 h4 h5 hR kk)
  | 12, _ => exact x_tb12 _ L xs i (x_case12 L xs i h0 h1 h2 h3 h4 h5 hR kk)
  | 13, _ => exact x_tb13 _ L xs i (x_case13 L xs i h0 h1 h2 h3 h4 h5 hR kk)
  | 14, _ => exact x_tb14 _ L xs i (x_case14 L xs i h0 h1 h2 h3 h4 h5 hR kk)
  | 15, _ => exact x_tb15 _ L xs i (x_case15 L xs i h0 h1 h2 h3 h4 h5 hR kk)
  | 16, _ => exact x_tb16 _ L xs i (x_case16 L xs i h0 h1 h2 h3 h4 h5 hR kk)
  | 17, _ => exact x_tb17 _ L xs i (x_case17 L xs i h0 h1 h2 h3 h4 h5 hR kk)
  | 18, _ => exact x_tb18 _ L xs i (x_case18 L xs i h0 h1 h2 h3 h4 h5 hR kk)
  | 19, _ => exact x_tb19 _ L xs i (x_case19 L xs i h0 h1 h2 h3 h4 h5 hR kk)
  | 20, _ => exact x_tb20 _ L xs i (x_case20 L xs i h0 h1 h2 h3 h4 h5 hR kk)
  | 21, _ => exact x_tb21 _ L xs i (x_case21 L xs i h0 h1 h2 h3 h4 h5 hR kk)
  | 22, _ => exact x_tb22 _ L xs i (x_case22 L xs i h0 h1 h2 h3 h4 h5 hR kk)
  | 23, _ => exact x_tb23 _ L xs i (x_case23 L xs i h0 h1 h2 h3 h4 h5 hR kk)
  | 24, _ => exact x_tb24 _ L xs i (x_case24 L xs i h0 h1 h2 h3 h4 h5 hR kk)
  | 25, _ => exact x_tb25 _ L xs i (x_case25 L xs i h0 h1 h2 h3 h4 h5 hR kk)
  | 26, _ => exact x_tb26 _ L xs i (x_case26 L xs i h0 h1 h2 h3 h4 h5 hR kk)
  | 27, _ => exact x_tb27 _ L xs i (x_case27 L xs i h0 h1 h2 h3 h4 h5 hR kk)
  | 28, _ => exact x_tb28 _ L xs i (x_case28 L xs i h0 h1 h2 h3 h4 h5 hR kk)
  | 29, _ => exact x_tb29 _ L xs i (x_case29 L xs i h0 h1 h2 h3 h4 h5 hR kk)
  | 30, _ => exact x_tb30 _ L xs i (x_case30 L xs i h0 h1 h2 h3 h4 h5 hR kk)
  | 31, _ => exact x_tb31 _ L xs i (x_case31 L xs i h0 h1 h2 h3 h4 h5 hR kk)
  | 32, _ => exact x_tb32 _ L xs i (x_case32 L xs i h0 h1 h2 h3 h4 h5 hR kk)
  | 33, _ => exact x_tb33 _ L xs i (x_case33 L xs i h0 h1 h2 h3 h4 h5 hR kk)
  | 34, _ => exact x_tb34 _ L xs i (x_case34 L xs i h0 h1 h2 h3 h4 h5 hR kk)
  | 35, _ => exact x_tb35 _ L xs i (x_case35 L xs i h0 h1 h2 h3 h4 h5 hR kk)
  | 36, _ => exact x_tb36 _ L xs i (x_case36 L xs i h0 h1 h2 h3 h4 h5 hR kk)
  | 37, _ => exact x_tb37 _ L xs i (x_case37 L xs i h0 h1 h2 h3 h4 h5 hR kk)
  | 38, _ => exact x_tb38 _ L xs i (x_case38 L xs i h0 h1 h2 h3 h4 h5 hR kk)
  | 39, _ => exact x_tb39 _ L xs i (x_case39 L xs i h0 h1 h2 h3 h4 h5 hR kk)
  | 40, _ => exact x_tb40 _ L xs i (x_case40 L xs i h0 h1 h2 h3 h4 h5 hR kk)
  | 41, _ => exact x_tb41 _ L xs i (x_case41 L xs i h0 h1 h2 h3 h4 h5 hR kk)
  | 42, _ => exact x_tb42 _ L xs i (x_case42 L xs i h0 h1 h2 h3 h4 h5 hR kk)
  | 43, _ => exact x_tb43 _ L xs i (x_case43 L xs i h0 h1 h2 h3 h4 h5 hR kk)
  | 44, _ => exact x_tb44 _ L xs i (x_case44 L xs i h0 h1 h2 h3 h4 h5 hR kk)
  | 45, _ => exact x_tb45 _ L xs i (x_case45 L xs i h0 h1 h2 h3 h4 h5 hR kk)
  | 46, _ => exact x_tb46 _ L xs i (x_case46 L xs i h0 h1 h2 h3 h4 h5 hR kk)
  | 47, _ => exact x_tb47 _ L xs i (x_case47 L xs i h0 h1 h2 h3 h4 h5 hR kk)
  | 48, _ => exact x_tb48 _ L xs i (x_case48 L xs i h0 h1 h2 h3 h4 h5 hR kk)
  | 49, _ => exact x_tb49 _ L xs i (x_case49 L xs i h0 h1 h2 h3 h4 h5 hR kk)
  | 50, _ => exact x_tb50 _ L xs i (x_case50 L xs i h0 h1 h2 h3 h4 h5 hR kk)
  | 51, _ => exact x_tb51 _ L xs i (x_case51 L xs i h0 h1 h2 h3 h4 h5 hR kk)
  | 52, _ => exact x_tb52 _ L xs i (x_case52 L xs i h0 h1 h2 h3 h4 h5 hR kk)
  | 53, _ => exact x_tb53 _ L xs i (x_case53 L xs i h0 h1 h2 h3 h4 h5 hR kk)
  | 54, _ => exact x_tb54 _ L xs i (x_case54 L xs i h0 h1 h2 h3 h4 h5 hR kk)
  | 55, _ => exact x_tb55 _ L xs i (x_case55 L xs i h0 h1 h2 h3 h4 h5 hR kk)
  | 56, _ => exact x_tb56 _ L xs i (x_case56 L xs i h0 h1 h2 h3 h4 h5 hR kk)
  | 57, _ => exact x_tb57 _ L xs i (x_case57 L xs i h0 h1 h2 h3 h4 h5 hR kk)
  | 58, _ => exact x_tb58 _ L xs i (x_case58 L xs i h0 h1 h2 h3 h4 h5 hR kk)
  | 59, _ => exact x_tb59 _ L xs i (x_case59 L xs i h0 h1 h2 h3 h4 h5 hR kk)
  | 60, _ => exact x_tb60 _ L xs i (x_case60 L xs i h0 h1 h2 h3 h4 h5 hR kk)
  | 61, _ => exact x_tb61 _ L xs i (x_case61 L xs i h0 h1 h2 h3 h4 h5 hR kk)
  | 62, _ => exact x_tb62 _ L xs i (x_case62 L xs i h0 h1 h2 h3 h4 h5 hR kk)
  | 63, _ => exact x_tb63 _ L xs i (x_case63 L xs i h0 h1 h2 h3 h4 h5 hR kk)
  | 64, _ => exact x_tb64 _ L xs i (x_case64 L xs i h0 h1 h2 h3 h4 h5 hR kk)
  | 65, _ => exact x_tb65 _ L xs i (x_case65 L xs i h0 h1 h2 h3 h4 h5 hR kk)
  | 66, _ => exact x_tb66 _ L xs i (x_case66 L xs i h0 h1 h2 h3 h4 h5 hR kk)
  | 67, _ => exact x_tb67 _ L xs i (x_case67 L xs i h0 h1 h2 h3 h4 h5 hR kk)
  | 68, _ => exact x_tb68 _ L xs i (x_case68 L xs i h0 h1 h2 h3 h4 h5 hR kk)
  | 69, _ => exact x_tb69 _ L xs i (x_case69 L xs i h0 h1 h2 h3 h4 h5 hR kk)
  | 70, _ => exact x_tb70 _ L xs i (x_cdef _ L xs i h0 h1 h2 h3 h4 h5 (kk _ _ hR))
  | 71, _ => exact x_tb71 _ L xs i (x_cdef _ L xs i h0 h1 h2 h3 h4 h5 (kk _ _ hR))
  | 72, _ => exact x_tb72 _ L xs i (x_cdef _ L xs i h0 h1 h2 h3 h4 h5 (kk _ _ hR))
  | 73, _ => exact x_tb73 _ L xs i (x_cdef _ L xs i h0 h1 h2 h3 h4 h5 (kk _ _ hR))
  | 74, _ => exact x_tb74 _ L xs i (x_cdef _ L xs i h0 h1 h2 h3 h4 h5 (kk _ _ hR))
  | 75, _ => exact x_tb75 _ L xs i (x_cdef _ L xs i h0 h1 h2 h3 h4 h5 (kk _ _ hR))
  | 76, _ => exact x_tb76 _ L xs i (x_cdef _ L xs i h0 h1 h2 h3 h4 h5 (kk _ _ hR))
  | 77, _ => exact x_tb77 _ L xs i (x_cdef _ L xs i h0 h1 h2 h3 h4 h5 (kk _ _ hR))
  | 78, _ => exact x_tb78 _ L xs i (x_cdef _ L xs i h0 h1 h2 h3 h4 h5 (kk _ _ hR))
  | 79, _ => exact x_tb79 _ L xs i (x_cdef _ L xs i h0 h1 h2 h3 h4 h5 (kk _ _ hR))
  | 80, _ => exact x_tb80 _ L xs i (x_cdef _ L xs i h0 h1 h2 h3 h4 h5 (kk _ _ hR))
  | 81, _ => exact x_tb81 _ L xs i (x_cdef _ L xs i h0 h1 h2 h3 h4 h5 (kk _ _ hR))
  | 82, _ => exact x_tb82 _ L xs i (x_cdef _ L xs i h0 h1 h2 h3 h4 h5 (kk _ _ hR))
  | 83, _ => exact x_tb83 _ L xs i (x_cdef _ L xs i h0 h1 h2 h3 h4 h5 (kk _ _ hR))
  | 84, _ => exact x_tb84 _ L xs i (x_cdef _ L xs i h0 h1 h2 h3 h4 h5 (kk _ _ hR))
  | 85, _ => exact x_tb85 _ L xs i (x_cdef _ L xs i h0 h1 h2 h3 h4 h5 (kk _ _ hR))
  | 86, _ => exact x_tb86 _ L xs i (x_cdef _ L xs i h0 h1 h2 h3 h4 h5 (kk _ _ hR))
  | 87, _ => exact x_tb87 _ L xs i (x_cdef _ L xs i h0 h1 h2 h3 h4 h5 (kk _ _ hR))
  | 88, _ => exact x_tb88 _ L xs i (x_cdef _ L xs i h0 h1 h2 h3 h4 h5 (kk _ _ hR))
  | 89, _ => exact x_tb89 _ L xs i (x_cdef _ L xs i h0 h1 h2 h3 h4 h5 (kk _ _ hR))
  | 90, _ => exact x_tb90 _ L xs i (x_cdef _ L xs i h0 h1 h2 h3 h4 h5 (kk _ _ hR))
  | 91, _ => exact x_tb91 _ L xs i (x_cdef _ L xs i h0 h1 h2 h3 h4 h5 (kk _ _ hR))
  | 92, _ => exact x_tb92 _ L xs i (x_cdef _ L xs i h0 h1 h2 h3 h4 h5 (kk _ _ hR))
  | 93, _ => exact x_tb93 _ L xs i (x_cdef _ L xs i h0 h1 h2 h3 h4 h5 (kk _ _ hR))
  | 94, _ => exact x_tb94 _ L xs i (x_cdef _ L xs i h0 h1 h2 h3 h4 h5 (kk _ _ hR))
  | 95, _ => exact x_tb95 _ L xs i (x_cdef _ L xs i h0 h1 h2 h3 h4 h5 (kk _ _ hR))
  | 96, _ => exact x_tb96 _ L xs i (x_cdef _ L xs i h0 h1 h2 h3 h4 h5 (kk _ _ hR))
  | 97, _ => exact x_tb97 _ L xs i (x_cdef _ L xs i h0 h1 h2 h3 h4 h5 (kk _ _ hR))
  | 98, _ => exact x_tb98 _ L xs i (x_cdef _ L xs i h0 h1 h2 h3 h4 h5 (kk _ _ hR))
  | 99, _ => exact x_tb99 _ L xs i (x_cdef _ L xs i h0 h1 h2 h3 h4 h5 (kk _ _ hR))
  | 100, _ => exact x_tb100 _ L xs i (x_cdef _ L xs i h0 h1 h2 h3 h4 h5 (kk _ _ hR))
  | 101, _ => exact x_tb101 _ L xs i (x_cdef _ L xs i h0 h1 h2 h3 h4 h5 (kk _ _ hR))
  | 102, _ => exact x_tb102 _ L xs i (x_cdef _ L xs i h0 h1 h2 h3 h4 h5 (kk _ _ hR))
  | 103, _ => exact x_tb103 _ L xs i (x_cdef _ L xs i h0 h1 h2 h3 h4 h5 (kk _ _ hR))
  | 104, _ => exact x_tb104 _ L xs i (x_cdef _ L xs i h0 h1 h2 h3 h4 h5 (kk _ _ hR))
  | 105, _ => exact x_tb105 _ L xs i (x_cdef _ L xs i h0 h1 h2 h3 h4 h5 (kk _ _ hR))
  | 106, _ => exact x_tb106 _ L xs i (x_cdef _ L xs i h0 h1 h2 h3 h4 h5 (kk _ _ hR))
  | 107, _ => exact x_tb107 _ L xs i (x_cdef _ L xs i h0 h1 h2 h3 h4 h5 (kk _ _ hR))
  | 108, _ => exact x_tb108 _ L xs i (x_cdef _ L xs i h0 h1 h2 h3 h4 h5 (kk _ _ hR))
  | 109, _ => exact x_tb109 _ L xs i (x_cdef _ L xs i h0 h1 h2 h3 h4 h5 (kk _ _ hR))
  | 110, _ => exact x_tb110 _ L xs i (x_cdef _ L xs i h0 h1 h2 h3 h4 h5 (kk _ _ hR))
  | 111, _ => exact x_tb111 _ L xs i (x_cdef _ L xs i h0 h1 h2 h3 h4 h5 (kk _ _ hR))
  | 112, _ => exact x_tb112 _ L xs i (x_cdef _ L xs i h0 h1 h2 h3 h4 h5 (kk _ _ hR))
  | 113, _ => exact x_tb113 _ L xs i (x_cdef _ L xs i h0 h1 h2 h3 h4 h5 (kk _ _ hR))
  | 114, _ => exact x_tb114 _ L xs i (x_cdef _ L xs i h0 h1 h2 h3 h4 h5 (kk _ _ hR))
  | 115, _ => exact x_tb115 _ L xs i (x_cdef _ L xs i h0 h1 h2 h3 h4 h5 (kk _ _ hR))
  | 116, _ => exact x_tb116 _ L xs i (x_cdef _ L xs i h0 h1 h2 h3 h4 h5 (kk _ _ hR))
  | 117, _ => exact x_tb117 _ L xs i (x_cdef _ L xs i h0 h1 h2 h3 h4 h5 (kk _ _ hR))
  | 118, _ => exact x_tb118 _ L xs i (x_cdef _ L xs i h0 h1 h2 h3 h4 h5 (kk _ _ hR))
  | 119, _ => exact x_tb119 _ L xs i (x_cdef _ L xs i h0 h1 h2 h3 h4 h5 (kk _ _ hR))
  | 120, _ => exact x_tb120 _ L xs i (x_cdef _ L xs i h0 h1 h2 h3 h4 h5 (kk _ _ hR))
  | 121, _ => exact x_tb121 _ L xs i (x_cdef _ L xs i h0 h1 h2 h3 h4 h5 (kk _ _ hR))
  | 122, _ => exact x_tb122 _ L xs i (x_cdef _ L xs i h0 h1 h2 h3 h4 h5 (kk _ _ hR))
  | 123, _ => exact x_tb123 _ L xs i (x_cdef _ L xs i h0 h1 h2 h3 h4 h5 (kk _ _ hR))
  | 124, _ => exact x_tb124 _ L xs i (x_cdef _ L xs i h0 h1 h2 h3 h4 h5 (kk _ _ hR))
  | 125, _ => exact x_tb125 _ L xs i (x_cdef _ L xs i h0 h1 h2 h3 h4 h5 (kk _ _ hR))
  | 126, _ => exact x_tb126 _ L xs i (x_cdef _ L xs i h0 h1 h2 h3 h4 h5 (kk _ _ hR))
  | 127, _ => exact x_tb127 _ L xs i (x_cdef _ L xs i h0 h1 h2 h3 h4 h5 (kk _ _ hR))
  | j + 128, h => exact absurd h (by omega)
theorem x_loop (L : Nat) (hL : L ≤ 3072) (xs : Nat → Int32) {P : Option Value × xH × Nat × Nat → Prop} (kk : ∀ (h : xH) (l : xL), x_R x_mt (some (L, xs)) 10 M_law (2374, l, [], h, 98, 10728) P) : ∀ (m n : Nat) (σ τ : j_G), j_Rel σ τ → L < 6 * n + 6 * m → 6 * n ≤ 4000 → x_R x_mt (some (L, xs)) 10 M_law (18, [(3, .int (nI (6 * n))), (2, .ref 75), (1, .ref 0), (0, .ref x_scr)], [], j_hp true σ τ, 98, 10728) P := by
  intro m
  induction m with
  | zero =>
    intro n σ τ hR hm hn
    refine x_hd _ L xs _ (fun _ => kk _ _) (fun h => absurd ?_ h)
    rw [Int32.lt_iff_toInt_lt, show Int32.ofNat L - 6 = nI L - nI 6 from rfl, pk_sub_toInt (by omega) (by omega), nI_toInt (by omega)]
    omega
  | succ m ih =>
    intro n σ τ hR hm hn
    refine x_hd _ L xs _ (fun _ => kk _ _) (fun h => ?_)
    rw [Int32.lt_iff_toInt_lt, show Int32.ofNat L - 6 = nI L - nI 6 from rfl, pk_sub_toInt (by omega) (by omega), nI_toInt (by omega)] at h
    have hq : ∀ q : Nat, q < 6 → ¬ (nI (6 * n) + nI q < 0 ∨ L ≤ (nI (6 * n) + nI q).toNatClampNeg) := fun q hq => by
      rw [nI_add]
      exact nI_in (by omega) (by omega)
    refine x_one L xs _ (nI_in (by omega) (by omega)) (hq 1 (by omega)) (hq 2 (by omega)) (hq 3 (by omega)) (hq 4 (by omega)) (hq 5 (by omega)) hR (fun σ τ hR => ?_)
    have := ih (n + 1) σ τ hR (by omega) (by omega)
    rw [show nI (6 * n) + Int32.ofInt (6) = nI (6 * (n + 1)) from nI_add (6 * n) 6]
    exact this
/-! ===== the law ===== -/
theorem x_law_ok : x_Law 3072 := by
  intro L xs hL
  have key : x_R x_mt (some (L, xs)) 10 M_law (0, [(0, .ref x_scr)], [], [], 0, 0) (fun r => r.1 = some (.int 1) ∧ r.2.2.1 ≤ room_1.cells ∧ r.2.2.2 ≤ room_1.slots) := by
    refine x_pre ?_
    rw [j_h0]
    exact x_loop L hL xs (fun h l => x_R.steps 1 (c' := (2375, l, [.int 1], h, 98, 10728)) rfl (x_R.ret rfl ⟨rfl, show (98 : Nat) ≤ room_1.cells from by decide, show (10728 : Nat) ≤ room_1.slots from by decide⟩)) (L + 1) 0 _ _ j_Rel0 (by omega) (by omega)
  obtain ⟨n, ⟨v, h', k', z'⟩, h1, h2, h3, h4⟩ := key
  dsimp only at h2 h3 h4
  subst h2
  exact ⟨n, h', k', z', h1, h3, h4⟩
