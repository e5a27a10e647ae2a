/-! ===== two: both answer ===== -/
def y_mb2 (hs : Int32) : Nat → Nat := fun h => (hs >>> (nI h &&& nI 31)).toBitVec.toNat % 2
theorem y_mkA (hs : Int32) : y_mk hs (y_mb2 hs) := by
  intro h _
  have e : (hs >>> (nI h &&& nI 31)) &&& nI 1 = nI ((hs >>> (nI h &&& nI 31)).toBitVec.toNat % 2) := by
    rw [show nI 1 = (1 : Int32) from rfl, pk_and _ 1 (by decide)]
  exact ⟨e, by show _ % 2 ≤ 1; omega⟩
section C
variable {σ : j_G} {b g : Nat → Nat} {s : Nat}
theorem tt_gh (hc : y_cg σ b s g) (hv : y_vg b s g) (hW : y_W b) : ∃ c, f_X4_goodHoles σ = some (nI c) ∧ c < 4096 := by
  have hs := hv.1
  have key : ∀ m i n c, i + m = s → m < n → c < 4096 → ∃ c', p_X4_goodHoles_4 σ n (nI c) (nI i) = some (nI c') ∧ c' < 4096 := by
    intro m
    induction m with
    | zero =>
      intro i n c h hn hc4
      obtain ⟨n, rfl⟩ := y_pos hn
      refine ⟨c, ?_, hc4⟩
      unfold p_X4_goodHoles_4
      rw [hc.1, if_neg (by rw [y_lt (by omega) (by omega)]; omega)]
    | succ m ih =>
      intro i n c h hn hc4
      obtain ⟨n, rfl⟩ := y_pos hn
      unfold p_X4_goodHoles_4
      simp only [j_lt]
      rw [hc.1, if_pos ((y_lt (by omega) (by omega)).mpr (by omega)), y_ix (by omega) (by omega), show nI i + (1 : Int32) = nI (i + 1) by simp (disch := omega) only [y_lit, nI_add]]
      by_cases r : σ.1 25 (nI i).toNatClampNeg = 0
      · rw [if_pos r, yc_holesOf hc hv hW (by omega), j_b1_s, y_or, j_b1_s]
        exact ih (i + 1) n _ (by omega) (by omega) (Nat.or_lt_two_pow (n := 12) hc4 (y_hb_lt hW hv (by omega)))
      · rw [if_neg r, j_b1_s]
        exact ih (i + 1) n c (by omega) (by omega) hc4
  obtain ⟨c, e1, e2⟩ := key s 0 j_F 0 (by omega) (y_F (by omega)) (by omega)
  refine ⟨c, ?_, e2⟩
  unfold f_X4_goodHoles
  rw [show (0 : Int32) = nI 0 from rfl, e1, j_b1_s]
theorem tt_gi (hc : y_cg σ b s g) (hv : y_vg b s g) (hW : y_W b) (x : Int32) : ∃ v, f_X4_goodIn x σ = some v := by
  have hs := hv.1
  have key : ∀ m i n v, i + m = s → m < n → ∃ w, p_X4_goodIn_4 x σ n v (nI i) = some w := by
    intro m
    induction m with
    | zero =>
      intro i n v h hn
      obtain ⟨n, rfl⟩ := y_pos hn
      refine ⟨v, ?_⟩
      unfold p_X4_goodIn_4
      rw [hc.1, if_neg (by rw [y_lt (by omega) (by omega)]; omega)]
    | succ m ih =>
      intro i n v h hn
      obtain ⟨n, rfl⟩ := y_pos hn
      unfold p_X4_goodIn_4
      simp only [j_lt]
      rw [hc.1, if_pos ((y_lt (by omega) (by omega)).mpr (by omega)), y_ix (by omega) (by omega), show nI i + (1 : Int32) = nI (i + 1) by simp (disch := omega) only [y_lit, nI_add]]
      by_cases r : σ.1 25 (nI i).toNatClampNeg = 0
      · rw [if_pos r, yc_holesOf hc hv hW (by omega), j_b1_s, j_b1_s]
        exact ih (i + 1) n _ (by omega) (by omega)
      · rw [if_neg r, j_b1_s]
        exact ih (i + 1) n v (by omega) (by omega)
  obtain ⟨v, e1⟩ := key s 0 j_F (nI 0) (by omega) (y_F (by omega))
  refine ⟨v, ?_⟩
  unfold f_X4_goodIn
  rw [show (0 : Int32) = nI 0 from rfl, e1, j_b1_s]
theorem tt_77 (hW : y_W b) (h9 : 0 < b 9) (hv : y_vg b s g) {q q2 : Nat → Nat} {x : Int32} {c : Nat} {a : Int32} (hq : y_vq b q) (hq2 : y_vq b q2) (hc4 : c < 4096) : ∀ m k n u v (σ : j_G), k + m = c + 1 → m < n → y_N σ b → y_cg σ b s g → y_cp σ 28 q → y_cp σ 29 q2 → ∃ u' v' σ', p_X11_two_77 x (nI c) a n u v (nI k) σ = some (u', v', σ') ∧ y_fr 30 34 σ σ' := by
  intro m
  induction m with
  | zero =>
    intro k n u v σ h hn hN hg hp hp2
    obtain ⟨n, rfl⟩ := y_pos hn
    refine ⟨u, v, σ, ?_, y_fr.refl⟩
    unfold p_X11_two_77
    rw [if_neg (fun z => by have := z.1; rw [y_lt (by omega) (by omega)] at this; omega)]
  | succ m ih =>
    intro k n u v σ h hn hN hg hp hp2
    obtain ⟨n, rfl⟩ := y_pos hn
    unfold p_X11_two_77
    simp only [j_lt]
    by_cases d : ¬ nI c < nI k ∧ u < a
    · rw [if_pos d, show nI k + (1 : Int32) = nI (k + 1) by simp (disch := omega) only [y_lit, nI_add]]
      by_cases e : ¬ (nI k &&& (nI c ^^^ (-1 : Int32))) = 0
      · rw [if_pos e, j_b3_s]
        exact ih (k + 1) n u v σ (by omega) (by omega) hN hg hp hp2
      · obtain ⟨σ4, a1, a2, a3⟩ := yc_good hN hW h9 hg hv hp (by omega) hq (y_mkA (nI k))
        obtain ⟨w, b1⟩ := tt_gi (hg.fr a3 (by omega)) hv hW (nI c &&& (nI k ^^^ (-1 : Int32)))
        rw [if_neg e, a1, j_b2_s, b1, j_b1_s]
        by_cases r : u < nI (y_run b g q (y_mb2 (nI k)) 0 s 0) + w
        · obtain ⟨σ7, c1, c2, c3⟩ := yc_good (hN.fr a3 (by omega)) hW h9 (hg.fr a3 (by omega)) hv (hp2.fr a3 (by omega)) (by omega) hq2 (y_mkA (nI c &&& (nI k ^^^ (-1 : Int32))))
          have f7 := a3.trans c3
          have go : ∀ u v, ∃ u' v' σ', p_X11_two_77 x (nI c) a n u v (nI (k + 1)) σ7 = some (u', v', σ') ∧ y_fr 30 34 σ σ' := by
            intro u v
            obtain ⟨u', v', σ', g1, g2⟩ := ih (k + 1) n u v σ7 (by omega) (by omega) (hN.fr f7 (by omega)) (hg.fr f7 (by omega)) (hp.fr f7 (by omega)) (hp2.fr f7 (by omega))
            exact ⟨u', v', σ', g1, f7.trans g2⟩
          rw [if_pos r, c1, j_b2_s]
          by_cases t : u < nI (y_run b g q (y_mb2 (nI k)) 0 s 0) + nI (y_run b g q2 (y_mb2 (nI c &&& (nI k ^^^ (-1 : Int32)))) 0 s 0)
          · rw [if_pos t, j_b3_s]; exact go _ _
          · rw [if_neg t, j_b3_s]; exact go _ _
        · obtain ⟨u', v', σ', g1, g2⟩ := ih (k + 1) n u v σ4 (by omega) (by omega) (hN.fr a3 (by omega)) (hg.fr a3 (by omega)) (hp.fr a3 (by omega)) (hp2.fr a3 (by omega))
          rw [if_neg r, j_b3_s]
          exact ⟨u', v', σ', g1, a3.trans g2⟩
    · rw [if_neg d]; exact ⟨u, v, σ, rfl, y_fr.refl⟩
theorem tt_two (hN : y_N σ b) (hW : y_W b) (x y z : Int32) : ∃ v σ', f_X11_two x y z σ = some (v, σ') ∧ y_fr 22 41 σ σ' := by
  unfold f_X11_two
  rw [yc_isPlayer hN hW]
  by_cases c : ¬ z < 0 ∧ ¬ (1 : Int32) < z ∧ ¬ x = y ∧ ¬ (if y_rg y (b 6) then nI 1 else nI 0) = (0 : Int32)
  · rw [if_pos c]
    have hy : y_rg y (b 6) := by
      by_cases h : y_rg y (b 6)
      · exact h
      · exact absurd (if_neg h) c.2.2.2
    by_cases hx : y_rg x (b 6)
    · obtain ⟨p, hp, rfl⟩ := y_of _ _ hx.1 hx.2
      obtain ⟨p2, hp2, rfl⟩ := y_of _ _ hy.1 hy.2
      have h9 := hW.on0 (Or.inr (Or.inr (Or.inr (Or.inl (by omega : 0 < b 6)))))
      obtain ⟨σ1, a1, ⟨a2, a3, a4⟩, a5⟩ := yc_ready hN hW hp
      obtain ⟨σ3, c1, c2, c3⟩ := yc_take a2 hW hp2 (a := 29) (by omega)
      have hg3 : y_cg σ3 b (y_gs b) (y_dg b (b 8)) := a3.fr c3 (by omega)
      have hv := y_dg_vg hW (b 8)
      obtain ⟨d, d1, d2⟩ := tt_gh hg3 hv hW
      obtain ⟨w, e1⟩ := tt_gi hg3 hv hW (nI d)
      obtain ⟨u', v', σ8, g1, g2⟩ := tt_77 (x := z) (a := w) hW h9 hv (y_pqv hW hp) (y_pqv hW hp2) d2 (d + 1) 0 j_F (nP 0) (nI 0) σ3 (by omega) (y_F (by omega)) (a2.fr c3 (by omega)) hg3 (a4.fr c3 (by omega)) c2
      have f8 := a5.trans ((c3.wide (by omega) (by omega) : y_fr 22 41 σ1 σ3).trans (g2.wide (by omega) (by omega)))
      rw [a1, j_b2_s, if_neg (show ¬ nI 1 = (0 : Int32) by decide), c1, j_b1_s, d1, j_b1_s, e1, j_b1_s, y_m1, show (0 : Int32) = nI 0 from rfl, g1, j_b3_s]
      by_cases r : z = nI 0
      · rw [if_pos r]; exact ⟨_, _, rfl, f8⟩
      · rw [if_neg r]; exact ⟨_, _, rfl, f8⟩
    · rw [yc_unready hN hW hx, j_b2_s, if_pos (show nI 0 = (0 : Int32) from rfl)]; exact ⟨_, _, rfl, y_fr.refl⟩
  · rw [if_neg c]; exact ⟨_, _, rfl, y_fr.refl⟩
end C
section R
variable {τ : j_G} {b : Nat → Nat}
theorem tu_on (hL : y_ldy τ b) (hW : y_W b) {p : Nat} (hp : p < b 6) (x : Int32) : ∃ v τ', f_X12_hitsOn (nI p) x τ = some (v, τ') ∧ y_ldy τ' b ∧ y_fm 18 42 80 93 τ τ' := by
  obtain ⟨τ1, a1, a2, a3, a4, a5⟩ := ym_told hL.1 hW hp
  have f2 : y_fm 23 23 80 79 τ1 (j_si τ1 75 23 x) := y_fm.refl.so (by omega) (by omega)
  have mp2 : y_mp (j_si τ1 75 23 x) b p (y_pq b p) := by
    obtain ⟨q1, q2, q3, q4, q5, q6, q7⟩ := a2
    exact ⟨by rw [f2.1 19 (by omega)]; exact q1, by rw [f2.1 20 (by omega)]; exact q2, by rw [f2.1 21 (by omega)]; exact q3, by rw [f2.1 22 (by omega)]; exact q4, q5, q6, q7⟩
  have L1 : y_ldy τ1 b := hL.fr a5 (by omega) (by omega)
  have L2 : y_ldy (j_si τ1 75 23 x) b := L1.fr f2 (by omega) (by omega)
  obtain ⟨τ', e1, e2, e3, e4, e5⟩ := ym_runq (k := y_mb2 x) (red := 0) L2 hW hp mp2 (y_pqv hW hp) (by rw [j_r_eq]; exact y_mkA x) (by omega) (by rw [f2.1 24 (by omega)]; exact a4)
  unfold f_X12_hitsOn
  simp only [j_lt]
  rw [a1, j_b1_s, e1, j_b1_s]
  refine ⟨_, _, rfl, e3, ?_⟩
  exact y_fm.trans (a5.wide (by omega) (by omega) (by omega) (by omega)) (y_fm.trans (y_fm.refl.so (by omega) (by omega) : y_fm 18 42 80 93 τ1 (j_si τ1 75 23 x)) (e5.wide (by omega) (by omega) (by omega) (by omega)))
theorem tu_57 (hW : y_W b) {p p2 c : Nat} {z : Int32} (hp : p < b 6) (hp2 : p2 < b 6) (hc : c < 4096) : ∀ m k n u v (τ : j_G), k + m = c + 1 → m < n → y_ldy τ b → ∃ u' v' τ', p_X12_two_57 (nI p) (nI p2) z (nI c) n u v (nI k) τ = some (u', v', τ') ∧ y_fm 18 42 80 93 τ τ' := by
  intro m
  induction m with
  | zero =>
    intro k n u v τ h hn hL
    obtain ⟨n, rfl⟩ := y_pos hn
    refine ⟨u, v, τ, ?_, y_fm.refl⟩
    unfold p_X12_two_57
    rw [if_neg (fun z => z (by rw [y_lt (by omega) (by omega)]; omega))]
  | succ m ih =>
    intro k n u v τ h hn hL
    obtain ⟨n, rfl⟩ := y_pos hn
    obtain ⟨v2, τ1, a1, a2, a3⟩ := tu_on hL hW hp (nI k)
    obtain ⟨v4, τ3, b1, b2, b3⟩ := tu_on a2 hW hp2 (nI c &&& (nI k ^^^ (-1 : Int32)))
    unfold p_X12_two_57
    simp only [j_lt]
    rw [if_pos (show ¬ nI c < nI k by rw [y_lt (by omega) (by omega)]; omega), a1, j_b2_s, b1, j_b2_s, show nI k + (1 : Int32) = nI (k + 1) by simp (disch := omega) only [y_lit, nI_add]]
    obtain ⟨u', v', τ', g1, g2⟩ := ih (k + 1) n (if ¬ v < v2 + v4 then (u, v) else (nI k, v2 + v4)).1 (if ¬ v < v2 + v4 then (u, v) else (nI k, v2 + v4)).2 τ3 (by omega) (by omega) b2
    exact ⟨u', v', τ', g1, y_fm.trans (y_fm.trans a3 b3) g2⟩
theorem tu_two (hM : y_M τ b) (hW : y_W b) (x y z : Int32) : ∃ v τ', f_X12_two x y z τ = some (v, τ') ∧ y_fm 18 42 80 93 τ τ' := by
  have ho := hW.ho
  unfold f_X12_two
  simp only [j_lt]
  rw [ym_isPlayer hM hW, j_b1_s]
  by_cases hx : y_rg x (b 6)
  · rw [if_pos hx, if_pos (show ¬ nI 1 = (0 : Int32) by decide), ym_isPlayer hM hW, j_b1_s]
    by_cases c : (if y_rg y (b 6) then nI 1 else nI 0) = (0 : Int32) ∨ x = y ∨ f_X12_in z.toInt64 (0 : Int64) (1 : Int64) = 0
    · rw [if_pos c]; exact ⟨_, _, rfl, y_fm.refl⟩
    · have hy : y_rg y (b 6) := by
        by_cases h : y_rg y (b 6)
        · exact h
        · exact absurd (Or.inl (if_neg h)) c
      obtain ⟨p, hp, rfl⟩ := y_of _ _ hx.1 hx.2
      obtain ⟨p2, hp2, rfl⟩ := y_of _ _ hy.1 hy.2
      obtain ⟨τ1, a1, a2, a3⟩ := ym_laid hM hW
      have pw : 2 ^ y_ho b ≤ 2 ^ 12 := Nat.pow_le_pow_right (by omega) ho
      have pw1 : 1 ≤ 2 ^ y_ho b := Nat.one_le_two_pow
      have es : ((1 : Int32) <<< (nI (y_ho b) &&& 31)) - (1 : Int32) = nI (2 ^ y_ho b - 1) := by
        rw [show (1 : Int32) = nI 1 from rfl, show (31 : Int32) = nI 31 from rfl, y_shl (by omega), pk_sub pw1]
      obtain ⟨u', v', τ8, g1, g2⟩ := tu_57 (z := z) hW hp hp2 (c := 2 ^ y_ho b - 1) (by omega) (2 ^ y_ho b) 0 j_F (nI 0) (nP 0) τ1 (by omega) (y_F (by omega)) a2
      rw [if_neg c, a1, j_b1_s, ym_holes a2.1, j_b1_s, es, y_m1, show (0 : Int32) = nI 0 from rfl, g1, j_b3_s]
      by_cases r : z = nI 0
      · rw [if_pos r]; exact ⟨_, _, rfl, y_fm.trans a3 g2⟩
      · rw [if_neg r]; exact ⟨_, _, rfl, y_fm.trans a3 g2⟩
  · rw [if_neg hx, if_neg (show ¬ ¬ nI 0 = (0 : Int32) from fun z => z rfl)]; exact ⟨_, _, rfl, y_fm.refl⟩
end R
section Z
variable {σ τ : j_G}
theorem t_two (hR : j_Rel σ τ) (a1 a2 a3 : Int32) : ∃ v σ1, f_X11_two a1 a2 a3 σ = some (v, σ1) ∧ ∃ w τ1, f_X12_two a1 a2 a3 τ = some (w, τ1) ∧ j_Rel σ1 τ1 := by
  obtain ⟨b, hW, hN, hM, hK⟩ := id hR
  obtain ⟨v, σ1, e1, e2⟩ := tt_two hN hW a1 a2 a3
  obtain ⟨w, τ1, f1, f2⟩ := tu_two hM hW a1 a2 a3
  exact ⟨v, σ1, e1, w, τ1, f1, y_done hR e2 f2⟩
end Z
