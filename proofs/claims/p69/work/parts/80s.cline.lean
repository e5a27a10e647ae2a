/-! ===== the class's line, whole ===== -/
def y_fT (σ σ' : j_G) : Prop := (∀ c, c < 10 ∨ 18 < c → c ≠ 21 → σ'.1 c = σ.1 c) ∧ σ'.2 = σ.2
theorem y_fT.refl {σ : j_G} : y_fT σ σ := ⟨fun _ _ _ => rfl, rfl⟩
theorem y_fT.trans {σ σ' σ'' : j_G} (h : y_fT σ σ') (h' : y_fT σ' σ'') : y_fT σ σ'' := ⟨fun c a d => (h'.1 c a d).trans (h.1 c a d), h'.2.trans h.2⟩
theorem y_fT.si {σ σ' : j_G} {c j : Nat} {v : Int32} (h : y_fT σ σ') (hc : 10 ≤ c ∧ c ≤ 18) : y_fT σ (j_si σ' c j v) := ⟨fun c' a d => (funext fun j' => j_r_ne (by omega)).trans (h.1 c' a d), h.2⟩
theorem y_fc.fT {σ σ' : j_G} (h : y_fc σ σ') : y_fT σ σ' := ⟨fun c a d => h.1 c (by omega) d, h.2⟩
theorem y_ft2.fT {σ σ' : j_G} (h : y_ft2 σ σ') : y_fT σ σ' := ⟨fun c a d => h.1 c a d, h.2.2⟩
theorem y_cf10.fT {σ σ' : j_G} (h : y_cf10 σ σ') : y_fT σ σ' := h.fc.fT
section A
variable {B : Nat → Int32} {n : Nat} {σ : j_G} {b : Nat → Nat}
theorem y_ct.fT {σ' : j_G} (h : y_ct σ B n) (hf : y_fT σ σ') : y_ct σ' B n := by
  unfold y_ct at *; rw [hf.1 19 (by omega) (by omega), hf.1 20 (by omega) (by omega)]; exact h
theorem y_cw.cg {σ' : j_G} {r : Nat × Nat} (h : y_cw σ B n r) (e : σ'.1 10 = σ.1 10) (e1 : σ'.1 19 = σ.1 19) (e2 : σ'.1 20 = σ.1 20) : y_cw σ' B n r := by
  unfold y_cw y_ct at *; rw [e, e1, e2]; exact h
theorem y_T.l9' (h : y_T σ b) (h0 : 0 < b 9) : y_T (j_si σ 11 1 (σ.1 11 1 + (1 : Int32))) (y_l9 b) := by
  rw [h.f1, show nI (b 9) + (1 : Int32) = nI (b 9 + 1) by simp (disch := omega) only [y_lit, nI_add]]
  exact h.l9 h0
theorem yc_apply (hW : y_W b) (hT : y_T σ b) (t89 : b 9 = 0 → σ.1 11 8 = nI 1 ∧ σ.1 11 9 = nI 100) : ∀ k, k < 8 → (k = 0 ↔ b 9 = 0) → ¬ y_full b k → ∀ vs, y_okv b k vs → (∀ j, j < vs.length → σ.1 21 j = nI (vs.getD j 0)) →
    ∃ σ', f_X7_apply (nI k) σ = some σ' ∧ y_ft2 σ σ' ∧ y_T (j_si σ' 11 1 (σ'.1 11 1 + (1 : Int32))) (y_l9 (y_lap b k vs)) := by
  intro k hk h0 hf vs hok hv
  have b2 := hW.b2
  have b5 := hW.b5
  have b6 := hW.b6
  have ho := hW.ho
  have x0 : ∀ (o : Option j_G), j_ix (0 : Int32) 5 o = o := fun o => y_ix (k := 0) (by omega) (by omega)
  have x1 : ∀ (o : Option j_G), j_ix (1 : Int32) 5 o = o := fun o => y_ix (k := 1) (by omega) (by omega)
  have x2 : ∀ (o : Option j_G), j_ix (2 : Int32) 5 o = o := fun o => y_ix (k := 2) (by omega) (by omega)
  have x3 : ∀ (o : Option j_G), j_ix (3 : Int32) 5 o = o := fun o => y_ix (k := 3) (by omega) (by omega)
  have c0 : ((0 : Int32)).toNatClampNeg = 0 := rfl
  have c1 : ((1 : Int32)).toNatClampNeg = 1 := rfl
  have c2 : ((2 : Int32)).toNatClampNeg = 2 := rfl
  have c3 : ((3 : Int32)).toNatClampNeg = 3 := rfl
  have nk : ∀ j : Nat, j < 8 → k ≠ j → ¬ nI k = nI j := fun j a d => by rw [y_eq (by omega) (by omega)]; exact d
  have e9 := y_lap9 (b := b) (k := k) (vs := vs)
  unfold f_X7_apply
  simp only [j_lt, x0, x1, x2, x3, c0, c1, c2, c3, y_b1id]
  obtain rfl | rfl | rfl | rfl | rfl | rfl | rfl | rfl : k = 0 ∨ k = 1 ∨ k = 2 ∨ k = 3 ∨ k = 4 ∨ k = 5 ∨ k = 6 ∨ k = 7 := by omega
  · rw [if_pos (show nI 0 = (0 : Int32) from rfl)]
    obtain ⟨w0, w1, w2, w3, rfl, g0, g1, g2, g3⟩ := hok
    have v0 : σ.1 21 0 = nI w0 := hv 0 (by show 0 < 4; omega)
    have v1 : σ.1 21 1 = nI w1 := hv 1 (by show 1 < 4; omega)
    have v2 : σ.1 21 2 = nI w2 := hv 2 (by show 2 < 4; omega)
    have v3 : σ.1 21 3 = nI w3 := hv 3 (by show 3 < 4; omega)
    have b9 := h0.mp rfl
    obtain ⟨t8, t9⟩ := t89 b9
    refine ⟨j_si (j_si (j_si (j_si σ 11 2 (nI w0)) 11 3 (nI w1)) 11 4 (nI w2)) 11 5 (nI w3), ?_, (((y_ft2.refl.si (by omega)).si (by omega)).si (by omega)).si (by omega), ?_⟩
    · simp (disch := omega) only [j_r_ne, j_r_eq, j_r_nj, v0, v1, v2, v3]
    · have := hT.bb hW b9 t8 t9 (v0 := w0) (v1 := w1) (v2 := w2) (v3 := w3)
      rw [show (j_si (j_si (j_si (j_si σ 11 2 (nI w0)) 11 3 (nI w1)) 11 4 (nI w2)) 11 5 (nI w3)).1 11 1 = nI (b 9) by simp (disch := omega) only [j_r_ne, j_r_eq, j_r_nj]; exact hT.f1, show nI (b 9) + (1 : Int32) = nI (b 9 + 1) by simp (disch := omega) only [y_lit, nI_add]]
      exact this
  · rw [if_neg (show ¬ nI 1 = (0 : Int32) from nk 0 (by omega) (by omega)), if_pos (show nI 1 = (1 : Int32) from rfl)]
    obtain ⟨w0, w1, rfl, g0, g1, g2⟩ := hok
    have v0 : σ.1 21 0 = nI w0 := hv 0 (by show 0 < 2; omega)
    have v1 : σ.1 21 1 = nI w1 := hv 1 (by show 1 < 2; omega)
    obtain ⟨σ', e1, e2, e3⟩ := hT.sb hW (l := w0) (t := w1) (by omega) g2
    rw [v0, v1, e1]
    exact ⟨σ', rfl, e3, y_T.l9' e2 (by have : y_sb b w0 w1 9 = b 9 := e9; omega)⟩
  · rw [if_neg (show ¬ nI 2 = (0 : Int32) from nk 0 (by omega) (by omega)), if_neg (show ¬ nI 2 = (1 : Int32) from nk 1 (by omega) (by omega)), if_pos (show nI 2 = (2 : Int32) from rfl)]
    obtain ⟨w0, rfl, g0, g1, g2⟩ := hok
    have v0 : σ.1 21 0 = nI w0 := hv 0 (by show 0 < 1; omega)
    rw [v0, hT.f6, show (1 : Int32) = nI 1 from rfl, show (31 : Int32) = nI 31 from rfl, y_shl (by omega), y_or]
    exact ⟨_, rfl, y_ft2.refl.si (by omega), y_T.l9' hT.s7 (by have : y_u b 7 (b 7 ||| 2 ^ w0) 9 = b 9 := e9; omega)⟩
  · rw [if_neg (show ¬ nI 3 = (0 : Int32) from nk 0 (by omega) (by omega)), if_neg (show ¬ nI 3 = (1 : Int32) from nk 1 (by omega) (by omega)), if_neg (show ¬ nI 3 = (2 : Int32) from nk 2 (by omega) (by omega)), if_pos (show nI 3 = (3 : Int32) from rfl)]
    obtain ⟨w0, rfl, g0, g1⟩ := hok
    have v0 : σ.1 21 0 = nI w0 := hv 0 (by show 0 < 1; omega)
    have n5 : b 5 ≠ 24 := fun z => hf (Or.inl ⟨by omega, by omega, z⟩)
    rw [v0, yc_addC hT (by omega), y_m1, show (0 : Int32) = nI 0 from rfl]
    exact ⟨_, rfl, (((y_ft2.refl.si (by omega)).si (by omega)).si (by omega)).si (by omega), y_T.l9' (hT.ac hW (by omega)) (by have : y_ac b w0 0 0 9 = b 9 := e9; omega)⟩
  · rw [if_neg (show ¬ nI 4 = (0 : Int32) from nk 0 (by omega) (by omega)), if_neg (show ¬ nI 4 = (1 : Int32) from nk 1 (by omega) (by omega)), if_neg (show ¬ nI 4 = (2 : Int32) from nk 2 (by omega) (by omega)), if_neg (show ¬ nI 4 = (3 : Int32) from nk 3 (by omega) (by omega)), if_pos (show nI 4 = (4 : Int32) from rfl)]
    obtain ⟨w0, rfl, g0, g1⟩ := hok
    have v0 : σ.1 21 0 = nI w0 := hv 0 (by show 0 < 1; omega)
    have n5 : b 5 ≠ 24 := fun z => hf (Or.inl ⟨by omega, by omega, z⟩)
    rw [v0, yc_addC hT (by omega), y_m1]
    exact ⟨_, rfl, (((y_ft2.refl.si (by omega)).si (by omega)).si (by omega)).si (by omega), y_T.l9' (hT.ac (v := w0) (w := 0) (r := 1) hW (by omega)) (by have : y_ac b w0 0 1 9 = b 9 := e9; omega)⟩
  · rw [if_neg (show ¬ nI 5 = (0 : Int32) from nk 0 (by omega) (by omega)), if_neg (show ¬ nI 5 = (1 : Int32) from nk 1 (by omega) (by omega)), if_neg (show ¬ nI 5 = (2 : Int32) from nk 2 (by omega) (by omega)), if_neg (show ¬ nI 5 = (3 : Int32) from nk 3 (by omega) (by omega)), if_neg (show ¬ nI 5 = (4 : Int32) from nk 4 (by omega) (by omega)), if_pos (show nI 5 = (5 : Int32) from rfl)]
    obtain ⟨w0, w1, rfl, g0, g1, g2, g3, g4⟩ := hok
    have v0 : σ.1 21 0 = nI w0 := hv 0 (by show 0 < 2; omega)
    have v1 : σ.1 21 1 = nI w1 := hv 1 (by show 1 < 2; omega)
    have n5 : b 5 ≠ 24 := fun z => hf (Or.inl ⟨by omega, by omega, z⟩)
    rw [v0, v1, yc_addC hT (by omega), ← y_nPs w1]
    exact ⟨_, rfl, (((y_ft2.refl.si (by omega)).si (by omega)).si (by omega)).si (by omega), y_T.l9' (hT.ac (v := w0) (w := w1 + 1) (r := 0) hW (by omega)) (by have : y_ac b w0 (w1 + 1) 0 9 = b 9 := e9; omega)⟩
  · rw [if_neg (show ¬ nI 6 = (0 : Int32) from nk 0 (by omega) (by omega)), if_neg (show ¬ nI 6 = (1 : Int32) from nk 1 (by omega) (by omega)), if_neg (show ¬ nI 6 = (2 : Int32) from nk 2 (by omega) (by omega)), if_neg (show ¬ nI 6 = (3 : Int32) from nk 3 (by omega) (by omega)), if_neg (show ¬ nI 6 = (4 : Int32) from nk 4 (by omega) (by omega)), if_neg (show ¬ nI 6 = (5 : Int32) from nk 5 (by omega) (by omega)), if_pos (show nI 6 = (6 : Int32) from rfl)]
    obtain ⟨w0, w1, w2, w3, w4, rfl, g0, g1, g2, g3, g4⟩ := hok
    have v0 : σ.1 21 0 = nI w0 := hv 0 (by show 0 < 5; omega)
    have v1 : σ.1 21 1 = nI w1 := hv 1 (by show 1 < 5; omega)
    have v2 : σ.1 21 2 = nI w2 := hv 2 (by show 2 < 5; omega)
    have v3 : σ.1 21 3 = nI w3 := hv 3 (by show 3 < 5; omega)
    have v4 : σ.1 21 4 = nI w4 := hv 4 (by show 4 < 5; omega)
    have n6 : b 6 ≠ 4 := fun z => hf (Or.inr ⟨rfl, z⟩)
    rw [yc_addP hT (by omega) v0 v1 v2 v3 v4]
    exact ⟨_, rfl, (((((y_ft2.refl.si (by omega)).si (by omega)).si (by omega)).si (by omega)).si (by omega)).si (by omega), y_T.l9' (hT.pb hW (by omega)) (by have : y_pb b w0 w1 w2 w3 w4 9 = b 9 := e9; omega)⟩
  · rw [if_neg (show ¬ nI 7 = (0 : Int32) from nk 0 (by omega) (by omega)), if_neg (show ¬ nI 7 = (1 : Int32) from nk 1 (by omega) (by omega)), if_neg (show ¬ nI 7 = (2 : Int32) from nk 2 (by omega) (by omega)), if_neg (show ¬ nI 7 = (3 : Int32) from nk 3 (by omega) (by omega)), if_neg (show ¬ nI 7 = (4 : Int32) from nk 4 (by omega) (by omega)), if_neg (show ¬ nI 7 = (5 : Int32) from nk 5 (by omega) (by omega)), if_neg (show ¬ nI 7 = (6 : Int32) from nk 6 (by omega) (by omega))]
    obtain ⟨w0, w1, rfl, g0, g1⟩ := hok
    have v0 : σ.1 21 0 = nI w0 := hv 0 (by show 0 < 2; omega)
    have v1 : (j_si σ 11 8 (nI w0)).1 21 1 = nI w1 := by rw [j_r_ne (by omega)]; exact hv 1 (by show 1 < 2; omega)
    rw [v0, v1]
    exact ⟨_, rfl, (y_ft2.refl.si (by omega)).si (by omega), y_T.l9' hT.tk (by have : y_u (y_u b 10 w0) 11 w1 9 = b 9 := e9; omega)⟩
theorem yc_full (hW : y_W b) (hT : y_T σ b) {k : Nat} (hk : k < 8) : f_X7_isFull (nI k) σ = if y_full b k then nI 1 else nI 0 := by
  have b5 := hW.b5
  have b6 := hW.b6
  have nk : ∀ j : Nat, j < 8 → k ≠ j → ¬ nI k = nI j := fun j a d => by rw [y_eq (by omega) (by omega)]; exact d
  have e5 : (if ¬ (σ.1 15 0) < (24 : Int32) then ((1 : Int32)) else ((0 : Int32))) = if b 5 = 24 then nI 1 else nI 0 := by
    rw [hT.d0, show (24 : Int32) = nI 24 from rfl]
    by_cases c : b 5 = 24
    · rw [if_pos c, if_pos (by rw [y_lt (by omega) (by omega)]; omega)]; rfl
    · rw [if_neg c, if_neg (by rw [y_lt (by omega) (by omega)]; omega)]; rfl
  have e6 : (if ¬ (σ.1 11 7) < (4 : Int32) then ((1 : Int32)) else ((0 : Int32))) = if b 6 = 4 then nI 1 else nI 0 := by
    rw [hT.f7, show (4 : Int32) = nI 4 from rfl]
    by_cases c : b 6 = 4
    · rw [if_pos c, if_pos (by rw [y_lt (by omega) (by omega)]; omega)]; rfl
    · rw [if_neg c, if_neg (by rw [y_lt (by omega) (by omega)]; omega)]; rfl
  unfold f_X7_isFull
  rw [e5, e6]
  have g5 : 3 ≤ k ∧ k ≤ 5 → (if b 5 = 24 then nI 1 else nI 0) = if y_full b k then nI 1 else nI 0 := by
    intro h
    by_cases c : b 5 = 24
    · rw [if_pos c, if_pos (Or.inl ⟨h.1, h.2, c⟩)]
    · rw [if_neg c, if_neg (fun z => by omega)]
  by_cases k3 : k = 3
  · subst k3; rw [if_pos (show nI 3 = (3 : Int32) from rfl)]; exact g5 (by omega)
  rw [if_neg (show ¬ nI k = (3 : Int32) from nk 3 (by omega) k3)]
  by_cases k4 : k = 4
  · subst k4; rw [if_pos (show nI 4 = (4 : Int32) from rfl)]; exact g5 (by omega)
  rw [if_neg (show ¬ nI k = (4 : Int32) from nk 4 (by omega) k4)]
  by_cases k5 : k = 5
  · subst k5; rw [if_pos (show nI 5 = (5 : Int32) from rfl)]; exact g5 (by omega)
  rw [if_neg (show ¬ nI k = (5 : Int32) from nk 5 (by omega) k5)]
  by_cases k6 : k = 6
  · subst k6
    rw [if_pos (show nI 6 = (6 : Int32) from rfl)]
    by_cases c : b 6 = 4
    · rw [if_pos c, if_pos (Or.inr ⟨rfl, c⟩)]
    · rw [if_neg c, if_neg (fun z => by omega)]
  rw [if_neg (show ¬ nI k = (6 : Int32) from nk 6 (by omega) k6), if_neg (fun z => by omega)]; rfl
theorem yc_line {p : Nat} (hW : y_W b) (hp : p ≤ n) (hc : y_ck σ B n p) (hw : y_cw σ B n (0, y_e B n p)) (hT : y_T σ b) (t89 : b 9 = 0 → σ.1 11 8 = nI 1 ∧ σ.1 11 9 = nI 100) (hok : (y_lr B n b p).1.1 = 0 → y_okv b (y_kn B n p) (y_lr B n b p).2) :
    ∃ σ', f_X7_readLine σ = some σ' ∧ y_cw σ' B n (y_lr B n b p).1 ∧ y_fT σ σ' ∧ ((y_lr B n b p).1.1 = 0 → y_T σ' (y_l9 (y_lap b (y_kn B n p) (y_lr B n b p).2))) := by
  have ht := hw.1
  have b9 := hW.b9
  have kl := y_kn_le (B := B) (n := n) (p := p)
  have i0 : ¬ ¬ nI 0 = (0 : Int32) := fun z => z rfl
  have i1 : ¬ nI 1 = (0 : Int32) := by decide
  have kd : f_X7_kindOfLine σ = some (if y_kn B n p = 8 then nP 0 else if (y_kn B n p = 0 ↔ σ.1 11 1 = nI 0) then nI (y_kn B n p) else nP 0) := by
    unfold f_X7_kindOfLine
    rw [show (0 : Int32) = nI 0 from rfl]
    exact yc_kol ht hp hc 8 0 j_F (by omega) (y_F (by omega))
  have e9 : (y_kn B n p = 0 ↔ σ.1 11 1 = nI 0) ↔ (y_kn B n p = 0 ↔ b 9 = 0) := by rw [hT.f1, y_eq (by omega) (by omega)]
  unfold f_X7_readLine
  rw [kd, j_b1_s]
  by_cases c : y_kn B n p = 8 ∨ ¬ (y_kn B n p = 0 ↔ b 9 = 0)
  · rw [y_lr_bad c]
    obtain ⟨σ', s1, s2, s3⟩ := yc_blame (k := 1) (by omega) (by omega) hp ht hc.2.1
    refine ⟨σ', ?_, s2, s3.fT, fun z => absurd z (by show ¬ (1 : Nat) = 0; omega)⟩
    have v : (if y_kn B n p = 8 then nP 0 else if (y_kn B n p = 0 ↔ σ.1 11 1 = nI 0) then nI (y_kn B n p) else nP 0) = nP 0 := by
      by_cases d : y_kn B n p = 8
      · rw [if_pos d]
      · rw [if_neg d, if_neg (fun z => c.elim d (fun w => w (e9.mp z)))]
    rw [v, if_pos y_m1.symm, show (1 : Int32) = nI 1 from rfl, s1]
    rfl
  · have k8 : y_kn B n p < 8 := by omega
    have v : (if y_kn B n p = 8 then nP 0 else if (y_kn B n p = 0 ↔ σ.1 11 1 = nI 0) then nI (y_kn B n p) else nP 0) = nI (y_kn B n p) := by
      rw [if_neg (by omega), if_pos (e9.mpr (Classical.not_not.mp (fun z => c (Or.inr z))))]
    rw [v, if_neg (show ¬ nI (y_kn B n p) = (-1 : Int32) by rw [y_m1, y_eqQ (by omega) (by omega)]; omega), yc_full hW hT k8]
    by_cases d : y_full b (y_kn B n p)
    · rw [if_pos d, if_pos i1, y_lr_full c d]
      obtain ⟨σ', s1, s2, s3⟩ := yc_blame (k := 3) (by omega) (by omega) hp ht hc.2.1
      refine ⟨σ', ?_, s2, s3.fT, fun z => absurd z (by show ¬ (3 : Nat) = 0; omega)⟩
      rw [show (3 : Int32) = nI 3 from rfl, s1]
      rfl
    · rw [if_neg d, if_neg i0]
      have hiff : y_kn B n p = 0 ↔ b 9 = 0 := Classical.not_not.mp (fun z => c (Or.inr z))
      have lr := y_lr_go c d
      rw [lr] at hok ⊢
      clear lr
      generalize y_kn B n p = k at *
      obtain ⟨q1, q2, q3, q4, q5, q6, q7⟩ := y_first k k8
      obtain ⟨f1, f2, f3⟩ := y_fits k k8
      have hS := y_strK (k := k) (by omega)
      have ec : f_X7_behindBlank (2000000 + k) (nI 0) = some (nI ((y_L (y_fw k)).length + 1)) := by
        refine yc_bbn hS (by omega) (by omega) (fun _ => ?_) (fun t x y => ?_)
        · rw [Nat.zero_add] at q4; exact q4
        · have := (q5 t y).2; rw [Nat.zero_add] at this; exact this
      rw [q1, show (0 : Int32) = nI 0 from rfl, ec, j_b1_s]
      obtain ⟨σ1, g1, g2, g3, g4⟩ := yc_loop (J := y_qk b k) hS (nI k) (y_it k) ((y_L (y_fw k)).length + 1) j_F 1 (y_e B n p) [] σ f1 (y_F (by omega)) (by omega) (y_jdk hW hT k k8) hw (fun j hj => absurd hj (by show ¬ j < 0; omega))
      by_cases z : (y_gq B n (y_qk b k) (y_it k) ((0, y_e B n p), [])).1.1 = 0
      · obtain ⟨h1, h2⟩ := g4 z
        obtain ⟨σ2, a1, a2, a3⟩ := yc_apply hW (hT.fc g2) (fun w => by rw [g2.1 11 (by omega) (by omega)]; exact t89 w) k k8 hiff d _ (hok z) (fun j hj => (h2 j hj).1)
        have h1' : p_X7_readLine_47 (nI k) (2000000 + k) j_F (nI 0) (nI ((y_L (y_fw k)).length + 1)) (1 : Int32) σ = _ := h1
        rw [h1', a1, j_b1_s]
        refine ⟨_, rfl, ?_, (g2.fT.trans a2.fT).si (by omega), fun _ => a3⟩
        refine g1.cg ?_ ?_ ?_
        · exact (funext fun j' => j_r_ne (by omega)).trans a2.2.1
        · exact (funext fun j' => j_r_ne (by omega)).trans (a2.1 19 (by omega) (by omega))
        · exact (funext fun j' => j_r_ne (by omega)).trans (a2.1 20 (by omega) (by omega))
      · have h1 := g3 z
        exact ⟨σ1, h1, g1, g2.fT, fun w => absurd w z⟩
end A
