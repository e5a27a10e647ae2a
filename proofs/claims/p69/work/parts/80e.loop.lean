/-! ===== the class's line ===== -/
def y_fit (S : List Int32) : Nat → Nat → List (Option (List Int32)) → Bool
  | i, _, [] => decide (S.length ≤ i ∧ i ≤ 200)
  | i, k, none :: l => decide (i < S.length) && decide (S.getD i 0 = 35) && decide (i + 1 < S.length → S.getD (i + 1) 0 = 32) && decide (k < 5) && y_fit S (i + 2) (k + 1) l
  | i, k, some [] :: l => decide (i < S.length) && decide (S.getD i 0 = 59) && decide (i + 1 < S.length → S.getD (i + 1) 0 = 32) && y_fit S (i + 2) k l
  | i, k, some (a :: L) :: l => decide (i + (a :: L).length < S.length) && decide (S.getD (i + (a :: L).length) 0 = 32) && decide (∀ j, j < (a :: L).length → S.getD (i + j) 0 = (a :: L).getD j 0 ∧ S.getD (i + j) 0 ≠ 32) && decide (S.getD i 0 ≠ 35 ∧ S.getD i 0 ≠ 59) && y_fit S (i + (a :: L).length + 1) k l
def y_cw (σ : j_G) (B : Nat → Int32) (n : Nat) (r : Nat × Nat) : Prop := y_ct σ B n ∧ r.1 ≤ 3 ∧ r.2 ≤ n ∧ (r.1 = 0 → σ.1 10 1 = nI 0 ∧ σ.1 10 2 = nP 0 ∧ σ.1 10 7 = nI r.2) ∧ (r.1 ≠ 0 → σ.1 10 1 = nI r.1 ∧ σ.1 10 2 = nI r.2)
def y_fc (σ σ' : j_G) : Prop := (∀ c, c ≠ 10 → c ≠ 21 → σ'.1 c = σ.1 c) ∧ σ'.2 = σ.2
theorem y_fc.refl {σ : j_G} : y_fc σ σ := ⟨fun _ _ _ => rfl, rfl⟩
theorem y_fc.trans {σ σ' σ'' : j_G} (h : y_fc σ σ') (h' : y_fc σ' σ'') : y_fc σ σ'' := ⟨fun c a b => (h'.1 c a b).trans (h.1 c a b), h'.2.trans h.2⟩
theorem y_fc.si {σ σ' : j_G} {c j : Nat} {v : Int32} (h : y_fc σ σ') (hc : c = 10 ∨ c = 21) : y_fc σ (j_si σ' c j v) := ⟨fun c' a b => (funext fun j' => j_r_ne (by omega)).trans (h.1 c' a b), h.2⟩
theorem y_cf10.fc {σ σ' : j_G} (h : y_cf10 σ σ') : y_fc σ σ' := ⟨fun c a _ => h.1 c a, h.2.1⟩
section L
variable {B : Nat → Int32} {n : Nat} {J : List Nat → Nat → Nat}
theorem y_ct.fc {σ σ' : j_G} (h : y_ct σ B n) (hf : y_fc σ σ') : y_ct σ' B n := by
  unfold y_ct at *; rw [hf.1 19 (by omega) (by omega), hf.1 20 (by omega) (by omega)]; exact h
theorem y_kd_le {p : Nat} : y_kd B n p ≤ 4 := by
  unfold y_kd; split
  · omega
  · exact y_cl_c B _
theorem y_srt_eq {k j : Nat} (hk : k ≤ 4) (hj : 1 ≤ j) (hj4 : j ≤ 4) : nI (y_srt k) = nI j ↔ k + 1 = j := by
  have : y_srt k ≤ 4 := by unfold y_srt; split <;> omega
  rw [y_eq (by omega) (by omega)]
  unfold y_srt
  split <;> omega
/-- a word's letters -/
theorem y_e_in {p : Nat} (h : p ≤ n) (hk : y_kd B n p = 1) {j : Nat} (h1 : y_s B n p ≤ j) (h2 : j < y_e B n p) : y_cl B j = 1 := by
  unfold y_kd at hk
  unfold y_e at h2
  split at hk
  · omega
  · next c =>
    rw [if_neg c, if_pos hk] at h2
    exact y_wl_in _ _ _ h1 h2
theorem yc_sp37 {σ : j_G} {q : Nat} {S : List Int32} (hS : y_str q S) (ht : y_ct σ B n) {i s v : Nat} (h6 : σ.1 10 6 = nI s) (hi : i + v ≤ S.length) (hs : s + v ≤ n) : ∀ m j f, j + m = v → m < f → (∀ t, t < j → S.getD (i + t) 0 = nI (y_t B (s + t))) → p_X7_isSpelled_37 q (nI i) (nI v) σ f (nI j) = some (if ∀ t, t < v → S.getD (i + t) 0 = nI (y_t B (s + t)) then nI 1 else nI 0) := by
  have hn := ht.1
  have hl := hS.2.2.1
  intro m
  induction m with
  | zero =>
    intro j f h hf hj
    obtain ⟨f, rfl⟩ := y_pos hf
    unfold p_X7_isSpelled_37
    rw [if_neg (show ¬ nI j < nI v by rw [y_lt (by omega) (by omega)]; omega), if_pos (fun t z => hj t (by omega))]; rfl
  | succ m ih =>
    intro j f h hf hj
    obtain ⟨f, rfl⟩ := y_pos hf
    unfold p_X7_isSpelled_37
    rw [if_pos (show nI j < nI v by rw [y_lt (by omega) (by omega)]; omega), nI_add, hS.chr (by omega), j_b1_s, h6, nI_add, yc_at ht (by omega), j_b1_s]
    have e : nI j + 1 = nI (j + 1) := by simp (disch := omega) only [y_lit, nI_add]
    by_cases k : S.getD (i + j) 0 = nI (y_t B (s + j))
    · rw [if_neg (fun z => z k), e]
      refine ih (j + 1) f (by omega) (by omega) (fun t z => ?_)
      by_cases w : t = j
      · subst w; exact k
      · exact hj t (by omega)
    · rw [if_pos k, if_neg (fun z => k (z j (by omega)))]; rfl
theorem yc_spelled {σ : j_G} {q : Nat} {S L : List Int32} (hS : y_str q S) (ht : y_ct σ B n) {p i : Nat} (hp : p ≤ n) (hc : y_ck σ B n p) (hk : y_kd B n p = 1) (h1 : i + L.length < S.length) (h2 : S.getD (i + L.length) 0 = 32) (h3 : ∀ j, j < L.length → S.getD (i + j) 0 = L.getD j 0 ∧ S.getD (i + j) 0 ≠ 32) : f_X7_isSpelled q (nI i) σ = some (if y_sp L B n p = true then nI 1 else nI 0) := by
  have hn := ht.1
  have hl := hS.2.2.1
  obtain ⟨c5, c6, c7, c8⟩ := hc
  have eb := y_e_bd (B := B) hp
  unfold f_X7_isSpelled
  simp only [j_lt]
  rw [c6, c7, pk_sub eb.1, hS.len, j_b1_s, nI_add]
  have F0 : (0 : Int32) = nI 0 := rfl
  by_cases a : i + (y_e B n p - y_s B n p) < S.length
  · rw [if_pos (show nI (i + (y_e B n p - y_s B n p)) < nI S.length by rw [y_lt (by omega) (by omega)]; exact a), hS.chr a, j_b1_s]
    by_cases b : S.getD (i + (y_e B n p - y_s B n p)) 0 = 32
    · rw [if_neg (fun z => z b), F0, yc_sp37 hS ht c6 (by omega) (by omega) (y_e B n p - y_s B n p) 0 j_F (by omega) (y_F (by omega)) (fun t z => absurd z (by omega))]
      congr 1
      by_cases g : y_sp L B n p = true
      · rw [if_pos g, if_pos]
        obtain ⟨g1, g2, g3⟩ := y_spP.mp g
        intro t z
        rw [(h3 t (by omega)).1]; exact (g3 t (by omega)).symm
      · rw [if_neg g, if_neg]
        intro z
        apply g
        have ge : L.length ≤ y_e B n p - y_s B n p := by
          rcases Nat.lt_or_ge (y_e B n p - y_s B n p) L.length with w | w
          · exact absurd b (h3 _ w).2
          · exact w
        have le : y_e B n p - y_s B n p ≤ L.length := by
          rcases Nat.lt_or_ge L.length (y_e B n p - y_s B n p) with w | w
          · have q1 := z _ w
            rw [h2] at q1
            have q2 := y_clL.mpr (y_e_in hp hk (show y_s B n p ≤ y_s B n p + L.length by omega) (by omega))
            rw [show (32 : Int32) = nI 32 from rfl, y_eq (by omega) (by omega)] at q1
            omega
          · exact w
        refine y_spP.mpr ⟨hk, by omega, fun t ht' => ?_⟩
        rw [← (h3 t ht').1]; exact (z t (by omega)).symm
    · rw [if_pos b]
      congr 1
      rw [if_neg]; rfl
      intro g
      obtain ⟨g1, g2, g3⟩ := y_spP.mp g
      apply b
      rw [show y_e B n p - y_s B n p = L.length by omega]; exact h2
  · rw [if_neg (show ¬ nI (i + (y_e B n p - y_s B n p)) < nI S.length by rw [y_lt (by omega) (by omega)]; exact a)]
    congr 1
    rw [if_neg]; rfl
    intro g
    obtain ⟨g1, g2, g3⟩ := y_spP.mp g
    omega
/-- a word of the shape -/
theorem yc_stW {σ : j_G} {q : Nat} {S L : List Int32} (hS : y_str q S) (ht : y_ct σ B n) {p i : Nat} (hp : p ≤ n) (hc : y_ck σ B n p) (h1 : i + L.length < S.length) (h2 : S.getD (i + L.length) 0 = 32) (h3 : ∀ j, j < L.length → S.getD (i + j) 0 = L.getD j 0 ∧ S.getD (i + j) 0 ≠ 32) (h4 : S.getD i 0 ≠ 35 ∧ S.getD i 0 ≠ 59) : f_X7_standsAt q (nI i) σ = some (if y_sp L B n p = true then nI 1 else nI 0) := by
  have hl := hS.2.2.1
  have kl := y_kd_le (B := B) (n := n) (p := p)
  unfold f_X7_standsAt
  rw [if_pos (show ¬ nI i < (0 : Int32) by rw [show (0 : Int32) = nI 0 from rfl, y_lt (by omega) (by omega)]; omega), hS.len, j_b1_s, if_neg (show ¬ ¬ nI i < nI S.length by rw [y_lt (by omega) (by omega)]; omega), hS.chr (by omega), j_b1_s]
  rw [if_neg h4.1, if_neg h4.2, hc.1]
  by_cases k : y_kd B n p = 1
  · rw [if_pos (show nI (y_srt (y_kd B n p)) = (2 : Int32) from (y_srt_eq (j := 2) kl (by omega) (by omega)).mpr (by omega)), yc_spelled hS ht hp hc k h1 h2 h3, j_b1_s]
    by_cases g : y_sp L B n p = true
    · rw [if_pos g, if_pos (show ¬ nI 1 = (0 : Int32) by decide)]; rfl
    · rw [if_neg g, if_neg (show ¬ ¬ nI 0 = (0 : Int32) from fun z => z rfl)]; rfl
  · rw [if_neg (show ¬ nI (y_srt (y_kd B n p)) = (2 : Int32) from fun z => k (by have := (y_srt_eq (j := 2) kl (by omega) (by omega)).mp z; omega)), if_neg (fun g => k (y_spP.mp g).1)]; rfl
theorem yc_stN {σ : j_G} {q : Nat} {S : List Int32} (hS : y_str q S) {p i : Nat} (hc : y_ck σ B n p) (h1 : i < S.length) (h2 : S.getD i 0 = 35) : f_X7_standsAt q (nI i) σ = some (if y_kd B n p = 2 then nI 1 else nI 0) := by
  have hl := hS.2.2.1
  have kl := y_kd_le (B := B) (n := n) (p := p)
  unfold f_X7_standsAt
  rw [if_pos (show ¬ nI i < (0 : Int32) by rw [show (0 : Int32) = nI 0 from rfl, y_lt (by omega) (by omega)]; omega), hS.len, j_b1_s, if_neg (show ¬ ¬ nI i < nI S.length by rw [y_lt (by omega) (by omega)]; omega), hS.chr (by omega), j_b1_s, if_pos h2, hc.1]
  by_cases k : y_kd B n p = 2
  · rw [if_pos (show nI (y_srt (y_kd B n p)) = (3 : Int32) from (y_srt_eq (j := 3) kl (by omega) (by omega)).mpr (by omega)), if_pos k]; rfl
  · rw [if_neg (show ¬ nI (y_srt (y_kd B n p)) = (3 : Int32) from fun z => k (by have := (y_srt_eq (j := 3) kl (by omega) (by omega)).mp z; omega)), if_neg k]; rfl
theorem yc_stS {σ : j_G} {q : Nat} {S : List Int32} (hS : y_str q S) {p i : Nat} (hc : y_ck σ B n p) (h1 : i < S.length) (h2 : S.getD i 0 = 59) : f_X7_standsAt q (nI i) σ = some (if y_kd B n p = 3 then nI 1 else nI 0) := by
  have hl := hS.2.2.1
  have kl := y_kd_le (B := B) (n := n) (p := p)
  unfold f_X7_standsAt
  rw [if_pos (show ¬ nI i < (0 : Int32) by rw [show (0 : Int32) = nI 0 from rfl, y_lt (by omega) (by omega)]; omega), hS.len, j_b1_s, if_neg (show ¬ ¬ nI i < nI S.length by rw [y_lt (by omega) (by omega)]; omega), hS.chr (by omega), j_b1_s, if_neg (show ¬ S.getD i 0 = 35 by rw [h2]; decide), if_pos h2, hc.1]
  by_cases k : y_kd B n p = 3
  · rw [if_pos (show nI (y_srt (y_kd B n p)) = (4 : Int32) from (y_srt_eq (j := 4) kl (by omega) (by omega)).mpr (by omega)), if_pos k]; rfl
  · rw [if_neg (show ¬ nI (y_srt (y_kd B n p)) = (4 : Int32) from fun z => k (by have := (y_srt_eq (j := 4) kl (by omega) (by omega)).mp z; omega)), if_neg k]; rfl
theorem yc_bb {q : Nat} {S : List Int32} (hS : y_str q S) {j : Nat} (hj : j ≤ S.length) (hb : j < S.length → S.getD j 0 = 32) : ∀ m i f, i + m = j → m < f → (∀ t, i ≤ t → t < j → S.getD t 0 ≠ 32) → p_X7_behindBlank_2 q f (nI i) = some (nI j) := by
  have hl := hS.2.2.1
  intro m
  induction m with
  | zero =>
    intro i f h hf hh
    obtain ⟨f, rfl⟩ := y_pos hf
    obtain rfl : i = j := by omega
    unfold p_X7_behindBlank_2
    rw [hS.len, j_b1_s]
    by_cases c : i < S.length
    · rw [if_pos (show nI i < nI S.length by rw [y_lt (by omega) (by omega)]; exact c), hS.chr c, j_b1_s, if_neg (fun z => z (hb c))]
    · rw [if_neg (show ¬ nI i < nI S.length by rw [y_lt (by omega) (by omega)]; exact c)]
  | succ m ih =>
    intro i f h hf hh
    obtain ⟨f, rfl⟩ := y_pos hf
    unfold p_X7_behindBlank_2
    have e : nI i + 1 = nI (i + 1) := by simp (disch := omega) only [y_lit, nI_add]
    rw [hS.len, j_b1_s, if_pos (show nI i < nI S.length by rw [y_lt (by omega) (by omega)]; omega), hS.chr (by omega), j_b1_s, if_pos (hh i (by omega) (by omega)), e]
    exact ih (i + 1) f (by omega) (by omega) (fun t a b => hh t (by omega) b)
theorem yc_bbn {q : Nat} {S : List Int32} (hS : y_str q S) {i j : Nat} (hij : i ≤ j) (hj : j ≤ S.length) (hb : j < S.length → S.getD j 0 = 32) (hh : ∀ t, i ≤ t → t < j → S.getD t 0 ≠ 32) : f_X7_behindBlank q (nI i) = some (nI (j + 1)) := by
  have hl := hS.2.2.1
  unfold f_X7_behindBlank
  rw [yc_bb hS hj hb (j - i) i j_F (by omega) (y_F (by omega)) hh, j_b1_s]
  congr 1
  simp (disch := omega) only [y_lit, nI_add]
end L
