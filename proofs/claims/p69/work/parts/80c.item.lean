/-! ===== the items of a line: some L a word, none a number, some [] a ; . r.1: 0 good, or the fault's kind; r.2: where the next token is sought, or the fault's place ===== -/
def y_sp (L : List Int32) (B : Nat → Int32) (n p : Nat) : Bool := decide (y_kd B n p = 1 ∧ y_e B n p = y_s B n p + L.length ∧ ∀ i, i < L.length → nI (y_t B (y_s B n p + i)) = L.getD i 0)
def y_stp (B : Nat → Int32) (n : Nat) (J : List Nat → Nat → Nat) (it : Option (List Int32)) (x : (Nat × Nat) × List Nat) : (Nat × Nat) × List Nat :=
  if x.1.1 ≠ 0 then x else
  match it with
  | some [] => if y_kd B n x.1.2 = 3 then ((0, y_e B n x.1.2), x.2) else ((1, y_s B n x.1.2), x.2)
  | some L => if y_sp L B n x.1.2 = true then ((0, y_e B n x.1.2), x.2) else ((1, y_s B n x.1.2), x.2)
  | none => if y_kd B n x.1.2 ≠ 2 then ((1, y_s B n x.1.2), x.2) else if J x.2 (y_val B n x.1.2) ≠ 0 then ((J x.2 (y_val B n x.1.2), y_s B n x.1.2), x.2) else ((0, y_e B n x.1.2), x.2 ++ [y_val B n x.1.2])
def y_gq (B : Nat → Int32) (n : Nat) (J : List Nat → Nat → Nat) : List (Option (List Int32)) → (Nat × Nat) × List Nat → (Nat × Nat) × List Nat
  | [], x => x
  | it :: l, x => y_gq B n J l (y_stp B n J it x)
section I
variable {B : Nat → Int32} {n : Nat} {J : List Nat → Nat → Nat}
theorem y_stp_bad {it : Option (List Int32)} {x : (Nat × Nat) × List Nat} (h : x.1.1 ≠ 0) : y_stp B n J it x = x := if_pos h
theorem y_gq_bad : ∀ {l : List (Option (List Int32))} {x : (Nat × Nat) × List Nat}, x.1.1 ≠ 0 → y_gq B n J l x = x
  | [], _, _ => rfl
  | it :: l, x, h => by unfold y_gq; rw [y_stp_bad h]; exact y_gq_bad h
theorem y_gq_good {l : List (Option (List Int32))} {x : (Nat × Nat) × List Nat} (h : (y_gq B n J l x).1.1 = 0) : x.1.1 = 0 := by
  rcases Nat.eq_zero_or_pos x.1.1 with z | z
  · exact z
  · rw [y_gq_bad (by omega)] at h; exact h
theorem y_spP {L : List Int32} {p : Nat} : y_sp L B n p = true ↔ (y_kd B n p = 1 ∧ y_e B n p = y_s B n p + L.length ∧ ∀ i, i < L.length → nI (y_t B (y_s B n p + i)) = L.getD i 0) := by unfold y_sp; exact decide_eq_true_iff
theorem y_stp_w {L : List Int32} {p : Nat} {vs : List Nat} (hL : L ≠ []) : y_stp B n J (some L) ((0, p), vs) = if y_sp L B n p = true then ((0, y_e B n p), vs) else ((1, y_s B n p), vs) := by
  obtain ⟨a, l, rfl⟩ : ∃ a l, L = a :: l := by
    cases L with
    | nil => exact absurd rfl hL
    | cons a l => exact ⟨a, l, rfl⟩
  exact if_neg (fun z => z rfl)
theorem y_stp_n {p : Nat} {vs : List Nat} : y_stp B n J none ((0, p), vs) = if y_kd B n p ≠ 2 then ((1, y_s B n p), vs) else if J vs (y_val B n p) ≠ 0 then ((J vs (y_val B n p), y_s B n p), vs) else ((0, y_e B n p), vs ++ [y_val B n p]) := if_neg (fun z => z rfl)
theorem y_stp_s {p : Nat} {vs : List Nat} : y_stp B n J (some []) ((0, p), vs) = if y_kd B n p = 3 then ((0, y_e B n p), vs) else ((1, y_s B n p), vs) := if_neg (fun z => z rfl)
/-- a range, as a judge -/
def y_jr (lo h v : Nat) : Nat := if lo ≤ v ∧ v < h then 0 else 2
theorem y_jr_le {lo h v : Nat} : y_jr lo h v ≤ 3 := by unfold y_jr; split <;> omega
/-- the reference's state of reading -/
def y_mw (τ : j_G) (B : Nat → Int32) (n : Nat) (r : Nat × Nat) : Prop := y_mt τ B n ∧ r.1 ≤ 3 ∧ r.2 ≤ n ∧ (r.1 = 0 → τ.1 75 12 = nI 0 ∧ τ.1 75 13 = nP 0 ∧ y_mq τ B n r.2) ∧ (r.1 ≠ 0 → τ.1 75 12 = nI r.1 ∧ τ.1 75 13 = nI r.2)
theorem y_mw.fr {τ τ' : j_G} {r : Nat × Nat} (h : y_mw τ B n r) (e : τ'.1 75 = τ.1 75) (e' : τ'.1 79 = τ.1 79) : y_mw τ' B n r := by
  unfold y_mw y_mt y_mq at *; rw [e, e']; exact h
theorem ym_good {τ : j_G} {r : Nat × Nat} (h : y_mw τ B n r) : f_X12_good τ = if r.1 = 0 then nI 1 else nI 0 := by
  have h3 := h.2.1
  unfold f_X12_good
  by_cases c : r.1 = 0
  · rw [if_pos c, (h.2.2.2.1 c).1]; rfl
  · rw [if_neg c, (h.2.2.2.2 c).1, if_neg (show ¬ nI r.1 = (0 : Int32) by rw [show (0 : Int32) = nI 0 from rfl, y_eq (by omega) (by omega)]; exact c)]; rfl
theorem y_raw {x : Int32} {c : Nat} (h1 : -128 ≤ x.toInt) (h2 : x.toInt ≤ 127) (hc : c < 128) : x = nI c ↔ nI (x.toBitVec.toNat % 256) = nI c := by
  rw [y_eq (by have := Nat.mod_lt x.toBitVec.toNat (show 0 < 256 by omega); omega) (by omega), j_eqI, nI_toInt (by omega)]
  have e : x.toInt = x.toBitVec.toInt := rfl
  rw [BitVec.toInt_eq_toNat_cond] at e
  have := x.toBitVec.isLt
  split at e <;> omega
def y_str (q : Nat) (L : List Int32) : Prop := x_str ≤ q ∧ x_sbyt[q - x_str]? = some L ∧ L.length < 100 ∧ ∀ i, i < L.length → ∃ c, c < 128 ∧ L.getD i 0 = nI c
theorem y_str.len {q : Nat} {L : List Int32} (h : y_str q L) : j_len q = some (nI L.length) := by
  unfold j_len; rw [if_pos h.1, h.2.1]; rfl
theorem y_str.chr {q : Nat} {L : List Int32} (h : y_str q L) {i : Nat} (hi : i < L.length) : j_chr q (nI i) = some (L.getD i 0) := by
  have hl := h.2.2.1
  unfold j_chr; rw [if_pos h.1, h.2.1]
  show (if nI i < 0 ∨ L.length ≤ (nI i).toNatClampNeg then none else some (L.getD (nI i).toNatClampNeg 0)) = _
  rw [nI_clamp (by omega), if_neg]
  rw [show (0 : Int32) = nI 0 from rfl, y_lt (by omega) (by omega)]; omega
theorem ym_is39 {τ : j_G} {q : Nat} {L : List Int32} (hL : y_str q L) (ht : y_mt τ B n) {p : Nat} (h9 : τ.1 75 9 = nI (y_s B n p)) (he : y_s B n p + L.length ≤ n) : ∀ m i f, i + m = L.length → m < f → (∀ j, j < i → nI (y_t B (y_s B n p + j)) = L.getD j 0) → p_X12_is_39 q τ f (nI 1) (nI i) = some (if ∀ j, j < L.length → nI (y_t B (y_s B n p + j)) = L.getD j 0 then nI 1 else nI 0) := by
  have hn := ht.1
  have hl := hL.2.2.1
  intro m
  induction m with
  | zero =>
    intro i f h hf hj
    obtain ⟨f, rfl⟩ := y_pos hf
    unfold p_X12_is_39
    rw [hL.len, j_b1_s, if_neg (show ¬ (nI i < nI L.length ∧ ¬ nI 1 = (0 : Int32)) by rw [y_lt (by omega) (by omega)]; omega), if_pos (fun j hj' => hj j (by omega))]
  | succ m ih =>
    intro i f h hf hj
    obtain ⟨f, rfl⟩ := y_pos hf
    obtain ⟨c, hc, hLc⟩ := hL.2.2.2 i (by omega)
    obtain ⟨t1, t2, t3⟩ := ht.2.2 (y_s B n p + i) (by omega)
    have ft : ∀ g x, p_X12_is_39 q τ (g + 1) (nI 0) x = some (nI 0) := by
      intro g x
      unfold p_X12_is_39
      rw [hL.len, j_b1_s, if_neg (fun z => z.2 rfl)]
    unfold p_X12_is_39
    rw [hL.len, j_b1_s, if_pos (show (nI i < nI L.length ∧ ¬ nI 1 = (0 : Int32)) from ⟨by rw [y_lt (by omega) (by omega)]; omega, by decide⟩), h9, nI_add, y_ix (by omega) (by omega), hL.chr (by omega), j_b1_s, nI_clamp (by omega), t1, hLc]
    simp only [j_lt]
    obtain ⟨f, rfl⟩ := y_pos (show 0 < f by omega)
    have e : nI i + 1 = nI (i + 1) := by simp (disch := omega) only [y_lit, nI_add]
    have rw' := y_raw t2 t3 hc
    rw [e]
    by_cases k : B (y_s B n p + i) = nI c
    · rw [if_pos k]
      refine ih (i + 1) (f + 1) (by omega) (by omega) (fun j hj' => ?_)
      by_cases e : j = i
      · subst e; rw [hLc]; exact rw'.mp k
      · exact hj j (by omega)
    · rw [if_neg k, if_neg (fun z => k (rw'.mpr (by rw [← hLc]; exact z i (by omega))))]
      exact ft _ _
theorem ym_is {τ : j_G} {q : Nat} {L : List Int32} {r : Nat × Nat} (hL : y_str q L) (h : y_mw τ B n r) : f_X12_is q τ = some (if r.1 = 0 ∧ y_sp L B n r.2 = true then nI 1 else nI 0) := by
  have hl := hL.2.2.1
  have hn := h.1.1
  have eb := y_e_bd (B := B) h.2.2.1
  have ft : p_X12_is_39 q τ j_F (nI 0) (nI 0) = some (nI 0) := by
    obtain ⟨f, hf⟩ : ∃ f, j_F = f + 1 := ⟨_, rfl⟩
    rw [hf]
    unfold p_X12_is_39
    rw [hL.len, j_b1_s, if_neg (fun z => z.2 rfl)]
  have bo0 : ∀ o : Option Int32, j_bo (nI 0) o = o := fun o => y_bo0
  unfold f_X12_is
  rw [ym_good h]
  by_cases c : r.1 = 0
  · obtain ⟨g1, g2, g3⟩ := h.2.2.2.1 c
    obtain ⟨q9, q8, q10, q11⟩ := g3
    have kc : y_kd B n r.2 ≤ 4 := by
      unfold y_kd; split
      · omega
      · exact y_cl_c B _
    by_cases k : y_kd B n r.2 = 1
    · rw [if_pos (show ¬ (if r.1 = 0 then nI 1 else nI 0) = (0 : Int32) ∧ τ.1 75 10 = (1 : Int32) from ⟨by rw [if_pos c]; decide, by rw [q10, k]; rfl⟩), hL.len, j_b1_s, q8, q9, pk_sub eb.1]
      by_cases e : y_e B n r.2 = y_s B n r.2 + L.length
      · rw [if_pos (show nI (y_e B n r.2 - y_s B n r.2) = nI L.length by rw [e]; congr 1; omega), j_b1_s]
        rw [show ((1 : Int32)) = nI 1 from rfl, show ((0 : Int32)) = nI 0 from rfl, ym_is39 hL h.1 q9 (by omega) L.length 0 j_F (by omega) (y_F (by omega)) (fun j hj => absurd hj (by omega)), j_b1_s]
        rw [y_bo]
        by_cases w : ∀ j, j < L.length → nI (y_t B (y_s B n r.2 + j)) = L.getD j 0
        · rw [if_pos w, if_pos ⟨c, y_spP.mpr ⟨k, e, w⟩⟩]
        · rw [if_neg w, if_neg (fun z => w (y_spP.mp z.2).2.2)]
      · rw [if_neg (show ¬ nI (y_e B n r.2 - y_s B n r.2) = nI L.length by rw [y_eq (by omega) (by omega)]; omega), j_b1_s]
        rw [show ((0 : Int32)) = nI 0 from rfl, ft, j_b1_s, bo0, if_neg (fun z => e (y_spP.mp z.2).2.1)]
    · rw [if_neg (show ¬ (¬ (if r.1 = 0 then nI 1 else nI 0) = (0 : Int32) ∧ τ.1 75 10 = (1 : Int32)) from fun z => k (by have := z.2; rw [q10, show (1 : Int32) = nI 1 from rfl, y_eq (by omega) (by omega)] at this; exact this)), j_b1_s]
      rw [show ((0 : Int32)) = nI 0 from rfl, ft, j_b1_s, bo0, if_neg (fun z => k (y_spP.mp z.2).1)]
  · rw [if_neg (show ¬ (¬ (if r.1 = 0 then nI 1 else nI 0) = (0 : Int32) ∧ τ.1 75 10 = (1 : Int32)) from fun z => z.1 (by rw [if_neg c]; rfl)), j_b1_s]
    rw [show ((0 : Int32)) = nI 0 from rfl, ft, j_b1_s, bo0, if_neg (fun z => c z.1)]
/-- on, past a good token -/
theorem ym_advR {τ : j_G} {p : Nat} (h : y_mw τ B n (0, p)) : ∃ τ', f_X12_advance τ = some τ' ∧ y_mw τ' B n (0, y_e B n p) ∧ y_fm 8 11 1 0 τ τ' := by
  obtain ⟨g1, g2, g3⟩ := h.2.2.2.1 rfl
  have eb := y_e_bd (B := B) h.2.2.1
  obtain ⟨τ', e1, e2, e3⟩ := ym_adv h.1 (p := y_e B n p) eb.2.1 g3.2.1
  refine ⟨τ', e1, ⟨h.1.fr e3, by simp, eb.2.1, fun _ => ⟨?_, ?_, e2⟩, fun z => absurd rfl z⟩, e3⟩
  · rw [e3.1 12 (by omega)]; exact g1
  · rw [e3.1 13 (by omega)]; exact g2
theorem ym_errs {τ : j_G} {k : Nat} {r : Nat × Nat} (hk : 0 < k) (hk3 : k ≤ 3) (h : y_mw τ B n r) : ∃ τ', f_X12_errs (nI k) τ = some τ' ∧ y_mw τ' B n (if r.1 = 0 then (k, y_s B n r.2) else r) ∧ y_fm 12 13 1 0 τ τ' := by
  unfold f_X12_errs
  rw [ym_good h]
  by_cases c : r.1 = 0
  · obtain ⟨g1, g2, g3⟩ := h.2.2.2.1 c
    have sb := y_s_bd (B := B) h.2.2.1
    rw [if_pos c, if_pos c, if_neg (show ¬ nI 1 = (0 : Int32) by decide)]
    have fr : y_fm 12 13 1 0 τ (j_si (j_si τ 75 12 (nI k)) 75 13 (τ.1 75 9)) := (y_fm.refl.so (by omega) (by omega)).so (by omega) (by omega)
    simp only [j_lt]
    rw [j_r_nj (show 9 ≠ 12 by omega)]
    refine ⟨_, rfl, ⟨h.1.fr (fr.wide (by omega) (Nat.le_refl _) (by omega) (by omega)), hk3, sb.2, fun z => ?_, fun _ => ⟨?_, ?_⟩⟩, fr⟩
    · have : k = 0 := z
      omega
    · rw [j_r_nj (by omega), j_r_eq]
    · rw [j_r_eq, g3.1]
  · rw [if_neg c, if_neg c, if_pos (show nI 0 = (0 : Int32) from rfl)]
    exact ⟨τ, rfl, h, y_fm.refl⟩
end I
