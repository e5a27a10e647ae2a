/-! ===== the reference's steps of reading ===== -/
section O
variable {B : Nat → Int32} {n : Nat} {J : List Nat → Nat → Nat}
theorem ym_takes {τ : j_G} {q : Nat} {L : List Int32} {r : Nat × Nat} (hL : y_str q L) (hne : L ≠ []) (h : y_mw τ B n r) (vs : List Nat) :
    (r.1 = 0 ∧ y_sp L B n r.2 = true ∧ ∃ τ', f_X12_takes q τ = some (nI 1, τ') ∧ y_mw τ' B n (0, y_e B n r.2) ∧ y_fm 8 13 1 0 τ τ') ∨ (¬ (r.1 = 0 ∧ y_sp L B n r.2 = true) ∧ f_X12_takes q τ = some (nI 0, τ)) := by
  unfold f_X12_takes
  rw [ym_is hL h, j_b1_s]
  by_cases c : r.1 = 0 ∧ y_sp L B n r.2 = true
  · left
    obtain ⟨r1, r2⟩ := r
    obtain ⟨c1, c2⟩ := c
    simp only at c1 c2
    subst c1
    obtain ⟨τ', e1, e2, e3⟩ := ym_advR h
    refine ⟨rfl, c2, τ', ?_, e2, e3.wide (by omega) (by omega) (by omega) (by omega)⟩
    rw [if_pos (⟨rfl, c2⟩ : (0, r2).1 = 0 ∧ y_sp L B n (0, r2).2 = true), if_pos (show ¬ nI 1 = (0 : Int32) by decide), e1, j_b1_s, y_bo1]
  · right
    refine ⟨c, ?_⟩
    rw [if_neg c, if_neg (show ¬ ¬ nI 0 = (0 : Int32) from fun z => z rfl), y_bo0]
theorem ym_needs {τ : j_G} {q : Nat} {L : List Int32} {x : (Nat × Nat) × List Nat} (hL : y_str q L) (hne : L ≠ []) (h : y_mw τ B n x.1) :
    ∃ τ', f_X12_needs q τ = some τ' ∧ y_mw τ' B n (y_stp B n J (some L) x).1 ∧ y_fm 8 13 1 0 τ τ' := by
  obtain ⟨⟨r1, r2⟩, vs⟩ := x
  unfold f_X12_needs
  rcases ym_takes hL hne h vs with ⟨c1, c2, τ', e1, e2, e3⟩ | ⟨c, e⟩
  · simp only at c1 c2
    subst c1
    rw [e1, j_b2_s, if_neg (show ¬ nI 1 = (0 : Int32) by decide), y_stp_w hne, if_pos c2]
    exact ⟨τ', rfl, e2, e3⟩
  · obtain ⟨τ', e1, e2, e3⟩ := ym_errs (k := 1) (by omega) (by omega) h
    rw [e, j_b2_s, if_pos (show nI 0 = (0 : Int32) from rfl), show (1 : Int32) = nI 1 from rfl, e1]
    refine ⟨τ', rfl, ?_, e3.wide (by omega) (by omega) (by omega) (by omega)⟩
    by_cases c1 : r1 = 0
    · subst c1
      rw [y_stp_w hne, if_neg (fun z => c ⟨rfl, z⟩)]
      exact e2
    · rw [y_stp_bad (show ((r1, r2), vs).1.1 ≠ 0 from c1)]
      simp only [if_neg c1] at e2
      exact e2
/-- the end of a line -/
theorem ym_semi {τ : j_G} {x : (Nat × Nat) × List Nat} (h : y_mw τ B n x.1) :
    ∃ τ1 τ2, (j_b1 (if (¬ (f_X12_good τ) = 0) ∧ (¬ (τ.1 75 10) = (3 : Int32)) then (j_b1 (f_X12_errs (1 : Int32) τ) fun σ5 => some σ5) else (some τ)) fun σ4 => some σ4) = some τ1 ∧
      (j_b1 (if ¬ (f_X12_good τ1) = 0 then (j_b1 (f_X12_advance τ1) fun σ7 => some σ7) else (some τ1)) fun σ6 => some σ6) = some τ2 ∧ y_mw τ2 B n (y_stp B n J (some []) x).1 ∧ y_fm 8 13 1 0 τ τ2 := by
  obtain ⟨⟨r1, r2⟩, vs⟩ := x
  rw [ym_good h]
  by_cases c : r1 = 0
  · subst c
    obtain ⟨g1, g2, q9, q8, q10, q11⟩ := h.2.2.2.1 rfl
    have kc : y_kd B n r2 ≤ 4 := by
      unfold y_kd; split
      · omega
      · exact y_cl_c B _
    by_cases k : y_kd B n r2 = 3
    · rw [if_neg (show ¬ (¬ (if ((0, r2), vs).1.1 = 0 then nI 1 else nI 0) = (0 : Int32) ∧ ¬ τ.1 75 10 = (3 : Int32)) from fun z => z.2 (by rw [q10]; show nI (y_kd B n r2) = _; rw [k]; rfl))]
      obtain ⟨τ', e1, e2, e3⟩ := ym_advR h
      refine ⟨τ, τ', rfl, ?_, ?_, e3.wide (by omega) (by omega) (by omega) (by omega)⟩
      · rw [ym_good h, if_pos (show ((0, r2), vs).1.1 = 0 from rfl), if_pos (show ¬ nI 1 = (0 : Int32) by decide), e1]; rfl
      · rw [y_stp_s, if_pos k]; exact e2
    · rw [if_pos (show (¬ (if ((0, r2), vs).1.1 = 0 then nI 1 else nI 0) = (0 : Int32) ∧ ¬ τ.1 75 10 = (3 : Int32)) from ⟨by rw [if_pos rfl]; decide, by rw [q10, show (3 : Int32) = nI 3 from rfl, y_eq (by show y_kd B n r2 < _; omega) (by omega)]; exact k⟩)]
      obtain ⟨τ', e1, e2, e3⟩ := ym_errs (k := 1) (by omega) (by omega) h
      refine ⟨τ', τ', ?_, ?_, ?_, e3.wide (by omega) (by omega) (by omega) (by omega)⟩
      · rw [show (1 : Int32) = nI 1 from rfl, e1]; rfl
      · rw [ym_good e2, if_neg (show ¬ (if ((0, r2), vs).1.1 = 0 then (1, y_s B n ((0, r2), vs).1.2) else ((0, r2), vs).1).1 = 0 from fun z => by simp at z), if_neg (show ¬ ¬ nI 0 = (0 : Int32) from fun z => z rfl)]; rfl
      · rw [y_stp_s, if_neg k]; exact e2
  · rw [if_neg (show ¬ (¬ (if ((r1, r2), vs).1.1 = 0 then nI 1 else nI 0) = (0 : Int32) ∧ ¬ τ.1 75 10 = (3 : Int32)) from fun z => z.1 (by rw [if_neg (show ¬ ((r1, r2), vs).1.1 = 0 from c)]; rfl))]
    refine ⟨τ, τ, rfl, ?_, ?_, y_fm.refl⟩
    · rw [ym_good h, if_neg (show ¬ ((r1, r2), vs).1.1 = 0 from c), if_neg (show ¬ ¬ nI 0 = (0 : Int32) from fun z => z rfl)]; rfl
    · rw [y_stp_bad (show ((r1, r2), vs).1.1 ≠ 0 from c)]; exact h
/-- a number lo .. h - 1 -/
theorem ym_numR {τ : j_G} {x : (Nat × Nat) × List Nat} {lo hi : Nat} (hh : hi ≤ 99999) (hlo : lo ≤ 99999) (hJ : x.1.1 = 0 → ∀ v, J x.2 v = y_jr lo hi v) (h : y_mw τ B n x.1) :
    ∃ v τ', f_X12_number (nI lo) (nP hi) τ = some (v, τ') ∧ y_mw τ' B n (y_stp B n J none x).1 ∧ y_fm 8 13 1 0 τ τ' ∧ ((y_stp B n J none x).1.1 = 0 → v = nI (y_val B n x.1.2) ∧ (y_stp B n J none x).2 = x.2 ++ [y_val B n x.1.2] ∧ lo ≤ y_val B n x.1.2 ∧ y_val B n x.1.2 < hi) := by
  obtain ⟨⟨r1, r2⟩, vs⟩ := x
  have i0 : ¬ ¬ nI 0 = (0 : Int32) := fun z => z rfl
  have i1 : ¬ nI 1 = (0 : Int32) := by decide
  have vl := y_val_le B n r2
  have badN : ∀ (τ : j_G) (r : Nat × Nat), r.1 ≠ 0 → y_mw τ B n r → (j_b1 (if (¬ (f_X12_good τ) = 0) ∧ ((f_X12_in ((τ.1 75 11)).toInt64 (nI lo).toInt64 (nP hi).toInt64) = 0) then (j_b1 (f_X12_errs (2 : Int32) τ) fun σ4 => some σ4) else (some τ)) fun σ3 =>
      if (f_X12_good σ3) = 0 then (some ((0 : Int32), σ3)) else (j_lt (σ3.1 75 11) fun v5 => j_b1 (f_X12_advance σ3) fun σ6 => some (v5, σ6))) = some (0, τ) := by
    intro τ r hr hm
    have g := ym_good hm
    rw [if_neg hr] at g
    rw [if_neg (fun z => z.1 (by rw [g]; rfl)), j_b1_s, if_pos (by rw [g]; rfl)]
  unfold f_X12_number
  by_cases c : r1 = 0
  · subst c
    obtain ⟨g1, g2, q9, q8, q10, q11⟩ := h.2.2.2.1 rfl
    have kc : y_kd B n r2 ≤ 4 := by
      unfold y_kd; split
      · omega
      · exact y_cl_c B _
    have g := ym_good h
    rw [if_pos rfl] at g
    rw [y_stp_n]
    by_cases k : y_kd B n r2 = 2
    · rw [if_neg (show ¬ y_kd B n r2 ≠ 2 from fun z => z k)]
      rw [if_neg (show ¬ (¬ f_X12_good τ = (0 : Int32) ∧ ¬ τ.1 75 10 = (2 : Int32)) from fun z => z.2 (by rw [q10]; show nI (y_kd B n r2) = _; rw [k]; rfl)), j_b1_s]
      have e11 : τ.1 75 11 = nI (min 99999 (y_val B n r2)) := q11 k
      rw [e11, y_in, hJ rfl]
      by_cases w : lo ≤ y_val B n r2 ∧ y_val B n r2 < hi
      · have em : min 99999 (y_val B n r2) = y_val B n r2 := by omega
        rw [em, if_pos (show ¬ nI (y_val B n r2) < nI lo ∧ ¬ nP hi < nI (y_val B n r2) by rw [y_lt (by omega) (by omega), y_ltP (by omega) (by omega)]; omega), if_neg (fun z => i1 z.2), j_b1_s, if_neg (by rw [g]; exact i1)]
        obtain ⟨τ', e1, e2, e3⟩ := ym_advR h
        simp only [j_lt]
        rw [e11, em, e1, j_b1_s]
        have j0 : y_jr lo hi (y_val B n r2) = 0 := if_pos w
        rw [j0, if_neg (fun z => z rfl)]
        exact ⟨_, τ', rfl, e2, e3.wide (by omega) (by omega) (by omega) (by omega), fun _ => ⟨rfl, rfl, w.1, w.2⟩⟩
      · have j2 : y_jr lo hi (y_val B n r2) = 2 := if_neg w
        rw [if_neg (show ¬ (¬ nI (min 99999 (y_val B n r2)) < nI lo ∧ ¬ nP hi < nI (min 99999 (y_val B n r2))) by rw [y_lt (by omega) (by omega), y_ltP (by omega) (by omega)]; omega), if_pos ⟨by rw [g]; exact i1, rfl⟩]
        obtain ⟨τ', e1, e2, e3⟩ := ym_errs (k := 2) (by omega) (by omega) h
        rw [show (2 : Int32) = nI 2 from rfl, e1, j_b1_s, j_b1_s, j2, if_pos (show (2 : Nat) ≠ 0 by omega)]
        have gg := ym_good e2
        rw [if_neg (show ¬ (if ((0, r2), vs).1.1 = 0 then (2, y_s B n ((0, r2), vs).1.2) else ((0, r2), vs).1).1 = 0 from fun z => by simp at z)] at gg
        rw [if_pos (show f_X12_good τ' = (0 : Int32) by rw [gg]; rfl)]
        exact ⟨_, τ', rfl, e2, e3.wide (by omega) (by omega) (by omega) (by omega), fun z => absurd z (by show ¬ (2 : Nat) = 0; omega)⟩
    · rw [if_pos (show y_kd B n r2 ≠ 2 from k)]
      rw [if_pos (show (¬ f_X12_good τ = (0 : Int32) ∧ ¬ τ.1 75 10 = (2 : Int32)) from ⟨by rw [g]; exact i1, by rw [q10, show (2 : Int32) = nI 2 from rfl, y_eq (by show y_kd B n r2 < _; omega) (by omega)]; exact k⟩)]
      obtain ⟨τ', e1, e2, e3⟩ := ym_errs (k := 1) (by omega) (by omega) h
      rw [show (1 : Int32) = nI 1 from rfl, e1, j_b1_s, j_b1_s, badN τ' _ (by simp) e2]
      exact ⟨_, τ', rfl, e2, e3.wide (by omega) (by omega) (by omega) (by omega), fun z => absurd z (by show ¬ (1 : Nat) = 0; omega)⟩
  · have g := ym_good h
    rw [if_neg (show ¬ ((r1, r2), vs).1.1 = 0 from c)] at g
    rw [if_neg (fun z => z.1 (by rw [g]; rfl)), j_b1_s, badN τ _ c h, y_stp_bad (show ((r1, r2), vs).1.1 ≠ 0 from c)]
    exact ⟨_, τ, rfl, h, y_fm.refl, fun z => absurd z c⟩
theorem y_stp_w2 {L : List Int32} {x : (Nat × Nat) × List Nat} (hne : L ≠ []) : (y_stp B n J (some L) x).2 = x.2 := by
  obtain ⟨⟨r1, r2⟩, vs⟩ := x
  by_cases c : r1 = 0
  · subst c; rw [y_stp_w hne]; split <;> rfl
  · rw [y_stp_bad (show ((r1, r2), vs).1.1 ≠ 0 from c)]
theorem y_stp_J {J' : List Nat → Nat → Nat} {x : (Nat × Nat) × List Nat} (h : x.1.1 = 0 → y_kd B n x.1.2 = 2 → J x.2 (y_val B n x.1.2) = J' x.2 (y_val B n x.1.2)) : y_stp B n J none x = y_stp B n J' none x := by
  obtain ⟨⟨r1, r2⟩, vs⟩ := x
  by_cases c : r1 = 0
  · subst c
    rw [y_stp_n, y_stp_n]
    by_cases k : y_kd B n r2 = 2
    · have e : J vs (y_val B n r2) = J' vs (y_val B n r2) := h rfl k
      rw [e]
    · rw [if_pos (show y_kd B n r2 ≠ 2 from k), if_pos (show y_kd B n r2 ≠ 2 from k)]
  · rw [y_stp_bad (show ((r1, r2), vs).1.1 ≠ 0 from c), y_stp_bad (show ((r1, r2), vs).1.1 ≠ 0 from c)]
theorem y_stp_good {it : Option (List Int32)} {x : (Nat × Nat) × List Nat} (h : (y_stp B n J it x).1.1 = 0) : x.1.1 = 0 := y_gq_good (l := [it]) h
/-- told: a word, and a number behind it -/
theorem ym_toldR {τ : j_G} {q : Nat} {L : List Int32} {x : (Nat × Nat) × List Nat} {lo hi : Nat} (hL : y_str q L) (hne : L ≠ []) (hh : hi ≤ 99999) (hlo : lo ≤ 99999) (hJ : x.1.1 = 0 → ∀ v, J x.2 v = y_jr lo hi v) (h : y_mw τ B n x.1) :
    ∃ v τ', f_X12_told q (nI lo) (nP hi) τ = some (v, τ') ∧ y_mw τ' B n (y_gq B n J [some L, none] x).1 ∧ y_fm 8 13 1 0 τ τ' ∧ ((y_gq B n J [some L, none] x).1.1 = 0 → ∃ w, v = nI w ∧ (y_gq B n J [some L, none] x).2 = x.2 ++ [w] ∧ lo ≤ w ∧ w < hi) := by
  have e2 := y_stp_w2 (B := B) (n := n) (J := J) (x := x) hne
  obtain ⟨τ1, a1, a2, a3⟩ := ym_needs (J := J) hL hne h
  obtain ⟨v, τ2, b1, b2, b3, b4⟩ := ym_numR (J := J) (x := y_stp B n J (some L) x) hh hlo (fun z => by rw [e2]; exact hJ (y_stp_good z)) a2
  unfold f_X12_told
  rw [a1, j_b1_s, b1, j_b2_s]
  refine ⟨v, τ2, rfl, b2, a3.trans b3, fun z => ?_⟩
  obtain ⟨c1, c2, c3, c4⟩ := b4 z
  rw [e2] at c2
  exact ⟨_, c1, c2, c3, c4⟩
end O
