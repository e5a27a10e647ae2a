/-! ===== the reference's line, by kinds ===== -/
section R
variable {B : Nat → Int32} {n : Nat}
theorem y_b1id {α : Type} {o : Option α} : j_b1 o (fun s => some s) = o := by cases o <;> rfl
theorem ym_nxk {τ : j_G} {b : Nat → Nat} {p : Nat} (hW : y_W b) (on : 0 < b 9) (h : y_mw τ B n (0, p)) (hm : y_mb (τ.1 81) b) : ∀ k, k < 8 → k ≠ 0 → y_kn B n p = k → ¬ y_full b k →
    ∃ τ', f_X12_readNext τ = some τ' ∧ y_mw τ' B n (y_gq B n (y_qk b k) (y_ii k) ((0, y_e B n p), [])).1 ∧ y_fl τ τ' ∧
      ((y_gq B n (y_qk b k) (y_ii k) ((0, y_e B n p), [])).1.1 = 0 → y_okv b k (y_gq B n (y_qk b k) (y_ii k) ((0, y_e B n p), [])).2 ∧ y_mb (τ'.1 81) (y_lap b k (y_gq B n (y_qk b k) (y_ii k) ((0, y_e B n p), [])).2)) := by
  intro k hk k0 hkn hf
  have b5 := hW.b5
  have b6 := hW.b6
  have i0 : ¬ ¬ nI 0 = (0 : Int32) := fun z => z rfl
  have i1 : ¬ nI 1 = (0 : Int32) := by decide
  have gd := ym_good h
  rw [if_pos (show (0, p).1 = 0 from rfl)] at gd
  obtain ⟨τ2, d0, d1⟩ := ym_pre hW h hm
  have e : τ2 = τ := by
    rw [hkn] at d1
    rcases d1 with d | d | d
    · exact d.2.2
    · have := d.1; omega
    · exact absurd d.2.1 hf
  subst e
  have no : ∀ j q, j < 8 → q = 2000000 + y_fw j → k ≠ j → f_X12_takes q τ2 = some (nI 0, τ2) := fun j q a c d => ym_tkn h a c (fun z => d (by omega))
  have ye : ∀ q, q = 2000000 + y_fw k → ∃ τ', f_X12_takes q τ2 = some (nI 1, τ') ∧ y_mw τ' B n (0, y_e B n p) ∧ y_fm 8 13 1 0 τ2 τ' := fun q c => ym_tky h hk c hkn
  obtain rfl | rfl | rfl | rfl | rfl | rfl | rfl : k = 1 ∨ k = 2 ∨ k = 3 ∨ k = 4 ∨ k = 5 ∨ k = 6 ∨ k = 7 := by omega
  · obtain ⟨τ1, t1, t2, t3⟩ := ye 2000016 rfl
    obtain ⟨τ', e1, e2, e3, e4⟩ := ym_rstay hW on t2 (hm.fm t3)
    have cv : y_gq B n (y_qk b 1) (y_ii 1) ((0, y_e B n p), []) = y_gq B n (y_q1 b) [none, some (y_L 20), none] ((0, y_e B n p), []) := rfl
    rw [cv]
    clear cv
    generalize y_gq B n (y_q1 b) [none, some (y_L 20), none] ((0, y_e B n p), []) = X at *
    refine ⟨τ', ?_, e2, y_fm.trans (y_fl.of t3) e3, fun z => ?_⟩
    · unfold f_X12_readNext
      refine Eq.trans (d0 _) ?_
      rw [gd, if_neg i1, t1, j_b2_s, if_pos i1, e1, j_b1_s]
    · obtain ⟨w0, w1, q, g0, g1, g2, g3⟩ := e4 z
      rw [q]
      exact ⟨⟨w0, w1, rfl, g0, g1, g2⟩, g3⟩
  · obtain ⟨τ1, t1, t2, t3⟩ := ye 2000017 rfl
    obtain ⟨τ', e1, e2, e3, e4⟩ := ym_rshut hW on t2 (hm.fm t3)
    have cv : y_gq B n (y_qk b 2) (y_ii 2) ((0, y_e B n p), []) = y_gq B n (y_q2 b) [none] ((0, y_e B n p), []) := rfl
    rw [cv]
    clear cv
    generalize y_gq B n (y_q2 b) [none] ((0, y_e B n p), []) = X at *
    refine ⟨τ', ?_, e2, y_fm.trans (y_fl.of t3) e3, fun z => ?_⟩
    · unfold f_X12_readNext
      refine Eq.trans (d0 _) ?_
      rw [gd, if_neg i1, no 1 2000016 (by omega) rfl (by omega), j_b2_s, if_neg i0, t1, j_b2_s, if_pos i1, e1, j_b1_s]
    · obtain ⟨w0, q, g0, g1, g2, g3⟩ := e4 z
      rw [q]
      exact ⟨⟨w0, rfl, g0, g1, g2⟩, g3⟩
  · obtain ⟨τ1, t1, t2, t3⟩ := ye 2000013 rfl
    have n5 : b 5 ≠ 24 := fun z => hf (Or.inl ⟨by omega, by omega, z⟩)
    obtain ⟨τ', e1, e2, e3, e4⟩ := ym_rcom1 (r := 0) hW on (by omega) (by omega) t2 (hm.fm t3)
    have e1' : f_X12_readComing (0 : Int32) (0 : Int32) τ1 = some τ' := e1
    have cv : y_gq B n (y_qk b 3) (y_ii 3) ((0, y_e B n p), []) = y_gq B n (fun _ v => y_qo b v) [none] ((0, y_e B n p), []) := rfl
    rw [cv]
    clear cv
    generalize y_gq B n (fun _ v => y_qo b v) [none] ((0, y_e B n p), []) = X at *
    refine ⟨τ', ?_, e2, y_fm.trans (y_fl.of t3) e3, fun z => ?_⟩
    · unfold f_X12_readNext
      refine Eq.trans (d0 _) ?_
      rw [gd, if_neg i1, no 1 2000016 (by omega) rfl (by omega), j_b2_s, if_neg i0, no 2 2000017 (by omega) rfl (by omega), j_b2_s, if_neg i0, t1, j_b2_s, if_pos i1, e1', j_b1_s]
    · obtain ⟨w0, q, g0, g1, g3⟩ := e4 z
      rw [q]
      exact ⟨⟨w0, rfl, g0, g1⟩, g3⟩
  · obtain ⟨τ1, t1, t2, t3⟩ := ye 2000014 rfl
    have n5 : b 5 ≠ 24 := fun z => hf (Or.inl ⟨by omega, by omega, z⟩)
    obtain ⟨τ', e1, e2, e3, e4⟩ := ym_rcom1 (r := 1) hW on (by omega) (by omega) t2 (hm.fm t3)
    have e1' : f_X12_readComing (1 : Int32) (0 : Int32) τ1 = some τ' := e1
    have cv : y_gq B n (y_qk b 4) (y_ii 4) ((0, y_e B n p), []) = y_gq B n (fun _ v => y_qo b v) [none] ((0, y_e B n p), []) := rfl
    rw [cv]
    clear cv
    generalize y_gq B n (fun _ v => y_qo b v) [none] ((0, y_e B n p), []) = X at *
    refine ⟨τ', ?_, e2, y_fm.trans (y_fl.of t3) e3, fun z => ?_⟩
    · unfold f_X12_readNext
      refine Eq.trans (d0 _) ?_
      rw [gd, if_neg i1, no 1 2000016 (by omega) rfl (by omega), j_b2_s, if_neg i0, no 2 2000017 (by omega) rfl (by omega), j_b2_s, if_neg i0, no 3 2000013 (by omega) rfl (by omega), j_b2_s, if_neg i0, t1, j_b2_s, if_pos i1, e1', j_b1_s]
    · obtain ⟨w0, q, g0, g1, g3⟩ := e4 z
      rw [q]
      exact ⟨⟨w0, rfl, g0, g1⟩, g3⟩
  · obtain ⟨τ1, t1, t2, t3⟩ := ye 2000015 rfl
    have n5 : b 5 ≠ 24 := fun z => hf (Or.inl ⟨by omega, by omega, z⟩)
    obtain ⟨τ', e1, e2, e3, e4⟩ := ym_rcom2 hW on (by omega) t2 (hm.fm t3)
    have cv : y_gq B n (y_qk b 5) (y_ii 5) ((0, y_e B n p), []) = y_gq B n (y_q5 b) [none, none] ((0, y_e B n p), []) := rfl
    rw [cv]
    clear cv
    generalize y_gq B n (y_q5 b) [none, none] ((0, y_e B n p), []) = X at *
    refine ⟨τ', ?_, e2, y_fm.trans (y_fl.of t3) e3, fun z => ?_⟩
    · unfold f_X12_readNext
      refine Eq.trans (d0 _) ?_
      rw [gd, if_neg i1, no 1 2000016 (by omega) rfl (by omega), j_b2_s, if_neg i0, no 2 2000017 (by omega) rfl (by omega), j_b2_s, if_neg i0, no 3 2000013 (by omega) rfl (by omega), j_b2_s, if_neg i0, no 4 2000014 (by omega) rfl (by omega), j_b2_s, if_neg i0, t1, j_b2_s, if_pos i1, e1, j_b1_s]
    · obtain ⟨w0, w1, q, g0, g1, g2, g3, g4, g5⟩ := e4 z
      rw [q]
      exact ⟨⟨w0, w1, rfl, g0, g1, g2, g3, g4⟩, g5⟩
  · obtain ⟨τ1, t1, t2, t3⟩ := ye 2000018 rfl
    have n6 : b 6 ≠ 4 := fun z => hf (Or.inr ⟨rfl, z⟩)
    obtain ⟨τ', e1, e2, e3, e4⟩ := ym_rplayer hW on (by omega) t2 (hm.fm t3)
    have cv : y_gq B n (y_qk b 6) (y_ii 6) ((0, y_e B n p), []) = y_gq B n (y_q6 b) [some (y_L 21), none, some (y_L 22), none, some (y_L 23), none, some (y_L 24), none, some (y_L 25), none] ((0, y_e B n p), []) := rfl
    rw [cv]
    clear cv
    generalize y_gq B n (y_q6 b) [some (y_L 21), none, some (y_L 22), none, some (y_L 23), none, some (y_L 24), none, some (y_L 25), none] ((0, y_e B n p), []) = X at *
    refine ⟨τ', ?_, e2, y_fm.trans (y_fl.of t3) e3, fun z => ?_⟩
    · unfold f_X12_readNext
      refine Eq.trans (d0 _) ?_
      rw [gd, if_neg i1, no 1 2000016 (by omega) rfl (by omega), j_b2_s, if_neg i0, no 2 2000017 (by omega) rfl (by omega), j_b2_s, if_neg i0, no 3 2000013 (by omega) rfl (by omega), j_b2_s, if_neg i0, no 4 2000014 (by omega) rfl (by omega), j_b2_s, if_neg i0, no 5 2000015 (by omega) rfl (by omega), j_b2_s, if_neg i0, t1, j_b2_s, if_pos i1, e1, j_b1_s]
    · obtain ⟨w0, w1, w2, w3, w4, q, g0, g1, g2, g3, g4, g5⟩ := e4 z
      rw [q]
      exact ⟨⟨w0, w1, w2, w3, w4, rfl, g0, g1, g2, g3, g4⟩, g5⟩
  · obtain ⟨τ1, t1, t2, t3⟩ := ym_advR h
    have t3' : y_fm 8 13 1 0 τ2 τ1 := t3.wide (by omega) (by omega) (by omega) (by omega)
    obtain ⟨τ', e1, e2, e3, e4⟩ := ym_rtick t2 (hm.fm t3')
    have cv : y_gq B n (y_qk b 7) (y_ii 7) ((0, y_e B n p), []) = y_gq B n y_q7 [none, some (y_L 26), none] ((0, y_e B n p), []) := rfl
    rw [cv]
    clear cv
    generalize y_gq B n y_q7 [none, some (y_L 26), none] ((0, y_e B n p), []) = X at *
    refine ⟨τ', ?_, e2, y_fm.trans (y_fl.of t3') e3, fun z => ?_⟩
    · unfold f_X12_readNext
      refine Eq.trans (d0 _) ?_
      rw [gd, if_neg i1, no 1 2000016 (by omega) rfl (by omega), j_b2_s, if_neg i0, no 2 2000017 (by omega) rfl (by omega), j_b2_s, if_neg i0, no 3 2000013 (by omega) rfl (by omega), j_b2_s, if_neg i0, no 4 2000014 (by omega) rfl (by omega), j_b2_s, if_neg i0, no 5 2000015 (by omega) rfl (by omega), j_b2_s, if_neg i0, no 6 2000018 (by omega) rfl (by omega), j_b2_s, if_neg i0, t1, j_b1_s]
      exact e1
    · obtain ⟨w0, w1, q, g0, g1, g2⟩ := e4 z
      rw [q]
      exact ⟨⟨w0, w1, rfl, g0, g1⟩, g2⟩
theorem ym_body {τ : j_G} {b : Nat → Nat} {p : Nat} (hW : y_W b) (h : y_mw τ B n (0, p)) (hm : y_mb (τ.1 81) b) :
    ∃ τ1 X, (if (τ.1 81 ((9 : Int32)).toNatClampNeg) = 0 then (j_b1 (f_X12_readFirst τ) fun σ2 => some σ2) else (j_b1 (f_X12_readNext τ) fun σ3 => some σ3)) = some τ1 ∧ y_mw τ1 B n X.1 ∧ y_fl τ τ1 ∧
      y_lr B n b p = y_stp B n (y_qk b (y_kn B n p)) (some []) X ∧ (X.1.1 = 0 → y_okv b (y_kn B n p) X.2 ∧ y_mb (τ1.1 81) (y_lap b (y_kn B n p) X.2)) := by
  have b9 := hW.b9
  have kl := y_kn_le (B := B) (n := n) (p := p)
  have e9 : τ.1 81 ((9 : Int32)).toNatClampNeg = nI (b 9) := hm.f (j := 9) (by omega)
  rw [e9, y_b1id, y_b1id]
  by_cases c : b 9 = 0
  · rw [c, if_pos (show nI 0 = (0 : Int32) from rfl)]
    obtain ⟨τ', e1, e2, e3, e4⟩ := ym_first h hm
    have cv : y_gq B n y_q0 [some (y_L 8), some (y_L 9), none, some (y_L 10), none, some (y_L 11), none, some (y_L 12), none] ((0, p), []) = y_gq B n y_q0 (y_ii 0) (y_stp B n y_q0 (some (y_L 8)) ((0, p), [])) := rfl
    rw [cv] at e2 e4
    clear cv
    have ki := y_kn_iff (B := B) (n := n) (p := p) (k := 0) (by omega)
    rw [show y_fw 0 = 8 from rfl] at ki
    rw [y_stp_w (y_ne 8 (by omega))] at e2 e4
    by_cases d : y_kn B n p = 0
    · rw [if_pos (ki.mpr d)] at e2 e4
      refine ⟨τ', _, e1, e2, e3, ?_, fun z => ?_⟩
      · rw [y_lr_go (by omega) (by rw [d]; exact fun z => by omega), d, y_ii_it, y_gq_app]
        rfl
      · obtain ⟨w0, w1, w2, w3, q, g0, g1, g2, g3, g4⟩ := e4 z
        rw [d, q]
        exact ⟨⟨w0, w1, w2, w3, rfl, g0, g1, g2, g3⟩, g4⟩
    · rw [if_neg (fun z => d (ki.mp z)), y_gq_bad (show ((1, y_s B n p), ([] : List Nat)).1.1 ≠ 0 by show (1 : Nat) ≠ 0; omega)] at e2
      refine ⟨τ', ((1, y_s B n p), []), e1, e2, e3, ?_, fun z => absurd z (by show ¬ (1 : Nat) = 0; omega)⟩
      rw [y_lr_bad (by omega), y_stp_bad (show ((1, y_s B n p), ([] : List Nat)).1.1 ≠ 0 by show (1 : Nat) ≠ 0; omega)]
  · rw [if_neg (show ¬ nI (b 9) = (0 : Int32) by rw [show (0 : Int32) = nI 0 from rfl, y_eq (by omega) (by omega)]; exact c)]
    obtain ⟨τ2, d0, d1⟩ := ym_pre hW h hm
    have bad : ∀ k, 0 < k → y_mw τ2 B n (k, y_s B n p) → f_X12_readNext τ = some τ2 := by
      intro k hk hw
      unfold f_X12_readNext
      refine Eq.trans (d0 _) ?_
      rw [ym_good hw, if_neg (show ¬ (k, y_s B n p).1 = 0 by show ¬ k = 0; omega), if_pos (show nI 0 = (0 : Int32) from rfl)]
    rcases d1 with ⟨g0, g1, g2⟩ | ⟨g0, g1, g2⟩ | ⟨g0, g1, g2, g3⟩
    · obtain ⟨τ', e1, e2, e3, e4⟩ := ym_nxk hW (by omega) h hm (y_kn B n p) (by omega) (by omega) rfl g1
      refine ⟨τ', _, e1, e2, e3, ?_, e4⟩
      rw [y_lr_go (by omega) g1, y_ii_it, y_gq_app]
      rfl
    · refine ⟨τ2, ((1, y_s B n p), []), bad 1 (by omega) g1, g1, y_fl.of g2, ?_, fun z => absurd z (by show ¬ (1 : Nat) = 0; omega)⟩
      rw [y_lr_bad (by omega), y_stp_bad (show ((1, y_s B n p), ([] : List Nat)).1.1 ≠ 0 by show (1 : Nat) ≠ 0; omega)]
    · refine ⟨τ2, ((3, y_s B n p), []), bad 3 (by omega) g2, g2, y_fl.of g3, ?_, fun z => absurd z (by show ¬ (3 : Nat) = 0; omega)⟩
      rw [y_lr_full (by omega) g1, y_stp_bad (show ((3, y_s B n p), ([] : List Nat)).1.1 ≠ 0 by show (3 : Nat) ≠ 0; omega)]
theorem ym_line {τ : j_G} {b : Nat → Nat} {p : Nat} (hW : y_W b) (h : y_mw τ B n (0, p)) (hm : y_mb (τ.1 81) b) :
    ∃ τ', f_X12_readLine τ = some τ' ∧ y_mw τ' B n (y_lr B n b p).1 ∧ y_fl τ τ' ∧ ((y_lr B n b p).1.1 = 0 → y_okv b (y_kn B n p) (y_lr B n b p).2 ∧ y_mb (τ'.1 81) (y_l9 (y_lap b (y_kn B n p) (y_lr B n b p).2))) := by
  obtain ⟨τ1, X, a1, a2, a3, a4, a5⟩ := ym_body hW h hm
  obtain ⟨τ2, τ3, s1, s2, s3, s4⟩ := ym_semi (J := y_qk b (y_kn B n p)) a2
  have s1' := (y_b1id).symm.trans s1
  have s2' := (y_b1id).symm.trans s2
  have i9 : ∀ (o : Option j_G), j_ix (9 : Int32) 116 o = o := fun o => y_i81 (k := 9) (by omega)
  rw [a4]
  refine ⟨j_si τ3 81 9 (τ3.1 81 9 + 1), ?_, s3.s81, y_fl.s (y_fl.t a3 s4), fun z => ?_⟩
  · unfold f_X12_readLine
    rw [i9, a1, j_b1_s, s1', j_b1_s, s2', j_b1_s, i9, i9]
    rfl
  · have x0 := y_stp_good z
    obtain ⟨o1, o2⟩ := a5 x0
    have e2 : (y_stp B n (y_qk b (y_kn B n p)) (some []) X).2 = X.2 := by
      obtain ⟨⟨r1, q⟩, vs⟩ := X
      have r0 : r1 = 0 := x0
      subst r0
      rw [y_stp_s]; split <;> rfl
    rw [e2]
    have m3 := o2.fm s4
    have e9 := m3.f (j := 9) (by omega)
    refine ⟨o1, ?_⟩
    rw [e9, show nI (y_lap b (y_kn B n p) X.2 9) + (1 : Int32) = nI (y_lap b (y_kn B n p) X.2 9 + 1) by simp (disch := omega) only [y_lit, nI_add]]
    exact y_mbs m3 (by omega)
end R
