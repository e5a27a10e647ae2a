/-! ===== the kept cells, and a board changed in one place ===== -/
def y_kc (σ σ' : j_G) : Prop := ∀ c, c = 10 ∨ c = 19 ∨ c = 20 ∨ 43 ≤ c → σ'.1 c = σ.1 c ∧ σ'.2 c = σ.2 c
def y_km (τ τ' : j_G) : Prop := (∀ j, j = 5 ∨ j = 12 ∨ j = 13 → τ'.1 75 j = τ.1 75 j) ∧ ∀ c, c = 77 ∨ c = 78 ∨ c = 79 ∨ c = 94 ∨ c = 95 ∨ c = 96 → τ'.1 c = τ.1 c ∧ τ'.2 c = τ.2 c
theorem y_kc.of {σ σ' : j_G} {lo hi : Nat} (h : y_fr lo hi σ σ') (h1 : 20 < lo ∨ hi < 10) (h2 : hi < 43) : y_kc σ σ' := fun c hc => h c (by omega)
theorem y_kc.trans {σ σ' σ'' : j_G} (h : y_kc σ σ') (h' : y_kc σ' σ'') : y_kc σ σ'' := fun c hc => ⟨(h' c hc).1.trans (h c hc).1, (h' c hc).2.trans (h c hc).2⟩
theorem y_kc.refl {σ : j_G} : y_kc σ σ := fun _ _ => ⟨rfl, rfl⟩
theorem y_km.refl {σ : j_G} : y_km σ σ := ⟨fun _ _ => rfl, fun _ _ => ⟨rfl, rfl⟩⟩
theorem y_km.trans {σ σ' σ'' : j_G} (h : y_km σ σ') (h' : y_km σ' σ'') : y_km σ σ'' :=
  ⟨fun j hj => (h'.1 j hj).trans (h.1 j hj), fun c hc => ⟨(h'.2 c hc).1.trans (h.2 c hc).1, (h'.2 c hc).2.trans (h.2 c hc).2⟩⟩
theorem y_km.of {σ σ' : j_G} {f g lo hi : Nat} (h : y_fm f g lo hi σ σ') (h1 : 13 < f) (h2 : 79 < lo ∨ hi < 77) (h3 : hi < 94) : y_km σ σ' :=
  ⟨fun j hj => h.1 j (by omega), fun c hc => h.2 c (by omega) (by omega)⟩
theorem y_km.w {σ : j_G} {j : Nat} {v : Int32} : y_km σ (j_si σ 76 j v) :=
  ⟨fun j' hj => j_r_ne (by omega), fun c hc => ⟨funext fun j' => j_r_ne (by omega), rfl⟩⟩
theorem y_kc.w {σ : j_G} {c j : Nat} {v : Int32} (hc : c < 10) : y_kc σ (j_si σ c j v) :=
  fun c' hc' => ⟨funext fun j' => j_r_ne (by omega), rfl⟩
theorem y_K.fr2 {σ τ σ' τ' : j_G} (h : y_K σ τ) (h1 : y_kc σ σ') (h2 : y_km τ τ') : y_K σ' τ' := by
  obtain ⟨⟨i0, i1, i2⟩, ⟨s0, s1, s2, s3⟩, ht, hf⟩ := h
  have e77 := (h2.2 77 (by omega)).1
  have e78 := (h2.2 78 (by omega)).1
  have e94 := (h2.2 94 (by omega)).1
  have e95 := (h2.2 95 (by omega)).1
  have e96 := (h2.2 96 (by omega)).2
  refine ⟨⟨i0.fr (fun x hx => (h1 x (by omega)).1) e77 e78, i1.fr (fun x hx => (h1 x (by omega)).1) e77 e78, i2.fr (fun x hx => (h1 x (by omega)).1) e77 e78⟩,
    ⟨s0.fr (h1 67 (by omega)).1 (h1 68 (by omega)).2 e94 e95 e96, s1.fr (h1 69 (by omega)).1 (h1 70 (by omega)).2 e94 e95 e96, s2.fr (h1 71 (by omega)).1 (h1 72 (by omega)).2 e94 e95 e96, s3.fr (h1 73 (by omega)).1 (h1 74 (by omega)).2 e94 e95 e96⟩, ?_, ?_⟩
  · unfold y_tp at *
    rw [(h1 19 (by omega)).1, (h1 20 (by omega)).1, h2.1 5 (by omega), (h2.2 79 (by omega)).1]
    exact ht
  · unfold y_ft at *
    rw [(h1 10 (by omega)).1, h2.1 12 (by omega), h2.1 13 (by omega)]
    exact hf
theorem y_M.set {τ : j_G} {b : Nat → Nat} {j v : Nat} (h : y_M τ b) (hj : ¬ (24 ≤ j ∧ j < 96 ∧ j % 3 = 1)) : y_M (j_si τ 76 j (nI v)) (y_u b j v) := by
  intro i hi
  by_cases e : i = j
  · subst e; rw [j_r_eq, if_neg hj, y_ue]
  · rw [j_r_nj e, y_un e]; exact h i hi
/-- stands -/
theorem y_W.set8 {b : Nat → Nat} {k : Nat} (h : y_W b) (hk : k < b 5) : y_W (y_u b 8 k) := by
  obtain ⟨h1, h2, h3, h4, h5, h6, h7, h8, h9⟩ := h
  unfold y_W y_ho at *
  simp (disch := omega) only [y_ue, y_un]
  exact ⟨h1, h2, h3, fun _ => hk, fun z => by omega, h6, h7, h8, h9⟩
theorem y_N.set8 {σ : j_G} {b : Nat → Nat} {k : Nat} (h : y_N σ b) : y_N (j_si σ 5 1 (nI k)) (y_u b 8 k) := by
  obtain ⟨⟨f1, f2, f3, f4, f5, f6, f7, f10, d0, d1⟩, f8, s, t, c⟩ := h
  unfold y_N y_cb
  refine ⟨?_, ?_, ?_, ?_, ?_⟩
  · simp (disch := omega) only [j_r_ne, j_r_eq, j_r_nj, y_ue, y_un]
    exact ⟨f1, f2, f3, f4, f5, f6, f7, f10, d0, trivial⟩
  · simp (disch := omega) only [j_r_ne, j_r_eq, j_r_nj, y_ue, y_un]; exact f8
  · simp (disch := omega) only [j_r_ne, j_r_eq, j_r_nj, y_ue, y_un]; exact s
  · intro p q hp hq
    simp (disch := omega) only [y_ue, y_un] at hp
    have := t p q hp hq
    simp (disch := omega) only [j_r_ne, j_r_eq, j_r_nj, y_ue, y_un]; exact this
  · simp (disch := omega) only [j_r_ne, j_r_eq, j_r_nj, y_ue, y_un]; exact c
/-- red -/
theorem y_W.setr {b : Nat → Nat} {k v : Nat} (h : y_W b) (hk : k < b 5) (hv : v ≤ 1) (ho : b (25 + 3 * k) = 0) : y_W (y_u b (26 + 3 * k) v) := by
  have b5 := h.b5; have b4 := h.b4; have b6 := h.b6
  obtain ⟨h1, h2, h3, h4, h5, h6, h7, h8, h9⟩ := h
  unfold y_W y_ho at *
  refine ⟨?_, ?_, ?_, ?_, ?_, fun j hj => ?_, fun j l hj hl => ?_, fun j hj => ?_, fun j hj => ?_⟩
  · simp (disch := omega) only [y_un]; exact h1
  · simp (disch := omega) only [y_un]; exact h2
  · simp (disch := omega) only [y_un]; exact h3
  · simp (disch := omega) only [y_un]; exact h4
  · simp (disch := omega) only [y_un]; exact h5
  · simp (disch := omega) only [y_un] at hj; simp (disch := omega) only [y_un]; exact h6 j hj
  · simp (disch := omega) only [y_un] at hl; simp (disch := omega) only [y_un]; exact h7 j l hj hl
  · simp (disch := omega) only [y_un] at hj
    have q := h8 j hj
    by_cases e : j = k
    · subst e; simp (disch := omega) only [y_ue, y_un]
      exact ⟨q.1, q.2.1, q.2.2.1, hv, fun z => by omega, q.2.2.2.2.2.1, q.2.2.2.2.2.2⟩
    · simp (disch := omega) only [y_ue, y_un]; exact q
  · simp (disch := omega) only [y_un] at hj; simp (disch := omega) only [y_un]; exact h9 j hj
theorem y_N.setr {σ : j_G} {b : Nat → Nat} {k v : Nat} (h : y_N σ b) (hW : y_W b) (hk : k < b 5) : y_N (j_si σ 8 k (nI v)) (y_u b (26 + 3 * k) v) := by
  have b5 := hW.b5; have b4 := hW.b4; have b6 := hW.b6
  obtain ⟨⟨f1, f2, f3, f4, f5, f6, f7, f10, d0, d1⟩, f8, s, t, c⟩ := h
  unfold y_N y_cb
  refine ⟨?_, ?_, fun j hj => ?_, fun p q hp hq => ?_, fun j hj => ?_⟩
  · simp (disch := omega) only [j_r_ne, y_un]
    exact ⟨f1, f2, f3, f4, f5, f6, f7, f10, d0, d1⟩
  · simp (disch := omega) only [j_r_ne, y_un]; exact f8
  · simp (disch := omega) only [y_un] at hj; simp (disch := omega) only [j_r_ne, y_un]; exact s j hj
  · simp (disch := omega) only [y_un] at hp
    simp (disch := omega) only [j_r_ne, y_un]; exact t p q hp hq
  · simp (disch := omega) only [y_un] at hj
    have := c j hj
    by_cases e : j = k
    · subst e; simp (disch := omega) only [j_r_ne, j_r_eq, y_ue, y_un]; exact ⟨this.1, this.2.1, trivial⟩
    · simp (disch := omega) only [j_r_ne, j_r_eq, j_r_nj, y_ue, y_un]; exact this
/-- a player's number -/
theorem y_W.sett {b : Nat → Nat} {p q v : Nat} (h : y_W b) (hp : p < b 6) (hq : q < 5) (hv : (q = 0 → 1 ≤ v ∧ v ≤ 9) ∧ (q = 1 → v ≤ 20) ∧ (q = 2 → v ≤ 99) ∧ (q = 3 → v ≤ 9) ∧ (q = 4 → v < y_ho b)) : y_W (y_u b (96 + 5 * p + q) v) := by
  have b5 := h.b5; have b4 := h.b4; have b6 := h.b6
  obtain ⟨h1, h2, h3, h4, h5, h6, h7, h8, h9⟩ := h
  unfold y_W y_ho at *
  refine ⟨?_, ?_, ?_, ?_, ?_, fun j hj => ?_, fun j l hj hl => ?_, fun j hj => ?_, fun j hj => ?_⟩
  · simp (disch := omega) only [y_un]; exact h1
  · simp (disch := omega) only [y_un]; exact h2
  · simp (disch := omega) only [y_un]; exact h3
  · simp (disch := omega) only [y_un]; exact h4
  · simp (disch := omega) only [y_un]; exact h5
  · simp (disch := omega) only [y_un] at hj; simp (disch := omega) only [y_un]; exact h6 j hj
  · simp (disch := omega) only [y_un] at hl; simp (disch := omega) only [y_un]; exact h7 j l hj hl
  · simp (disch := omega) only [y_un] at hj; simp (disch := omega) only [y_un]; exact h8 j hj
  · simp (disch := omega) only [y_un] at hj
    have w := h9 j hj
    have e0 : y_u b (96 + 5 * p + q) v 0 = b 0 := y_un (by omega)
    have e1 : y_u b (96 + 5 * p + q) v 1 = b 1 := y_un (by omega)
    rw [e0, e1]
    unfold y_u
    obtain ⟨v0, v1, v2, v3, v4⟩ := hv
    refine ⟨?_, ?_, ?_, ?_, ?_, ?_⟩ <;> split <;> omega
theorem y_N.sett {σ : j_G} {b : Nat → Nat} {p q v : Nat} (h : y_N σ b) (hW : y_W b) (hp : p < b 6) (hq : q < 5) : y_N (j_si σ 4 (5 * p + q) (nI v)) (y_u b (96 + 5 * p + q) v) := by
  have b5 := hW.b5; have b4 := hW.b4; have b6 := hW.b6
  obtain ⟨⟨f1, f2, f3, f4, f5, f6, f7, f10, d0, d1⟩, f8, s, t, c⟩ := h
  unfold y_N y_cb
  refine ⟨?_, ?_, fun j hj => ?_, fun p' q' hp' hq' => ?_, fun j hj => ?_⟩
  · simp (disch := omega) only [j_r_ne, y_un]
    exact ⟨f1, f2, f3, f4, f5, f6, f7, f10, d0, d1⟩
  · simp (disch := omega) only [j_r_ne, y_un]; exact f8
  · simp (disch := omega) only [y_un] at hj; simp (disch := omega) only [j_r_ne, y_un]; exact s j hj
  · simp (disch := omega) only [y_un] at hp'
    by_cases e : 5 * p' + q' = 5 * p + q
    · rw [e, show 96 + 5 * p' + q' = 96 + 5 * p + q from by omega, j_r_eq, y_ue]
    · rw [j_r_nj e, y_un (by omega)]; exact t p' q' hp' hq'
  · simp (disch := omega) only [y_un] at hj
    simp (disch := omega) only [j_r_ne, y_un]; exact c j hj
