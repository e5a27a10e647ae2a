/-! ===== what a line does to the board told ===== -/
def y_hi (b : Nat → Nat) (v : Nat) : Nat → Nat → Nat
  | 0, k => k
  | m + 1, k => if b (12 + 2 * k) = v then k else y_hi b v m (k + 1)
def y_l9 (b : Nat → Nat) : Nat → Nat := y_u b 9 (b 9 + 1)
def y_bb (b : Nat → Nat) (v0 v1 v2 v3 : Nat) : Nat → Nat := y_u (y_u (y_u (y_u (y_u (y_u b 0 v0) 1 v1) 2 v2) 3 v3) 10 1) 11 100
def y_sb (b : Nat → Nat) (len t : Nat) : Nat → Nat := y_u (y_u (y_u b (12 + 2 * y_hi b t (b 4) 0) t) (13 + 2 * y_hi b t (b 4) 0) len) 4 (if y_hi b t (b 4) 0 < b 4 then b 4 else b 4 + 1)
def y_ac (b : Nat → Nat) (v w r : Nat) : Nat → Nat := y_u (y_u (y_u (y_u b (24 + 3 * b 5) v) (25 + 3 * b 5) w) (26 + 3 * b 5) r) 5 (b 5 + 1)
def y_pb (b : Nat → Nat) (v0 v1 v2 v3 v4 : Nat) : Nat → Nat := y_u (y_u (y_u (y_u (y_u (y_u b (96 + 5 * b 6) v0) (97 + 5 * b 6) v1) (98 + 5 * b 6) v2) (99 + 5 * b 6) v3) (100 + 5 * b 6) v4) 6 (b 6 + 1)
theorem y_hi_sp {b : Nat → Nat} {v : Nat} : ∀ m k, k ≤ y_hi b v m k ∧ y_hi b v m k ≤ k + m ∧ (∀ j, k ≤ j → j < y_hi b v m k → b (12 + 2 * j) ≠ v) ∧ (y_hi b v m k < k + m → b (12 + 2 * y_hi b v m k) = v) ∧ (y_hs b v m k = true ↔ y_hi b v m k < k + m) := by
  intro m
  induction m with
  | zero => intro k; unfold y_hi y_hs; exact ⟨Nat.le_refl _, Nat.le_refl _, fun j a c => by omega, fun z => by omega, ⟨fun z => (by cases z), fun z => by omega⟩⟩
  | succ m ih =>
    intro k
    obtain ⟨i1, i2, i3, i4, i5⟩ := ih (k + 1)
    unfold y_hi y_hs
    by_cases c : b (12 + 2 * k) = v
    · rw [if_pos c, if_pos c]
      exact ⟨Nat.le_refl _, by omega, fun j a c => by omega, fun _ => c, ⟨fun _ => by omega, fun _ => rfl⟩⟩
    · rw [if_neg c, if_neg c]
      refine ⟨by omega, by omega, fun j a d => ?_, fun z => i4 (by omega), ⟨fun z => by have := i5.mp z; omega, fun z => i5.mpr (by omega)⟩⟩
      by_cases e : j = k
      · subst e; exact c
      · exact i3 j (by omega) d
section W
variable {b : Nat → Nat}
theorem y_W.l9 (h : y_W b) (h0 : 0 < b 9) (h9 : b 9 < 1300) : y_W (y_l9 b) := by
  have b4 := h.b4; have b5 := h.b5; have b6 := h.b6
  obtain ⟨⟨a0, a1, a2, a3, a4, a5, a6, a7, a9⟩, h2, h3, h4, h5, h6, h7, h8, h9'⟩ := h
  unfold y_W y_ho y_l9 at *
  refine ⟨?_, ?_, ?_, ?_, ?_, fun j hj => ?_, fun j l hj hl => ?_, fun j hj => ?_, fun j hj => ?_⟩
  · simp (disch := omega) only [y_ue, y_un]; exact ⟨a0, a1, a2, a3, a4, a5, a6, a7, by omega⟩
  · simp (disch := omega) only [y_ue, y_un]; intro z; omega
  · simp (disch := omega) only [y_ue, y_un]; intro _; exact h3 h0
  · simp (disch := omega) only [y_un]; exact h4
  · simp (disch := omega) only [y_un]; exact h5
  · simp (disch := omega) only [y_un] at hj; simp (disch := omega) only [y_un]; exact h6 j hj
  · simp (disch := omega) only [y_un] at hl; simp (disch := omega) only [y_un]; exact h7 j l hj hl
  · simp (disch := omega) only [y_un] at hj; simp (disch := omega) only [y_un]; exact h8 j hj
  · simp (disch := omega) only [y_un] at hj; simp (disch := omega) only [y_un]; exact h9' j hj
theorem y_W.tk (h : y_W b) {v w : Nat} (hv : 1 ≤ v ∧ v ≤ 99) (hw : 1 ≤ w ∧ w ≤ 500) : y_W (y_u (y_u b 10 v) 11 w) := by
  have b4 := h.b4; have b5 := h.b5; have b6 := h.b6
  obtain ⟨h1, h2, h3, h4, h5, h6, h7, h8, h9⟩ := h
  unfold y_W y_ho at *
  refine ⟨?_, ?_, ?_, ?_, ?_, fun j hj => ?_, fun j l hj hl => ?_, fun j hj => ?_, fun j hj => ?_⟩
  · simp (disch := omega) only [y_un]; exact h1
  · simp (disch := omega) only [y_un]; exact h2
  · simp (disch := omega) only [y_ue, y_un]; intro z; have := h3 z; omega
  · simp (disch := omega) only [y_un]; exact h4
  · simp (disch := omega) only [y_un]; exact h5
  · simp (disch := omega) only [y_un] at hj; simp (disch := omega) only [y_un]; exact h6 j hj
  · simp (disch := omega) only [y_un] at hl; simp (disch := omega) only [y_un]; exact h7 j l hj hl
  · simp (disch := omega) only [y_un] at hj; simp (disch := omega) only [y_un]; exact h8 j hj
  · simp (disch := omega) only [y_un] at hj; simp (disch := omega) only [y_un]; exact h9 j hj
theorem y_W.bb (h : y_W b) (h9 : b 9 = 0) {v0 v1 v2 v3 : Nat} (g0 : 1 ≤ v0 ∧ v0 < 5) (g1 : 1 ≤ v1 ∧ v1 < 4) (g2 : 1 ≤ v2 ∧ v2 < 201) (g3 : v3 < 10) : y_W (y_l9 (y_bb b v0 v1 v2 v3)) := by
  obtain ⟨o0, o1, o2, o3, o4, o5, o6⟩ := h.off h9
  have o7 : b 7 = 0 := by
    have := h.1.2.2.2.2.2.2.2.1
    rw [show y_ho b = 0 by unfold y_ho; rw [o0, Nat.zero_mul]] at this
    omega
  have o8 := h.2.2.2.2.1 o5
  unfold y_W y_ho y_l9 y_bb
  refine ⟨?_, ?_, ?_, ?_, ?_, fun j hj => ?_, fun j l hj hl => ?_, fun j hj => ?_, fun j hj => ?_⟩
  · simp (disch := omega) only [y_ue, y_un, o4, o5, o6, o7, h9]
    refine ⟨by omega, by omega, by omega, by omega, by omega, by omega, by omega, Nat.pow_pos (by omega), by omega⟩
  · simp (disch := omega) only [y_ue, y_un, h9]; intro z; omega
  · simp (disch := omega) only [y_ue, y_un]; intro _; omega
  · simp (disch := omega) only [y_un, o5]; intro z; omega
  · simp (disch := omega) only [y_un]; exact fun _ => o8
  · simp (disch := omega) only [y_un, o4] at hj; omega
  · simp (disch := omega) only [y_un, o4] at hl; omega
  · simp (disch := omega) only [y_un, o5] at hj; omega
  · simp (disch := omega) only [y_un, o6] at hj; omega
theorem y_W.ac (h : y_W b) (h5' : b 5 < 24) {v w r : Nat} (hv : v < y_ho b ∧ y_sh b v = 0) (hw : w = 0 ∨ (w ≤ y_ho b ∧ w ≠ v + 1 ∧ y_sh b (w - 1) = 0 ∧ r = 0)) (hr : r ≤ 1) : y_W (y_ac b v w r) := by
  have b4 := h.b4; have b5 := h.b5; have b6 := h.b6
  obtain ⟨⟨a0, a1, a2, a3, a4, a5, a6, a7, a9⟩, h2, h3, h4, h5, h6, h7, h8, h9⟩ := h
  have on : 0 < b 9 := by
    rcases Nat.eq_zero_or_pos (b 9) with z | z
    · have q := h2 z
      have : y_ho b = 0 := by unfold y_ho; rw [q.1, Nat.zero_mul]
      omega
    · exact z
  unfold y_W y_ho y_ac y_sh at *
  refine ⟨?_, ?_, ?_, ?_, ?_, fun j hj => ?_, fun j l hj hl => ?_, fun j hj => ?_, fun j hj => ?_⟩
  · simp (disch := omega) only [y_ue, y_un]; exact ⟨a0, a1, a2, a3, a4, by omega, a6, a7, a9⟩
  · simp (disch := omega) only [y_ue, y_un]; intro z; omega
  · simp (disch := omega) only [y_un]; exact h3
  · simp (disch := omega) only [y_ue, y_un]; intro _; omega
  · simp (disch := omega) only [y_ue, y_un]; intro z; omega
  · simp (disch := omega) only [y_un] at hj; simp (disch := omega) only [y_un]; exact h6 j hj
  · simp (disch := omega) only [y_un] at hl; simp (disch := omega) only [y_un]; exact h7 j l hj hl
  · simp (disch := omega) only [y_ue, y_un] at hj
    by_cases e : j = b 5
    · subst e
      simp (disch := omega) only [y_ue, y_un]
      refine ⟨hv.1, by omega, by omega, hr, fun z => by omega, hv.2, fun z => ?_⟩
      rcases hw with q | q
      · omega
      · exact q.2.2.1
    · simp (disch := omega) only [y_un]; exact h8 j (by omega)
  · simp (disch := omega) only [y_un] at hj; simp (disch := omega) only [y_un]; exact h9 j hj
theorem y_W.pb (h : y_W b) (h6' : b 6 < 4) (on : 0 < b 9) {v0 v1 v2 v3 v4 : Nat} (g0 : 1 ≤ v0 ∧ v0 < 10) (g1 : v1 < 21) (g2 : v2 < 100) (g3 : v3 < 10) (g4 : v4 < y_ho b) : y_W (y_pb b v0 v1 v2 v3 v4) := by
  have b4 := h.b4; have b5 := h.b5; have b6 := h.b6
  obtain ⟨⟨a0, a1, a2, a3, a4, a5, a6, a7, a9⟩, h2, h3, h4, h5, h6, h7, h8, h9⟩ := h
  unfold y_W y_ho y_pb at *
  refine ⟨?_, ?_, ?_, ?_, ?_, fun j hj => ?_, fun j l hj hl => ?_, fun j hj => ?_, fun j hj => ?_⟩
  · simp (disch := omega) only [y_ue, y_un]; exact ⟨a0, a1, a2, a3, a4, a5, by omega, a7, a9⟩
  · simp (disch := omega) only [y_ue, y_un]; intro z; omega
  · simp (disch := omega) only [y_un]; exact h3
  · simp (disch := omega) only [y_un]; exact h4
  · simp (disch := omega) only [y_un]; exact h5
  · simp (disch := omega) only [y_un] at hj; simp (disch := omega) only [y_un]; exact h6 j hj
  · simp (disch := omega) only [y_un] at hl; simp (disch := omega) only [y_un]; exact h7 j l hj hl
  · simp (disch := omega) only [y_un] at hj; simp (disch := omega) only [y_un]; exact h8 j hj
  · simp (disch := omega) only [y_ue, y_un] at hj
    by_cases e : j = b 6
    · subst e
      simp (disch := omega) only [y_ue, y_un]
      exact ⟨g0.1, by omega, by omega, by omega, by omega, g4⟩
    · simp (disch := omega) only [y_un]; exact h9 j (by omega)
theorem y_W.sb (h : y_W b) {l t : Nat} (hl : 1 ≤ l ∧ l < 41) (ht : t < b 2) (h4' : y_hi b t (b 4) 0 < b 4 ∨ b 4 < 6) : y_W (y_sb b l t) := by
  have b4 := h.b4; have b5 := h.b5; have b6 := h.b6
  obtain ⟨s1, s2, s3, s4, _⟩ := y_hi_sp (b := b) (v := t) (b 4) 0
  have on := h.on0 (Or.inr (Or.inl (show 0 < b 2 by omega)))
  obtain ⟨⟨a0, a1, a2, a3, a4, a5, a6, a7, a9⟩, h2, h3, h4, h5, h6, h7, h8, h9⟩ := h
  unfold y_W y_ho y_sb at *
  generalize y_hi b t (b 4) 0 = i at *
  refine ⟨?_, ?_, ?_, ?_, ?_, fun j hj => ?_, fun j l' hj hl' => ?_, fun j hj => ?_, fun j hj => ?_⟩
  · simp (disch := omega) only [y_ue, y_un]; exact ⟨a0, a1, a2, a3, by split <;> omega, a5, a6, a7, a9⟩
  · simp (disch := omega) only [y_ue, y_un]; intro z; omega
  · simp (disch := omega) only [y_un]; exact h3
  · simp (disch := omega) only [y_un]; exact h4
  · simp (disch := omega) only [y_un]; exact h5
  · simp (disch := omega) only [y_ue] at hj
    by_cases e : j = i
    · subst e
      simp (disch := omega) only [y_ue, y_un]; omega
    · have : j < b 4 := by split at hj <;> omega
      simp (disch := omega) only [y_un]; exact h6 j this
  · simp (disch := omega) only [y_ue] at hl'
    by_cases e : l' = i
    · subst e
      simp (disch := omega) only [y_ue, y_un]
      exact s3 j (by omega) (by omega)
    · have l4 : l' < b 4 := by split at hl' <;> omega
      by_cases e2 : j = i
      · subst e2
        simp (disch := omega) only [y_ue, y_un]
        intro z
        exact h7 j l' hj l4 (by rw [s4 (by omega)]; exact z)
      · simp (disch := omega) only [y_un]; exact h7 j l' hj l4
  · have h24 : ∀ c, 24 ≤ c → y_u (y_u (y_u b (12 + 2 * i) t) (13 + 2 * i) l) 4 (if i < b 4 then b 4 else b 4 + 1) c = b c := fun c hc => by simp (disch := omega) only [y_un]
    simp (disch := omega) only [y_un] at hj; simp (disch := omega) only [y_un]; exact h8 j hj
  · simp (disch := omega) only [y_un] at hj; simp (disch := omega) only [y_un]; exact h9 j hj
end W
