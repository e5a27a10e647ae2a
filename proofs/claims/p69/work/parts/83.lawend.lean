/-! ===== the law ===== -/
theorem x_law_ok : x_Law 3072 := by
  intro L xs hL
  have key : x_R x_mt (some (L, xs)) 10 M_law (0, [(0, .ref x_scr)], [], [], 0, 0) (fun r => r.1 = some (.int 1) ∧ r.2.2.1 ≤ room_1.cells ∧ r.2.2.2 ≤ room_1.slots) := by
    refine x_pre ?_
    rw [j_h0]
    exact x_loop L hL xs (fun h l => x_R.steps 1 (c' := (2375, l, [.int 1], h, 98, 10728)) rfl (x_R.ret rfl ⟨rfl, show (98 : Nat) ≤ room_1.cells from by decide, show (10728 : Nat) ≤ room_1.slots from by decide⟩)) (L + 1) 0 _ _ j_Rel0 (by omega) (by omega)
  obtain ⟨n, ⟨v, h', k', z'⟩, h1, h2, h3, h4⟩ := key
  dsimp only at h2 h3 h4
  subst h2
  exact ⟨n, h', k', z', h1, h3, h4⟩
