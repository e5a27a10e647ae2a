/-! ===== one call on the fresh objects ===== -/
def x_P : Option Value × xH × Nat × Nat → Prop := fun r => r.1 = some (.int 1) ∧ r.2.2.1 ≤ room_1.cells ∧ r.2.2.2 ≤ room_1.slots
theorem x_fin {h : xH} : x_P (some (.int 1), h, 98, 10728) := by
  show some (Value.int 1) = some (Value.int 1) ∧ 98 ≤ 600000 ∧ 10728 ≤ 7302250
  exact ⟨rfl, by decide +kernel, by decide +kernel⟩
def x_ov (i : Nat) (v : Int32) (xs : Nat → Int32) : Nat → Int32 := fun j => if j = i then v else xs j
theorem x_ov_eq {i : Nat} {v : Int32} {xs : Nat → Int32} (h : xs i = v) : x_ov i v xs = xs := by
  funext j
  unfold x_ov
  split
  · rename_i e; rw [e, h]
  · rfl
theorem x_i_lt {a c : Int32} {C : Int} (h : c.toInt = C) : a < c ↔ a.toInt < C := by rw [Int32.lt_iff_toInt_lt, h]
theorem x_i_gt {a c : Int32} {C : Int} (h : c.toInt = C) : c < a ↔ C < a.toInt := by rw [Int32.lt_iff_toInt_lt, h]
theorem x_i_le {a c : Int32} {C : Int} (h : c.toInt = C) : a ≤ c ↔ a.toInt ≤ C := by rw [Int32.le_iff_toInt_le, h]
theorem x_i_ge {a c : Int32} {C : Int} (h : c.toInt = C) : c ≤ a ↔ C ≤ a.toInt := by rw [Int32.le_iff_toInt_le, h]
theorem x_i_eq {a c : Int32} {C : Int} (h : c.toInt = C) : a = c ↔ a.toInt = C := by rw [← h, Int32.toInt_inj]
theorem x_i_ne {a c : Int32} {C : Int} (h : c.toInt = C) : ¬ a = c ↔ ¬ a.toInt = C := by rw [← h, Int32.toInt_inj]
theorem x_r_lt {a c : Int32} {C : Int} (h : c.toInt = C) : c < a ↔ C < a.toInt := x_i_gt h
theorem x_r_gt {a c : Int32} {C : Int} (h : c.toInt = C) : a < c ↔ a.toInt < C := x_i_lt h
theorem x_r_le {a c : Int32} {C : Int} (h : c.toInt = C) : c ≤ a ↔ C ≤ a.toInt := x_i_ge h
theorem x_r_ge {a c : Int32} {C : Int} (h : c.toInt = C) : a ≤ c ↔ a.toInt ≤ C := x_i_le h
theorem x_r_eq {a c : Int32} {C : Int} (h : c.toInt = C) : c = a ↔ a.toInt = C := by rw [← x_i_eq h]; exact ⟨Eq.symm, Eq.symm⟩
theorem x_r_ne {a c : Int32} {C : Int} (h : c.toInt = C) : ¬ c = a ↔ ¬ a.toInt = C := not_congr (x_r_eq h)
theorem x_lgv (a : Int32) (c : Int64) : (c.toInt < a.toInt ∧ lg_cmp a.toInt64 c = 1) ∨ (a.toInt = c.toInt ∧ lg_cmp a.toInt64 c = 0) ∨ (a.toInt < c.toInt ∧ lg_cmp a.toInt64 c = -1) := by
  have e : a.toInt64.toInt = a.toInt := Int32.toInt_toInt64 a
  unfold lg_cmp
  by_cases h1 : a.toInt64 > c
  · rw [if_pos h1]
    have := Int64.lt_iff_toInt_lt.mp h1
    exact Or.inl ⟨by omega, rfl⟩
  · rw [if_neg h1]
    by_cases h2 : a.toInt64 = c
    · rw [if_pos h2]
      exact Or.inr (Or.inl ⟨by rw [← h2, e], rfl⟩)
    · rw [if_neg h2]
      have h3 : ¬ c.toInt < a.toInt64.toInt := fun q => h1 (Int64.lt_iff_toInt_lt.mpr q)
      have h4 : ¬ a.toInt64.toInt = c.toInt := fun q => h2 (Int64.toInt_inj.mp q)
      exact Or.inr (Or.inr ⟨by omega, rfl⟩)
theorem x_lg_lt {a : Int32} {c : Int64} {C : Int} (h : c.toInt = C) : lg_cmp a.toInt64 c < 0 ↔ a.toInt < C := by
  rcases x_lgv a c with ⟨q, e⟩ | ⟨q, e⟩ | ⟨q, e⟩ <;> rw [e] <;> constructor <;> intro z <;> first | omega | (exact absurd z (by decide)) | decide
theorem x_lg_gt {a : Int32} {c : Int64} {C : Int} (h : c.toInt = C) : 0 < lg_cmp a.toInt64 c ↔ C < a.toInt := by
  rcases x_lgv a c with ⟨q, e⟩ | ⟨q, e⟩ | ⟨q, e⟩ <;> rw [e] <;> constructor <;> intro z <;> first | omega | (exact absurd z (by decide)) | decide
theorem x_lg_le {a : Int32} {c : Int64} {C : Int} (h : c.toInt = C) : lg_cmp a.toInt64 c ≤ 0 ↔ a.toInt ≤ C := by
  rcases x_lgv a c with ⟨q, e⟩ | ⟨q, e⟩ | ⟨q, e⟩ <;> rw [e] <;> constructor <;> intro z <;> first | omega | (exact absurd z (by decide)) | decide
theorem x_lg_ge {a : Int32} {c : Int64} {C : Int} (h : c.toInt = C) : 0 ≤ lg_cmp a.toInt64 c ↔ C ≤ a.toInt := by
  rcases x_lgv a c with ⟨q, e⟩ | ⟨q, e⟩ | ⟨q, e⟩ <;> rw [e] <;> constructor <;> intro z <;> first | omega | (exact absurd z (by decide)) | decide
theorem x_osw {x k : Int32} {o d : Int} {a : Int} {r : List (Int × Int)} {v : Int} (h : ¬ x.toInt = a) (t : Op.lookupswitch.offset r d x.toInt = v) (hk : k.toInt = a := by decide) : Op.lookupswitch.offset ((a, o) :: r) d x.toInt = v := by
  rw [lv_osw (k := k) (fun q => h (by rw [q, hk])) hk]
  exact t
theorem x_lsw {M : xM} {S : Option xS} {pc : Nat} {L : xL} {x : Int32} {r : List Value} {h : xH} {k z : Nat} {d : Int} {ps : Array (Int × Int)} {len a b w : Nat} {off : Int} {t : Nat} (hr : x_row M.2.2.2.2.2.2.2 pc = some (pc, .lookupswitch d ps, len, a, b, w)) (hs : (ps.toList.zip (ps.toList.drop 1)).all (fun q => decide (q.1.1 < q.2.1)) = true) (ho : Op.lookupswitch.offset ps.toList d x.toInt = off) (ht : (pc : Int) + off = (t : Int)) : x_step M S (pc, L, .int x :: r, h, k, z) = some (.inl (t, L, r, h, k, z)) := by
  unfold x_step
  dsimp only
  rw [hr]
  show (if (ps.toList.zip (ps.toList.drop 1)).all (fun q => decide (q.1.1 < q.2.1)) = true then x_br pc (Op.lookupswitch.offset ps.toList d x.toInt) fun t => x_go t L r h k z else none) = _
  rw [if_pos hs, ho]
  unfold x_br
  rw [ht]
  rfl
theorem x_R.iteT {mt : List xM} {S : Option xS} {d : Nat} {M : xM} {c c1 : xC} {P : Option Value × xH × Nat × Nat → Prop} {p : Prop} [Decidable p] {o : xO} (e : x_step M S c = if p then some (.inl c1) else o) (hp : p) (k : x_R mt S d M c1 P) : x_R mt S d M c P := by
  rw [if_pos hp] at e
  exact x_R.step e k
