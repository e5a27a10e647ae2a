/-! ===== an answer is there, and is such ===== -/
def j_Ok {α : Type} (o : Option α) (Q : α → Prop) : Prop := ∃ x, o = some x ∧ Q x
theorem j_Ok.some {α : Type} {x : α} {Q : α → Prop} (h : Q x) : j_Ok (Option.some x) Q := ⟨x, rfl, h⟩
theorem j_Ok.mono {α : Type} {o : Option α} {Q R : α → Prop} (h : j_Ok o Q) (k : ∀ x, Q x → R x) : j_Ok o R := by
  obtain ⟨x, e, q⟩ := h
  exact ⟨x, e, k x q⟩
theorem j_Ok.ite {α : Type} {p : Prop} [Decidable p] {a b : Option α} {Q : α → Prop} (h1 : p → j_Ok a Q) (h2 : ¬ p → j_Ok b Q) : j_Ok (if p then a else b) Q := by
  by_cases h : p
  · rw [if_pos h]; exact h1 h
  · rw [if_neg h]; exact h2 h
theorem j_Ok.b0 {α β : Type} {o : Option α} {k : Option β} {R : α → Prop} {Q : β → Prop} (h : j_Ok o R) (hk : j_Ok k Q) : j_Ok (j_b0 o k) Q := by
  obtain ⟨x, e, q⟩ := h
  rw [e]; exact hk
theorem j_Ok.b1 {α β : Type} {o : Option α} {k : α → Option β} {R : α → Prop} {Q : β → Prop} (h : j_Ok o R) (hk : ∀ x, R x → j_Ok (k x) Q) : j_Ok (j_b1 o k) Q := by
  obtain ⟨x, e, q⟩ := h
  rw [e]; exact hk x q
theorem j_Ok.b2 {α β γ : Type} {o : Option (α × β)} {k : α → β → Option γ} {R : α × β → Prop} {Q : γ → Prop} (h : j_Ok o R) (hk : ∀ x y, R (x, y) → j_Ok (k x y) Q) : j_Ok (j_b2 o k) Q := by
  obtain ⟨x, e, q⟩ := h
  rw [e]; exact hk x.1 x.2 q
theorem j_Ok.b3 {α β γ δ : Type} {o : Option (α × β × γ)} {k : α → β → γ → Option δ} {R : α × β × γ → Prop} {Q : δ → Prop} (h : j_Ok o R) (hk : ∀ x y z, R (x, y, z) → j_Ok (k x y z) Q) : j_Ok (j_b3 o k) Q := by
  obtain ⟨x, e, q⟩ := h
  rw [e]; exact hk x.1 x.2.1 x.2.2 q
theorem j_Ok.lt {α β : Type} {x : α} {k : α → Option β} {Q : β → Prop} (h : j_Ok (k x) Q) : j_Ok (j_lt x k) Q := h
theorem j_nn {i : Int32} (h : 0 ≤ i.toInt) : ¬ i < 0 := by
  rw [Int32.lt_iff_toInt_lt, show (0 : Int32).toInt = 0 from by decide]; omega
theorem j_nat {i : Int32} : i.toNatClampNeg = i.toInt.toNat := rfl
theorem j_Ok.ix {α : Type} {i : Int32} {n : Nat} {o : Option α} {Q : α → Prop} (h1 : 0 ≤ i.toInt) (h2 : i.toInt < n) (h : j_Ok o Q) : j_Ok (j_ix i n o) Q := by
  rw [j_ixp (fun z => z.elim (j_nn h1) (fun z => by rw [j_nat] at z; omega))]; exact h
theorem j_lo (x : Int32) : -2147483648 ≤ x.toInt := Int32.le_toInt x
theorem j_hi (x : Int32) : x.toInt < 2147483648 := Int32.toInt_lt x
theorem j_bm {z : Int} (h1 : -2147483648 ≤ z) (h2 : z < 2147483648) : z.bmod (2 ^ 32) = z := Int.bmod_eq_of_le (by omega) (by omega)
theorem j_adI {x y : Int32} (h1 : -2147483648 ≤ x.toInt + y.toInt) (h2 : x.toInt + y.toInt < 2147483648) : (x + y).toInt = x.toInt + y.toInt := by
  rw [Int32.toInt_add, j_bm h1 h2]
theorem j_sbI {x y : Int32} (h1 : -2147483648 ≤ x.toInt - y.toInt) (h2 : x.toInt - y.toInt < 2147483648) : (x - y).toInt = x.toInt - y.toInt := by
  rw [Int32.toInt_sub, j_bm h1 h2]
theorem j_mlI {x y : Int32} (h1 : -2147483648 ≤ x.toInt * y.toInt) (h2 : x.toInt * y.toInt < 2147483648) : (x * y).toInt = x.toInt * y.toInt := by
  rw [Int32.toInt_mul, j_bm h1 h2]
theorem j_ltI {x y : Int32} : x < y ↔ x.toInt < y.toInt := Int32.lt_iff_toInt_lt
theorem j_leI {x y : Int32} : x ≤ y ↔ x.toInt ≤ y.toInt := Int32.le_iff_toInt_le
theorem j_eqI {x y : Int32} : x = y ↔ x.toInt = y.toInt := Int32.toInt_inj.symm
