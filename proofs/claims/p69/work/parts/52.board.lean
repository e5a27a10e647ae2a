/-! ===== a board, told as numbers: b 0 wide, 1 high, 2 ticks, 3 pause, 4 stays, 5 comings, 6 players, 7 shut, 8 stands, 9 lines, 10 tickets, 11 each; 12 + 2k a stay's tick, 13 + 2k its length; 24 + 3k a coming's hole, 25 + 3k its other one and 1 (0: none), 26 + 3k red; 96 + 5p + q a player ===== -/
abbrev y_rg (x : Int32) (n : Nat) : Prop := 0 ≤ x.toInt ∧ x.toInt < n
def y_cb (σ : j_G) (c c1 c2 c3 c4 c5 c6 c7 : Nat) (b : Nat → Nat) : Prop :=
  (σ.1 c 1 = nI (b 9) ∧ σ.1 c 2 = nI (b 0) ∧ σ.1 c 3 = nI (b 1) ∧ σ.1 c 4 = nI (b 2) ∧ σ.1 c 5 = nI (b 3) ∧ σ.1 c 6 = nI (b 7) ∧ σ.1 c 7 = nI (b 6) ∧ σ.1 c 10 = nI (b 4) ∧ σ.1 c4 0 = nI (b 5) ∧ σ.1 c4 1 = nI (b 8)) ∧
  (0 < b 9 → σ.1 c 8 = nI (b 10) ∧ σ.1 c 9 = nI (b 11)) ∧
  (∀ k, k < b 4 → σ.1 c1 k = nI (b (12 + 2 * k)) ∧ σ.1 c2 k = nI (b (13 + 2 * k))) ∧
  (∀ p q, p < b 6 → q < 5 → σ.1 c3 (5 * p + q) = nI (b (96 + 5 * p + q))) ∧
  (∀ k, k < b 5 → σ.1 c5 k = nI (b (24 + 3 * k)) ∧ σ.1 c6 k = nP (b (25 + 3 * k)) ∧ σ.1 c7 k = nI (b (26 + 3 * k)))
abbrev y_N (σ : j_G) (b : Nat → Nat) : Prop := y_cb σ 1 2 3 4 5 6 7 8 b
def y_mb (w : Nat → Int32) (b : Nat → Nat) : Prop := ∀ j, j < 116 → w j = if 24 ≤ j ∧ j < 96 ∧ j % 3 = 1 then nP (b j) else nI (b j)
abbrev y_M (τ : j_G) (b : Nat → Nat) : Prop := y_mb (τ.1 76) b
def y_ho (b : Nat → Nat) : Nat := b 0 * b 1
def y_W (b : Nat → Nat) : Prop :=
  (b 0 ≤ 4 ∧ b 1 ≤ 3 ∧ b 2 ≤ 200 ∧ b 3 ≤ 9 ∧ b 4 ≤ 6 ∧ b 5 ≤ 24 ∧ b 6 ≤ 4 ∧ b 7 < 2 ^ (y_ho b) ∧ b 9 ≤ 1300) ∧
  (b 9 = 0 → b 0 = 0 ∧ b 1 = 0 ∧ b 2 = 0 ∧ b 3 = 0 ∧ b 4 = 0 ∧ b 5 = 0 ∧ b 6 = 0) ∧
  (0 < b 9 → 1 ≤ b 0 ∧ 1 ≤ b 1 ∧ 1 ≤ b 2 ∧ 1 ≤ b 10 ∧ b 10 ≤ 99 ∧ 1 ≤ b 11 ∧ b 11 ≤ 500) ∧
  (0 < b 5 → b 8 < b 5) ∧ (b 5 = 0 → b 8 = 0) ∧
  (∀ k, k < b 4 → b (12 + 2 * k) < b 2 ∧ 1 ≤ b (13 + 2 * k) ∧ b (13 + 2 * k) ≤ 40) ∧
  (∀ k l, k < l → l < b 4 → b (12 + 2 * k) ≠ b (12 + 2 * l)) ∧
  (∀ k, k < b 5 → b (24 + 3 * k) < y_ho b ∧ b (25 + 3 * k) ≤ y_ho b ∧ b (25 + 3 * k) ≠ b (24 + 3 * k) + 1 ∧ b (26 + 3 * k) ≤ 1 ∧ (0 < b (25 + 3 * k) → b (26 + 3 * k) = 0) ∧ b 7 / 2 ^ b (24 + 3 * k) % 2 = 0 ∧ (0 < b (25 + 3 * k) → b 7 / 2 ^ (b (25 + 3 * k) - 1) % 2 = 0)) ∧
  (∀ p, p < b 6 → 1 ≤ b (96 + 5 * p) ∧ b (96 + 5 * p) ≤ 9 ∧ b (97 + 5 * p) ≤ 20 ∧ b (98 + 5 * p) ≤ 99 ∧ b (99 + 5 * p) ≤ 9 ∧ b (100 + 5 * p) < y_ho b)
theorem y_W.b0 {b : Nat → Nat} (h : y_W b) : b 0 ≤ 4 := h.1.1
theorem y_W.b1 {b : Nat → Nat} (h : y_W b) : b 1 ≤ 3 := h.1.2.1
theorem y_W.b2 {b : Nat → Nat} (h : y_W b) : b 2 ≤ 200 := h.1.2.2.1
theorem y_W.b3 {b : Nat → Nat} (h : y_W b) : b 3 ≤ 9 := h.1.2.2.2.1
theorem y_W.b4 {b : Nat → Nat} (h : y_W b) : b 4 ≤ 6 := h.1.2.2.2.2.1
theorem y_W.b5 {b : Nat → Nat} (h : y_W b) : b 5 ≤ 24 := h.1.2.2.2.2.2.1
theorem y_W.b6 {b : Nat → Nat} (h : y_W b) : b 6 ≤ 4 := h.1.2.2.2.2.2.2.1
theorem y_W.ho {b : Nat → Nat} (h : y_W b) : y_ho b ≤ 12 := Nat.mul_le_mul h.b0 h.b1
theorem y_W.b7 {b : Nat → Nat} (h : y_W b) : b 7 < 4096 := Nat.lt_of_lt_of_le h.1.2.2.2.2.2.2.2.1 (Nat.pow_le_pow_right (n := 2) (by omega) h.ho)
theorem y_W.b9 {b : Nat → Nat} (h : y_W b) : b 9 ≤ 1300 := h.1.2.2.2.2.2.2.2.2
theorem y_W.b8 {b : Nat → Nat} (h : y_W b) : b 8 < 24 := by
  have := h.2.2.2.1; have := h.2.2.2.2.1; have := h.b5; omega
theorem y_W.off {b : Nat → Nat} (h : y_W b) (h9 : b 9 = 0) : b 0 = 0 ∧ b 1 = 0 ∧ b 2 = 0 ∧ b 3 = 0 ∧ b 4 = 0 ∧ b 5 = 0 ∧ b 6 = 0 := h.2.1 h9
theorem y_W.on {b : Nat → Nat} (h : y_W b) (h9 : 0 < b 9) : 1 ≤ b 0 ∧ 1 ≤ b 1 ∧ 1 ≤ b 2 ∧ 1 ≤ b 10 ∧ b 10 ≤ 99 ∧ 1 ≤ b 11 ∧ b 11 ≤ 500 := h.2.2.1 h9
theorem y_W.st {b : Nat → Nat} (h : y_W b) {k : Nat} (hk : k < b 4) : b (12 + 2 * k) < b 2 ∧ 1 ≤ b (13 + 2 * k) ∧ b (13 + 2 * k) ≤ 40 := h.2.2.2.2.2.1 k hk
theorem y_W.sd {b : Nat → Nat} (h : y_W b) {k l : Nat} (hk : k < l) (hl : l < b 4) : b (12 + 2 * k) ≠ b (12 + 2 * l) := h.2.2.2.2.2.2.1 k l hk hl
theorem y_W.co {b : Nat → Nat} (h : y_W b) {k : Nat} (hk : k < b 5) : b (24 + 3 * k) < y_ho b ∧ b (25 + 3 * k) ≤ y_ho b ∧ b (25 + 3 * k) ≠ b (24 + 3 * k) + 1 ∧ b (26 + 3 * k) ≤ 1 ∧ (0 < b (25 + 3 * k) → b (26 + 3 * k) = 0) ∧ b 7 / 2 ^ b (24 + 3 * k) % 2 = 0 ∧ (0 < b (25 + 3 * k) → b 7 / 2 ^ (b (25 + 3 * k) - 1) % 2 = 0) := h.2.2.2.2.2.2.2.1 k hk
theorem y_W.pl {b : Nat → Nat} (h : y_W b) {p : Nat} (hp : p < b 6) : 1 ≤ b (96 + 5 * p) ∧ b (96 + 5 * p) ≤ 9 ∧ b (97 + 5 * p) ≤ 20 ∧ b (98 + 5 * p) ≤ 99 ∧ b (99 + 5 * p) ≤ 9 ∧ b (100 + 5 * p) < y_ho b := h.2.2.2.2.2.2.2.2 p hp
/-- told: a board is there -/
theorem y_W.on0 {b : Nat → Nat} (h : y_W b) (h0 : 0 < b 0 ∨ 0 < b 2 ∨ 0 < b 5 ∨ 0 < b 6 ∨ 0 < y_ho b) : 0 < b 9 := by
  rcases Nat.eq_zero_or_pos (b 9) with z | z
  · have q := h.off z
    have : y_ho b = 0 := by unfold y_ho; rw [q.1, Nat.zero_mul]
    omega
  · exact z
theorem y_W.on1 {b : Nat → Nat} (h : y_W b) (h0 : 0 < b 9) : 0 < y_ho b := by
  have q := h.on h0
  exact Nat.mul_pos (by omega) (by omega)
section CB
variable {σ : j_G} {c c1 c2 c3 c4 c5 c6 c7 : Nat} {b : Nat → Nat}
theorem y_cb.f1 (h : y_cb σ c c1 c2 c3 c4 c5 c6 c7 b) : σ.1 c 1 = nI (b 9) := h.1.1
theorem y_cb.f2 (h : y_cb σ c c1 c2 c3 c4 c5 c6 c7 b) : σ.1 c 2 = nI (b 0) := h.1.2.1
theorem y_cb.f3 (h : y_cb σ c c1 c2 c3 c4 c5 c6 c7 b) : σ.1 c 3 = nI (b 1) := h.1.2.2.1
theorem y_cb.f4 (h : y_cb σ c c1 c2 c3 c4 c5 c6 c7 b) : σ.1 c 4 = nI (b 2) := h.1.2.2.2.1
theorem y_cb.f5 (h : y_cb σ c c1 c2 c3 c4 c5 c6 c7 b) : σ.1 c 5 = nI (b 3) := h.1.2.2.2.2.1
theorem y_cb.f6 (h : y_cb σ c c1 c2 c3 c4 c5 c6 c7 b) : σ.1 c 6 = nI (b 7) := h.1.2.2.2.2.2.1
theorem y_cb.f7 (h : y_cb σ c c1 c2 c3 c4 c5 c6 c7 b) : σ.1 c 7 = nI (b 6) := h.1.2.2.2.2.2.2.1
theorem y_cb.f10 (h : y_cb σ c c1 c2 c3 c4 c5 c6 c7 b) : σ.1 c 10 = nI (b 4) := h.1.2.2.2.2.2.2.2.1
theorem y_cb.d0 (h : y_cb σ c c1 c2 c3 c4 c5 c6 c7 b) : σ.1 c4 0 = nI (b 5) := h.1.2.2.2.2.2.2.2.2.1
theorem y_cb.d1 (h : y_cb σ c c1 c2 c3 c4 c5 c6 c7 b) : σ.1 c4 1 = nI (b 8) := h.1.2.2.2.2.2.2.2.2.2
theorem y_cb.f8 (h : y_cb σ c c1 c2 c3 c4 c5 c6 c7 b) (h9 : 0 < b 9) : σ.1 c 8 = nI (b 10) := (h.2.1 h9).1
theorem y_cb.f9 (h : y_cb σ c c1 c2 c3 c4 c5 c6 c7 b) (h9 : 0 < b 9) : σ.1 c 9 = nI (b 11) := (h.2.1 h9).2
theorem y_cb.s1 (h : y_cb σ c c1 c2 c3 c4 c5 c6 c7 b) {k : Nat} (hk : k < b 4) : σ.1 c1 k = nI (b (12 + 2 * k)) := (h.2.2.1 k hk).1
theorem y_cb.s2 (h : y_cb σ c c1 c2 c3 c4 c5 c6 c7 b) {k : Nat} (hk : k < b 4) : σ.1 c2 k = nI (b (13 + 2 * k)) := (h.2.2.1 k hk).2
theorem y_cb.t (h : y_cb σ c c1 c2 c3 c4 c5 c6 c7 b) {p q : Nat} (hp : p < b 6) (hq : q < 5) : σ.1 c3 (5 * p + q) = nI (b (96 + 5 * p + q)) := h.2.2.2.1 p q hp hq
theorem y_cb.k0 (h : y_cb σ c c1 c2 c3 c4 c5 c6 c7 b) {k : Nat} (hk : k < b 5) : σ.1 c5 k = nI (b (24 + 3 * k)) := (h.2.2.2.2 k hk).1
theorem y_cb.k1 (h : y_cb σ c c1 c2 c3 c4 c5 c6 c7 b) {k : Nat} (hk : k < b 5) : σ.1 c6 k = nP (b (25 + 3 * k)) := (h.2.2.2.2 k hk).2.1
theorem y_cb.k2 (h : y_cb σ c c1 c2 c3 c4 c5 c6 c7 b) {k : Nat} (hk : k < b 5) : σ.1 c7 k = nI (b (26 + 3 * k)) := (h.2.2.2.2 k hk).2.2
end CB
theorem y_N.fr {σ σ' : j_G} {b : Nat → Nat} {lo hi : Nat} (h : y_N σ b) (hf : y_fr lo hi σ σ') (hl : 9 ≤ lo) : y_N σ' b := by
  have e : ∀ c, c < 9 → σ'.1 c = σ.1 c := fun c hc => (hf c (by omega)).1
  unfold y_N y_cb at *
  rw [e 1 (by omega), e 2 (by omega), e 3 (by omega), e 4 (by omega), e 5 (by omega), e 6 (by omega), e 7 (by omega), e 8 (by omega)]
  exact h
theorem y_M.fr {τ τ' : j_G} {b : Nat → Nat} {f g lo hi : Nat} (h : y_M τ b) (hf : y_fm f g lo hi τ τ') (hl : 77 ≤ lo) : y_M τ' b := by
  unfold y_M
  rw [(hf.2 76 (by omega) (by omega)).1]
  exact h
section MB
variable {w : Nat → Int32} {b : Nat → Nat}
theorem y_mb.f (h : y_mb w b) {j : Nat} (hj : j < 24) : w j = nI (b j) := by rw [h j (by omega), if_neg (by omega)]
theorem y_mb.k0 (h : y_mb w b) {k : Nat} (hk : k < 24) : w (24 + 3 * k) = nI (b (24 + 3 * k)) := by rw [h _ (by omega), if_neg (by omega)]
theorem y_mb.k1 (h : y_mb w b) {k : Nat} (hk : k < 24) : w (25 + 3 * k) = nP (b (25 + 3 * k)) := by rw [h _ (by omega), if_pos (by omega)]
theorem y_mb.k2 (h : y_mb w b) {k : Nat} (hk : k < 24) : w (26 + 3 * k) = nI (b (26 + 3 * k)) := by rw [h _ (by omega), if_neg (by omega)]
theorem y_mb.p (h : y_mb w b) {p q : Nat} (hp : p < 4) (hq : q < 5) : w (96 + 5 * p + q) = nI (b (96 + 5 * p + q)) := by rw [h _ (by omega), if_neg (by omega)]
end MB
