/-! ===== bits counted ===== -/
def y_pop : Nat → Nat → Nat
  | 0, _ => 0
  | m + 1, n => n % 2 + y_pop m (n / 2)
set_option maxRecDepth 100000 in
theorem y_bcn : ∀ n, n < 4096 → f_J6_bitCount_0f7a4 (nI n) = nI (y_pop 12 n) := by decide +kernel
