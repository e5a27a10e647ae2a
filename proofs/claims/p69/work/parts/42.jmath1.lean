/-! ===== the fresh objects, as the rules see them ===== -/
def j_s0 : j_G := (fun c j => bif Nat.beq c 10 && Nat.beq j 2 || (Nat.beq c 67 || (Nat.beq c 69 || (Nat.beq c 71 || Nat.beq c 73))) && Nat.beq j 0 then -1 else 0, fun _ _ => 0)
def j_m4 : Nat → Int32 := upd (upd (upd (upd (fun _ => 0) 0 (-1)) 1 (-1)) 2 (-1)) 3 (-1)
def j_t0 : j_G := (fun c j => bif Nat.beq c 94 then j_m4 j else bif Nat.beq c 75 && Nat.beq j 13 then -1 else 0, fun _ _ => 0)
theorem j_up3 : va_up (va_up (va_up (fun _ => none) 0 (some 43)) 1 (some 51)) 2 (some 59) = fun j => ([43, 51, 59] : List Nat)[j]? := by
  funext j
  match j with
  | 0 => rfl
  | 1 => rfl
  | 2 => rfl
  | j + 3 => simp [va_up]
theorem j_up4 : va_up (va_up (va_up (va_up (fun _ => none) 0 (some 67)) 1 (some 69)) 2 (some 71)) 3 (some 73) = fun j => ([67, 69, 71, 73] : List Nat)[j]? := by
  funext j
  match j with
  | 0 => rfl
  | 1 => rfl
  | 2 => rfl
  | 3 => rfl
  | j + 4 => simp [va_up]
set_option maxRecDepth 100000 in
set_option maxHeartbeats 4000000 in
theorem j_h0 : x_h0 = j_hp true j_s0 j_t0 := by
  unfold x_h0
  rw [j_up3, j_up4]
  rfl
