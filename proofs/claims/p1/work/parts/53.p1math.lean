/-! ===== the fresh objects, as the rules see them; feed and row over them ===== -/
def j_s0 : j_G := (fun c j => bif Nat.beq c 10 && Nat.beq j 2 || (Nat.beq c 67 || (Nat.beq c 69 || (Nat.beq c 71 || Nat.beq c 73))) && Nat.beq j 0 then -1 else 0, fun _ _ => 0)
def j_m4 : Nat → Int32 := upd (upd (upd (upd (fun _ => 0) 0 (-1)) 1 (-1)) 2 (-1)) 3 (-1)
def j_t0 : j_G := (fun c j => bif Nat.beq c 94 then j_m4 j else bif Nat.beq c 75 && Nat.beq j 13 then -1 else 0, fun _ _ => 0)
theorem j_up3 : va_up (va_up (va_up (fun _ => none) 0 (some 43)) 1 (some 51)) 2 (some 59) = fun j => ([43, 51, 59] : List Nat)[j]? := by
  funext j
  match j with
  | 0 => rfl
  | 1 => rfl
  | 2 => rfl
  | j + 3 => simp [va_up]
theorem j_up4 : va_up (va_up (va_up (va_up (fun _ => none) 0 (some 67)) 1 (some 69)) 2 (some 71)) 3 (some 73) = fun j => ([67, 69, 71, 73] : List Nat)[j]? := by
  funext j
  match j with
  | 0 => rfl
  | 1 => rfl
  | 2 => rfl
  | 3 => rfl
  | j + 4 => simp [va_up]
set_option maxRecDepth 100000 in
set_option maxHeartbeats 4000000 in
theorem j_h0 : x_h0 = j_hp true j_s0 j_t0 := by
  unfold x_h0
  rw [j_up3, j_up4]
  rfl
/-! feed -/
def u_sh : Nat → Int32
  | 0 => -8
  | m + 1 => nI (8 * m)
theorem u_sh_pred : ∀ m, m < 4 → nI (8 * m) + (-8) = u_sh m := by decide
theorem u_put (l1 : Int32) : ∀ (m n t : Nat) (σ : j_G), m < n → m ≤ 4 → σ.1 19 0 = nI t → t + m ≤ 1200 → ∃ σ', p_X10_put_3 l1 n (u_sh m) σ = some σ' ∧ σ'.1 19 0 = nI (t + m) := by
  intro m
  induction m with
  | zero =>
    intro n t σ hn _ hσ _
    obtain ⟨n, rfl⟩ : ∃ n', n = n' + 1 := ⟨n - 1, by omega⟩
    refine ⟨σ, ?_, hσ⟩
    unfold p_X10_put_3
    exact if_neg (fun z => z.1 (by decide))
  | succ m ih =>
    intro n t σ hn hm hσ ht
    obtain ⟨n, rfl⟩ : ∃ n', n = n' + 1 := ⟨n - 1, by omega⟩
    have key : ∀ σ2 : j_G, σ2.1 19 0 = nI (t + 1) → ∃ σ', p_X10_put_3 l1 n (u_sh m) σ2 = some σ' ∧ σ'.1 19 0 = nI (t + (m + 1)) := by
      intro σ2 h2
      obtain ⟨σ', a, b⟩ := ih n (t + 1) σ2 (by omega) (by omega) h2 (by omega)
      exact ⟨σ', a, by rw [b]; congr 1; omega⟩
    unfold p_X10_put_3
    rw [hσ, show u_sh (m + 1) = nI (8 * m) from rfl, if_pos ⟨nI_pos (by omega), show nI t < (1200 : Int32) from nI_lt (b := 1200) (by omega) (by omega)⟩, j_ixn (by omega) (by omega), u_sh_pred m (by omega)]
    refine key _ ?_
    rw [j_r_eq, j_r_ne (by decide), hσ]
    exact nI_add t 1
theorem u_put4 (l1 : Int32) (t : Nat) (σ : j_G) (hσ : σ.1 19 0 = nI t) (ht : t + 4 ≤ 1200) : ∃ σ', f_X10_put l1 σ = some σ' ∧ σ'.1 19 0 = nI (t + 4) := by
  obtain ⟨σ', a, b⟩ := u_put l1 4 j_F t σ (by decide) (by omega) hσ ht
  refine ⟨σ', ?_, b⟩
  unfold f_X10_put
  rw [show (24 : Int32) = u_sh 4 from rfl, a]
  rfl
theorem u_feedx (a b c d e : Int32) (t : Nat) (σ : j_G) (hσ : σ.1 19 0 = nI t) (ht : t + 20 ≤ 1200) : ∃ σ', f_X11_feed a b c d e σ = some (nI (t + 20), σ') := by
  obtain ⟨σ1, a1, b1⟩ := u_put4 a t σ hσ (by omega)
  obtain ⟨σ2, a2, b2⟩ := u_put4 b _ σ1 b1 (by omega)
  obtain ⟨σ3, a3, b3⟩ := u_put4 c _ σ2 b2 (by omega)
  obtain ⟨σ4, a4, b4⟩ := u_put4 d _ σ3 b3 (by omega)
  obtain ⟨σ5, a5, b5⟩ := u_put4 e _ σ4 b4 (by omega)
  refine ⟨σ5, ?_⟩
  unfold f_X11_feed
  rw [hσ, show (20 : Int32) = nI 20 from rfl, nI_add, if_neg (show ¬ (1200 : Int32) < nI (t + 20) from nI_nlt (a := 1200) (by omega) (by omega)), a1, j_b1_s, a2, j_b1_s, a3, j_b1_s, a4, j_b1_s, a5, j_b1_s, b5]
theorem u_feedl (t : Nat) (ht : t + 20 ≤ 1200) : ∀ (m k n : Nat) (σ : j_G), k + m = 20 → m < n → σ.1 75 5 = nI t → ∃ σ', p_X12_feed_55 n (nI k) σ = some σ' ∧ σ'.1 75 5 = nI t := by
  intro m
  induction m with
  | zero =>
    intro k n σ hk hn hσ
    obtain ⟨n, rfl⟩ : ∃ n', n = n' + 1 := ⟨n - 1, by omega⟩
    refine ⟨σ, ?_, hσ⟩
    unfold p_X12_feed_55
    exact if_neg (show ¬ nI k < (20 : Int32) from nI_nlt (b := 20) (by omega) (by omega))
  | succ m ih =>
    intro k n σ hk hn hσ
    obtain ⟨n, rfl⟩ : ∃ n', n = n' + 1 := ⟨n - 1, by omega⟩
    unfold p_X12_feed_55
    rw [if_pos (show nI k < (20 : Int32) from nI_lt (b := 20) (by omega) (by omega)), if_neg (by decide), show (4 : Int32) = nI 4 from rfl, pk_div (by omega) (by omega) (by omega), j_ixn (by omega) (by omega), if_neg (by decide), hσ, nI_add, j_ixn (by omega) (by omega)]
    dsimp only [j_lt]
    rw [nI_1]
    refine ih (k + 1) n _ (by omega) (by omega) ?_
    rw [j_r_ne (by decide), hσ]
theorem u_feedm (a b c d e : Int32) (t : Nat) (σ : j_G) (hσ : σ.1 75 5 = nI t) (ht : t + 20 ≤ 1200) : ∃ σ', f_X12_feed a b c d e σ = some (nI (t + 20), σ') := by
  unfold f_X12_feed
  rw [hσ, show (20 : Int32) = nI 20 from rfl, nI_add, if_neg (show ¬ (1200 : Int32) < nI (t + 20) from nI_nlt (a := 1200) (by omega) (by omega))]
  dsimp only [j_lt]
  rw [j_ixp (by decide), j_ixp (by decide), j_ixp (by decide), j_ixp (by decide), j_ixp (by decide)]
  obtain ⟨σ', h1, h2⟩ := u_feedl t ht 20 0 j_F (j_si (j_si (j_si (j_si (j_si σ 80 (0 : Int32).toNatClampNeg a) 80 (1 : Int32).toNatClampNeg b) 80 (2 : Int32).toNatClampNeg c) 80 (3 : Int32).toNatClampNeg d) 80 (4 : Int32).toNatClampNeg e) rfl (by decide) (by rw [j_r_ne (by decide), j_r_ne (by decide), j_r_ne (by decide), j_r_ne (by decide), j_r_ne (by decide), hσ])
  rw [show (0 : Int32) = nI 0 from rfl] at h1 ⊢
  rw [h1, j_b1_s]
  refine ⟨j_si σ' 75 5 (σ'.1 75 5 + nI 20), ?_⟩
  rw [j_r_eq, h2, nI_add]
theorem j_feed0 (a b c d e : Int32) : ∃ (v : Int32) (σ1 τ1 : j_G), f_X11_feed a b c d e j_s0 = some (v, σ1) ∧ f_X12_feed a b c d e j_t0 = some (v, τ1) := by
  obtain ⟨σ1, h1⟩ := u_feedx a b c d e 0 j_s0 rfl (by omega)
  obtain ⟨τ1, h2⟩ := u_feedm a b c d e 0 j_t0 rfl (by omega)
  exact ⟨_, σ1, τ1, h1, h2⟩
/-! row -/
theorem u_in {x : Int32} {lo hi : Int64} : f_X12_in x.toInt64 lo hi = 0 ↔ ¬ (lo.toInt ≤ x.toInt ∧ x.toInt ≤ hi.toInt) := by
  unfold f_X12_in
  by_cases h : ¬ x.toInt64 < lo ∧ ¬ hi < x.toInt64
  · rw [if_pos h]
    rw [Int64.lt_iff_toInt_lt, Int64.lt_iff_toInt_lt, j_l64] at h
    exact ⟨fun z => absurd z (by decide), fun z => absurd ⟨by omega, by omega⟩ z⟩
  · rw [if_neg h]
    rw [Int64.lt_iff_toInt_lt, Int64.lt_iff_toInt_lt, j_l64] at h
    exact ⟨fun _ z => h ⟨by omega, by omega⟩, fun _ => rfl⟩
theorem u_slx {x : Int32} : f_X11_isSlot x = 0 ↔ ¬ (0 ≤ x.toInt ∧ x.toInt ≤ 3) := by
  unfold f_X11_isSlot
  by_cases h : ¬ x < 0 ∧ x < 4
  · rw [if_pos h]
    rw [Int32.lt_iff_toInt_lt, Int32.lt_iff_toInt_lt, show (0 : Int32).toInt = 0 from by decide, show (4 : Int32).toInt = 4 from by decide] at h
    exact ⟨fun z => absurd z (by decide), fun z => absurd ⟨by omega, by omega⟩ z⟩
  · rw [if_neg h]
    rw [Int32.lt_iff_toInt_lt, Int32.lt_iff_toInt_lt, show (0 : Int32).toInt = 0 from by decide, show (4 : Int32).toInt = 4 from by decide] at h
    exact ⟨fun _ z => h ⟨by omega, by omega⟩, fun _ => rfl⟩
theorem u_slm {x : Int32} : f_X12_isSlot x = 0 ↔ ¬ (0 ≤ x.toInt ∧ x.toInt ≤ 3) := by
  unfold f_X12_isSlot
  rw [u_in, show (0 : Int64).toInt = 0 from by decide, show (3 : Int64).toInt = 3 from by decide]
theorem u_makel (a : Nat) : ∀ (m k n : Nat) (σ : j_G), k + m = 60 → m < n → ∃ σ', p_X8_make_23 a n (nI k) σ = some σ' := by
  intro m
  induction m with
  | zero =>
    intro k n σ hk hn
    obtain ⟨n, rfl⟩ : ∃ n', n = n' + 1 := ⟨n - 1, by omega⟩
    refine ⟨σ, ?_⟩
    unfold p_X8_make_23
    exact if_neg (show ¬ nI k < (60 : Int32) from nI_nlt (b := 60) (by omega) (by omega))
  | succ m ih =>
    intro k n σ hk hn
    obtain ⟨n, rfl⟩ : ∃ n', n = n' + 1 := ⟨n - 1, by omega⟩
    unfold p_X8_make_23
    rw [if_pos (show nI k < (60 : Int32) from nI_lt (b := 60) (by omega) (by omega)), j_ixn (by omega) (by omega)]
    dsimp only [j_lt]
    rw [nI_1]
    exact ih (k + 1) n _ (by omega) (by omega)
theorem u_make (a0 a1 : Nat) (w n : Int32) (σ : j_G) : ∃ σ', f_X8_make a0 a1 w n σ = some σ' := by
  unfold f_X8_make
  by_cases h : n < 0 ∨ (60 : Int32) < n
  · exact ⟨σ, if_pos h⟩
  · rw [if_neg h]
    dsimp only [j_lt]
    obtain ⟨σ', h1⟩ := u_makel a1 60 0 j_F (j_si (j_si σ a0 1 w) a0 0 n) rfl (by decide)
    rw [show (0 : Int32) = nI 0 from rfl, h1]
    exact ⟨σ', rfl⟩
theorem u_rowl (s : Nat) (hs : s < 4) : ∀ (m k n : Nat) (σ : j_G), k + m = 60 → m < n → ∃ σ', p_X12_row_52 (nI s) n (nI k) σ = some σ' := by
  intro m
  induction m with
  | zero =>
    intro k n σ hk hn
    obtain ⟨n, rfl⟩ : ∃ n', n = n' + 1 := ⟨n - 1, by omega⟩
    refine ⟨σ, ?_⟩
    unfold p_X12_row_52
    exact if_neg (show ¬ nI k < (60 : Int32) from nI_nlt (b := 60) (by omega) (by omega))
  | succ m ih =>
    intro k n σ hk hn
    obtain ⟨n, rfl⟩ : ∃ n', n = n' + 1 := ⟨n - 1, by omega⟩
    unfold p_X12_row_52
    rw [if_pos (show nI k < (60 : Int32) from nI_lt (b := 60) (by omega) (by omega)), show (60 : Int32) = nI 60 from rfl, pk_mul, nI_add, j_ixn (by omega) (by omega)]
    dsimp only [j_lt]
    rw [nI_1]
    exact ih (k + 1) n _ (by omega) (by omega)
theorem u_rowx (s w n : Int32) (σ : j_G) : ∃ σ', f_X11_row s w n σ = some (if ¬ (0 ≤ s.toInt ∧ s.toInt ≤ 3) ∨ ¬ (0 ≤ w.toInt ∧ w.toInt ≤ 3) ∨ 60 < n.toInt then -2 else if n.toInt < 0 then -3 else 0, σ') := by
  unfold f_X11_row
  have e1 : (f_X11_isSlot s = 0 ∨ (w < 0 ∨ ((3 : Int32) < w ∨ (60 : Int32) < n))) ↔ (¬ (0 ≤ s.toInt ∧ s.toInt ≤ 3) ∨ ¬ (0 ≤ w.toInt ∧ w.toInt ≤ 3) ∨ 60 < n.toInt) := by
    rw [u_slx, Int32.lt_iff_toInt_lt, Int32.lt_iff_toInt_lt, Int32.lt_iff_toInt_lt, show (0 : Int32).toInt = 0 from by decide, show (3 : Int32).toInt = 3 from by decide, show (60 : Int32).toInt = 60 from by decide]
    omega
  have e2 : n < 0 ↔ n.toInt < 0 := by rw [Int32.lt_iff_toInt_lt, show (0 : Int32).toInt = 0 from by decide]
  by_cases h : ¬ (0 ≤ s.toInt ∧ s.toInt ≤ 3) ∨ ¬ (0 ≤ w.toInt ∧ w.toInt ≤ 3) ∨ 60 < n.toInt
  · rw [if_pos (e1.mpr h), if_pos h]
    exact ⟨σ, rfl⟩
  · rw [if_neg (fun z => h (e1.mp z)), if_neg h]
    by_cases h2 : n.toInt < 0
    · rw [if_pos (e2.mpr h2), if_pos h2]
      exact ⟨σ, rfl⟩
    · rw [if_neg (fun z => h2 (e2.mp z)), if_neg h2]
      obtain ⟨σ1, m1⟩ := u_make 67 68 w n σ
      obtain ⟨σ2, m2⟩ := u_make 69 70 w n σ
      obtain ⟨σ3, m3⟩ := u_make 71 72 w n σ
      obtain ⟨σ4, m4⟩ := u_make 73 74 w n σ
      rw [m1, m2, m3, m4]
      by_cases s0 : s = 0
      · rw [if_pos s0]; exact ⟨_, rfl⟩
      rw [if_neg s0]
      by_cases s1 : s = 1
      · rw [if_pos s1]; exact ⟨_, rfl⟩
      rw [if_neg s1]
      by_cases s2 : s = 2
      · rw [if_pos s2]; exact ⟨_, rfl⟩
      rw [if_neg s2]
      by_cases s3 : s = 3
      · rw [if_pos s3]; exact ⟨_, rfl⟩
      have n0 := j_ne 0 (by decide) s0
      have n1 := j_ne 1 (by decide) s1
      have n2 := j_ne 2 (by decide) s2
      have n3 := j_ne 3 (by decide) s3
      omega
theorem u_rowm (s w n : Int32) (σ : j_G) : ∃ σ', f_X12_row s w n σ = some (if ¬ (0 ≤ s.toInt ∧ s.toInt ≤ 3) ∨ ¬ (0 ≤ w.toInt ∧ w.toInt ≤ 3) ∨ 60 < n.toInt then -2 else if n.toInt < 0 then -3 else 0, σ') := by
  unfold f_X12_row
  have e1 : (f_X12_isSlot s = 0 ∨ (f_X12_in w.toInt64 (0 : Int64) (3 : Int64) = 0 ∨ (60 : Int32) < n)) ↔ (¬ (0 ≤ s.toInt ∧ s.toInt ≤ 3) ∨ ¬ (0 ≤ w.toInt ∧ w.toInt ≤ 3) ∨ 60 < n.toInt) := by
    rw [u_slm, u_in, Int32.lt_iff_toInt_lt, show (0 : Int64).toInt = 0 from by decide, show (3 : Int64).toInt = 3 from by decide, show (60 : Int32).toInt = 60 from by decide]
  have e2 : n < 0 ↔ n.toInt < 0 := by rw [Int32.lt_iff_toInt_lt, show (0 : Int32).toInt = 0 from by decide]
  by_cases h : ¬ (0 ≤ s.toInt ∧ s.toInt ≤ 3) ∨ ¬ (0 ≤ w.toInt ∧ w.toInt ≤ 3) ∨ 60 < n.toInt
  · rw [if_pos (e1.mpr h), if_pos h]
    exact ⟨σ, rfl⟩
  · rw [if_neg (fun z => h (e1.mp z)), if_neg h]
    by_cases h2 : n.toInt < 0
    · rw [if_pos (e2.mpr h2), if_pos h2]
      exact ⟨σ, rfl⟩
    · rw [if_neg (fun z => h2 (e2.mp z)), if_neg h2]
      rcases pk_ix s (n := 4) (by decide) with q | q | ⟨j, hj, rfl⟩
      · rw [Int32.lt_iff_toInt_lt, show (0 : Int32).toInt = 0 from by decide] at q
        omega
      · rw [Int32.le_iff_toInt_le, show (nI 4).toInt = 4 from by decide] at q
        omega
      · dsimp only [j_lt]
        rw [j_ixn hj (by decide), j_ixn hj (by decide)]
        obtain ⟨σ', h1⟩ := u_rowl j hj 60 0 j_F (j_si (j_si σ 94 (nI j).toNatClampNeg n) 95 (nI j).toNatClampNeg w) rfl (by decide)
        rw [show (0 : Int32) = nI 0 from rfl, h1]
        exact ⟨σ', rfl⟩
theorem j_row0 (s w n : Int32) : ∃ (v : Int32) (σ1 τ1 : j_G), f_X11_row s w n j_s0 = some (v, σ1) ∧ f_X12_row s w n j_t0 = some (v, τ1) := by
  obtain ⟨σ1, h1⟩ := u_rowx s w n j_s0
  obtain ⟨τ1, h2⟩ := u_rowm s w n j_t0
  exact ⟨_, σ1, τ1, h1, h2⟩
