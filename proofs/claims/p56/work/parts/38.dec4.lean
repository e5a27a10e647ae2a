noncomputable def p_X12_luck_31 (l1 : Int32) (σ : j_G) : Nat → Int64 → Int32 → Option Int32
  | 0, _, _ => none
  | n + 1, l4, l6 =>
    j_ix l1 4 (
    if l6 < (σ.1 94 (l1).toNatClampNeg) then (j_b1 (f_X12_openHoles σ) fun v1 =>
    j_lt (l4 * (v1).toInt64) fun v2 =>
    if (1000000000 : Int64) < v2 then (some (-1 : Int32)) else (p_X12_luck_31 l1 σ n v2 (l6 + (1 : Int32)))) else (some (l4).toInt32))

noncomputable def f_X12_luck (l1 : Int32) (σ : j_G) : Option Int32 :=
  j_b1 (f_X12_asksHeard l1 σ) fun v1 =>
  if v1 < 0 then (some v1) else (j_b1 (f_X12_leastPeriod l1 σ) fun v2 =>
  if v2 = (-1 : Int32) then (some (-1 : Int32)) else (p_X12_luck_31 l1 σ j_F (1 : Int64) v2))
theorem l_X12_luck_31 {d : Nat} (hd : 3 ≤ d) (τ : j_G) (l1 : Int32) (σ : j_G) : ∀ (n : Nat) (l4 : Int64) (l6 : Int32), j_J false τ M_cX12_luck d 31 [some (.ref 75), some (.int l1), none, none, some (.long l4), none, some (.int l6)] [] σ (p_X12_luck_31 l1 σ n l4 l6) (j_Pi σ) := by
  intro n
  induction n with
  | zero => intro l4 l6; exact j_none
  | succ n ih =>
    intro l4 l6
    unfold p_X12_luck_31
    refine j_iload (pc' := 33) rfl rfl rfl ?_
    refine j_aload_n (pc' := 34) rfl rfl rfl ?_
    refine j_gfr (pc' := 37) (x := 94) rfl rfl j_a75 rfl rfl ?_
    refine j_iload_n (pc' := 38) rfl rfl rfl ?_
    refine j_iald (pc' := 39) rfl rfl j_a94 ?_
    refine j_two (pT := 42) (pF := 69) (L1 := [some (.ref 75), some (.int l1), none, none, some (.long l4), none, some (.int l6)]) (st1 := []) (fun o kT kF => ?_) (fun h3 => ?_) (fun h3 => ?_)
    · refine j_icge (t := 69) (pc' := 42) rfl rfl rfl (fun h4 => ?_) (fun h4 => ?_)
      · exact kF h4
      · exact kT h4
    · refine j_lload (pc' := 44) rfl rfl rfl ?_
      refine j_aload_n (pc' := 45) rfl rfl rfl ?_
      refine j_callPi (pc' := 48) (ai := 278) (vs := [.ref 75]) (rest := [.long l4]) rfl rfl (fun _ _ => rfl) (c_X12_openHoles  σ) (j_dd rfl hd) rfl (fun v1 => ?_)
      refine j_i2l (pc' := 49) rfl rfl ?_
      refine j_lmul (pc' := 50) rfl rfl ?_
      refine j_letl (fun v2 => ?_)
      refine j_lstore (pc' := 52) (L' := [some (.ref 75), some (.int l1), none, none, some (.long v2), none, some (.int l6)]) rfl rfl rfl ?_
      refine j_lload (pc' := 54) rfl rfl rfl ?_
      refine j_ldc2_w (pc' := 57) (x := (1000000000 : Int64)) rfl rfl rfl ?_
      refine j_lcmp (pc' := 58) rfl rfl ?_
      refine j_two (pT := 61) (pF := 63) (L1 := [some (.ref 75), some (.int l1), none, none, some (.long v2), none, some (.int l6)]) (st1 := []) (fun o kT kF => ?_) (fun h1 => ?_) (fun h1 => ?_)
      · refine j_ifleL (t := 63) (pc' := 61) rfl rfl rfl (fun h2 => ?_) (fun h2 => ?_)
        · exact kF h2
        · exact kT h2
      · refine j_iconst (pc' := 62) (x := (-1 : Int32)) rfl rfl rfl ?_
        exact j_ret rfl rfl rfl (fun _ h => h)
      · refine j_iincx (pc' := 66) (y := (1 : Int32)) (L' := [some (.ref 75), some (.int l1), none, none, some (.long v2), none, some (.int (l6 + (1 : Int32)))]) rfl rfl rfl rfl rfl ?_
        refine j_goto (t := 31) rfl rfl ?_
        exact ih v2 (l6 + (1 : Int32))
    · refine j_lload (pc' := 71) rfl rfl rfl ?_
      refine j_l2i (pc' := 72) rfl rfl ?_
      exact j_ret rfl rfl rfl (fun _ h => h)

theorem c_X12_luck (l1 : Int32) (σ : j_G) : j_K false 3 304 [.ref 75, .int l1] σ (f_X12_luck l1 σ) (j_Pi σ) := by
  refine j_mkK (M := M_cX12_luck) (L := [some (.ref 75), some (.int l1), none, none, none, none, none]) (m := 5) t_304 rfl (j_rcvO j_a75 rfl) rfl (fun d hd τ => ?_)
  unfold f_X12_luck
  refine j_aload_n (pc' := 1) rfl rfl rfl ?_
  refine j_iload_n (pc' := 2) rfl rfl rfl ?_
  refine j_callPi (pc' := 5) (ai := 299) (vs := [.ref 75, .int l1]) (rest := []) rfl rfl (fun _ _ => rfl) (c_X12_asksHeard l1 σ) (j_dd rfl hd) rfl (fun v1 => ?_)
  refine j_istore_n (pc' := 6) (L' := [some (.ref 75), some (.int l1), some (.int v1), none, none, none, none]) rfl rfl rfl ?_
  refine j_iload_n (pc' := 7) rfl rfl rfl ?_
  refine j_two (pT := 10) (pF := 12) (L1 := [some (.ref 75), some (.int l1), some (.int v1), none, none, none, none]) (st1 := []) (fun o kT kF => ?_) (fun h3 => ?_) (fun h3 => ?_)
  · refine j_ifge (t := 12) (pc' := 10) rfl rfl rfl (fun h4 => ?_) (fun h4 => ?_)
    · exact kF h4
    · exact kT h4
  · refine j_iload_n (pc' := 11) rfl rfl rfl ?_
    exact j_ret rfl rfl rfl (fun _ h => h)
  · refine j_aload_n (pc' := 13) rfl rfl rfl ?_
    refine j_iload_n (pc' := 14) rfl rfl rfl ?_
    refine j_callPi (pc' := 17) (ai := 301) (vs := [.ref 75, .int l1]) (rest := []) rfl rfl (fun _ _ => rfl) (c_X12_leastPeriod l1 σ) (j_dd rfl hd) rfl (fun v2 => ?_)
    refine j_istore_n (pc' := 18) (L' := [some (.ref 75), some (.int l1), some (.int v1), some (.int v2), none, none, none]) rfl rfl rfl ?_
    refine j_iload_n (pc' := 19) rfl rfl rfl ?_
    refine j_iconst (pc' := 20) (x := (-1 : Int32)) rfl rfl rfl ?_
    refine j_two (pT := 23) (pF := 25) (L1 := [some (.ref 75), some (.int l1), some (.int v1), some (.int v2), none, none, none]) (st1 := []) (fun o kT kF => ?_) (fun h1 => ?_) (fun h1 => ?_)
    · refine j_icne (t := 25) (pc' := 23) rfl rfl rfl (fun h2 => ?_) (fun h2 => ?_)
      · exact kF h2
      · exact kT h2
    · refine j_iconst (pc' := 24) (x := (-1 : Int32)) rfl rfl rfl ?_
      exact j_ret rfl rfl rfl (fun _ h => h)
    · refine j_lconst (pc' := 26) (x := (1 : Int64)) rfl rfl rfl ?_
      refine j_lstore (pc' := 28) (L' := [some (.ref 75), some (.int l1), some (.int v1), some (.int v2), some (.long (1 : Int64)), none, none]) rfl rfl rfl ?_
      refine j_iload_n (pc' := 29) rfl rfl rfl ?_
      refine j_istore (pc' := 31) (L' := [some (.ref 75), some (.int l1), some (.int v1), some (.int v2), some (.long (1 : Int64)), none, some (.int v2)]) rfl rfl rfl ?_
      refine j_wk [true, true, false, false, true, true, true] (L' := [some (.ref 75), some (.int l1), none, none, some (.long (1 : Int64)), none, some (.int v2)]) rfl ?_
      exact (l_X12_luck_31 hd τ l1 σ j_F (1 : Int64) v2)

noncomputable def p_X3_goesSo_2 (a2 : Nat) (a2_2 : Nat) (l1 : Int32) (σ : j_G) : Nat → Int32 → Option Int32
  | 0, _ => none
  | n + 1, l3 =>
    if l3 < (σ.1 a2 0) then (j_ix l3 60 (
    j_b1 (f_X3_round (l1 + l3) σ) fun v1 =>
    if ¬ (σ.2 a2_2 (l3).toNatClampNeg) = (v1).toInt64 then (some (0 : Int32)) else (p_X3_goesSo_2 a2 a2_2 l1 σ n (l3 + (1 : Int32))))) else (some (1 : Int32))

noncomputable def f_X3_goesSo (a2 : Nat) (a2_2 : Nat) (l1 : Int32) (σ : j_G) : Option Int32 :=
  p_X3_goesSo_2 a2 a2_2 l1 σ j_F (0 : Int32)
theorem l_X3_goesSo_2_5_67 {d : Nat} (hd : 2 ≤ d) (τ : j_G) (l1 : Int32) (σ : j_G) : ∀ (n : Nat) (l3 : Int32), j_J true τ M_cX3_goesSo d 2 [some (.ref 5), some (.int l1), some (.ref 67), some (.int l3)] [] σ (p_X3_goesSo_2 67 68 l1 σ n l3) (j_Pi σ) := by
  intro n
  induction n with
  | zero => intro l3; exact j_none
  | succ n ih =>
    intro l3
    unfold p_X3_goesSo_2
    refine j_iload_n (pc' := 3) rfl rfl rfl ?_
    refine j_aload_n (pc' := 4) rfl rfl rfl ?_
    refine j_gfi (pc' := 7) rfl rfl j_a67 rfl ?_
    refine j_two (pT := 10) (pF := 36) (L1 := [some (.ref 5), some (.int l1), some (.ref 67), some (.int l3)]) (st1 := []) (fun o kT kF => ?_) (fun h3 => ?_) (fun h3 => ?_)
    · refine j_icge (t := 36) (pc' := 10) rfl rfl rfl (fun h4 => ?_) (fun h4 => ?_)
      · exact kF h4
      · exact kT h4
    · refine j_aload_n (pc' := 11) rfl rfl rfl ?_
      refine j_gfr (pc' := 14) (x := 68) rfl rfl j_a67 rfl rfl ?_
      refine j_iload_n (pc' := 15) rfl rfl rfl ?_
      refine j_lald (pc' := 16) rfl rfl j_a68 ?_
      refine j_aload_n (pc' := 17) rfl rfl rfl ?_
      refine j_iload_n (pc' := 18) rfl rfl rfl ?_
      refine j_iload_n (pc' := 19) rfl rfl rfl ?_
      refine j_iadd (pc' := 20) rfl rfl ?_
      refine j_callPi (pc' := 23) (ai := 35) (vs := [.ref 5, .int (l1 + l3)]) (rest := [.long (σ.2 68 (l3).toNatClampNeg)]) rfl rfl (fun _ _ => rfl) (c_X3_round (l1 + l3) σ) (j_dd rfl hd) rfl (fun v1 => ?_)
      refine j_i2l (pc' := 24) rfl rfl ?_
      refine j_lcmp (pc' := 25) rfl rfl ?_
      refine j_two (pT := 28) (pF := 30) (L1 := [some (.ref 5), some (.int l1), some (.ref 67), some (.int l3)]) (st1 := []) (fun o kT kF => ?_) (fun h1 => ?_) (fun h1 => ?_)
      · refine j_ifeqL (t := 30) (pc' := 28) rfl rfl rfl (fun h2 => ?_) (fun h2 => ?_)
        · exact kF (fun z => z h2)
        · exact kT h2
      · refine j_iconst (pc' := 29) (x := (0 : Int32)) rfl rfl rfl ?_
        exact j_ret rfl rfl rfl (fun _ h => h)
      · refine j_iincx (pc' := 33) (y := (1 : Int32)) (L' := [some (.ref 5), some (.int l1), some (.ref 67), some (.int (l3 + (1 : Int32)))]) rfl rfl rfl rfl rfl ?_
        refine j_goto (t := 2) rfl rfl ?_
        exact ih (l3 + (1 : Int32))
    · refine j_iconst (pc' := 37) (x := (1 : Int32)) rfl rfl rfl ?_
      exact j_ret rfl rfl rfl (fun _ h => h)

theorem c_X3_goesSo_5_67 (l1 : Int32) (σ : j_G) : j_K true 2 37 [.ref 5, .int l1, .ref 67] σ (f_X3_goesSo 67 68 l1 σ) (j_Pi σ) := by
  refine j_mkK (M := M_cX3_goesSo) (L := [some (.ref 5), some (.int l1), some (.ref 67), none]) (m := 1) t_37 rfl (j_rcvO j_a5 rfl) rfl (fun d hd τ => ?_)
  unfold f_X3_goesSo
  refine j_iconst (pc' := 1) (x := (0 : Int32)) rfl rfl rfl ?_
  refine j_istore_n (pc' := 2) (L' := [some (.ref 5), some (.int l1), some (.ref 67), some (.int (0 : Int32))]) rfl rfl rfl ?_
  exact (l_X3_goesSo_2_5_67 hd τ l1 σ j_F (0 : Int32))

theorem l_X3_goesSo_2_5_69 {d : Nat} (hd : 2 ≤ d) (τ : j_G) (l1 : Int32) (σ : j_G) : ∀ (n : Nat) (l3 : Int32), j_J true τ M_cX3_goesSo d 2 [some (.ref 5), some (.int l1), some (.ref 69), some (.int l3)] [] σ (p_X3_goesSo_2 69 70 l1 σ n l3) (j_Pi σ) := by
  intro n
  induction n with
  | zero => intro l3; exact j_none
  | succ n ih =>
    intro l3
    unfold p_X3_goesSo_2
    refine j_iload_n (pc' := 3) rfl rfl rfl ?_
    refine j_aload_n (pc' := 4) rfl rfl rfl ?_
    refine j_gfi (pc' := 7) rfl rfl j_a69 rfl ?_
    refine j_two (pT := 10) (pF := 36) (L1 := [some (.ref 5), some (.int l1), some (.ref 69), some (.int l3)]) (st1 := []) (fun o kT kF => ?_) (fun h3 => ?_) (fun h3 => ?_)
    · refine j_icge (t := 36) (pc' := 10) rfl rfl rfl (fun h4 => ?_) (fun h4 => ?_)
      · exact kF h4
      · exact kT h4
    · refine j_aload_n (pc' := 11) rfl rfl rfl ?_
      refine j_gfr (pc' := 14) (x := 70) rfl rfl j_a69 rfl rfl ?_
      refine j_iload_n (pc' := 15) rfl rfl rfl ?_
      refine j_lald (pc' := 16) rfl rfl j_a70 ?_
      refine j_aload_n (pc' := 17) rfl rfl rfl ?_
      refine j_iload_n (pc' := 18) rfl rfl rfl ?_
      refine j_iload_n (pc' := 19) rfl rfl rfl ?_
      refine j_iadd (pc' := 20) rfl rfl ?_
      refine j_callPi (pc' := 23) (ai := 35) (vs := [.ref 5, .int (l1 + l3)]) (rest := [.long (σ.2 70 (l3).toNatClampNeg)]) rfl rfl (fun _ _ => rfl) (c_X3_round (l1 + l3) σ) (j_dd rfl hd) rfl (fun v1 => ?_)
      refine j_i2l (pc' := 24) rfl rfl ?_
      refine j_lcmp (pc' := 25) rfl rfl ?_
      refine j_two (pT := 28) (pF := 30) (L1 := [some (.ref 5), some (.int l1), some (.ref 69), some (.int l3)]) (st1 := []) (fun o kT kF => ?_) (fun h1 => ?_) (fun h1 => ?_)
      · refine j_ifeqL (t := 30) (pc' := 28) rfl rfl rfl (fun h2 => ?_) (fun h2 => ?_)
        · exact kF (fun z => z h2)
        · exact kT h2
      · refine j_iconst (pc' := 29) (x := (0 : Int32)) rfl rfl rfl ?_
        exact j_ret rfl rfl rfl (fun _ h => h)
      · refine j_iincx (pc' := 33) (y := (1 : Int32)) (L' := [some (.ref 5), some (.int l1), some (.ref 69), some (.int (l3 + (1 : Int32)))]) rfl rfl rfl rfl rfl ?_
        refine j_goto (t := 2) rfl rfl ?_
        exact ih (l3 + (1 : Int32))
    · refine j_iconst (pc' := 37) (x := (1 : Int32)) rfl rfl rfl ?_
      exact j_ret rfl rfl rfl (fun _ h => h)

theorem c_X3_goesSo_5_69 (l1 : Int32) (σ : j_G) : j_K true 2 37 [.ref 5, .int l1, .ref 69] σ (f_X3_goesSo 69 70 l1 σ) (j_Pi σ) := by
  refine j_mkK (M := M_cX3_goesSo) (L := [some (.ref 5), some (.int l1), some (.ref 69), none]) (m := 1) t_37 rfl (j_rcvO j_a5 rfl) rfl (fun d hd τ => ?_)
  unfold f_X3_goesSo
  refine j_iconst (pc' := 1) (x := (0 : Int32)) rfl rfl rfl ?_
  refine j_istore_n (pc' := 2) (L' := [some (.ref 5), some (.int l1), some (.ref 69), some (.int (0 : Int32))]) rfl rfl rfl ?_
  exact (l_X3_goesSo_2_5_69 hd τ l1 σ j_F (0 : Int32))

theorem l_X3_goesSo_2_5_71 {d : Nat} (hd : 2 ≤ d) (τ : j_G) (l1 : Int32) (σ : j_G) : ∀ (n : Nat) (l3 : Int32), j_J true τ M_cX3_goesSo d 2 [some (.ref 5), some (.int l1), some (.ref 71), some (.int l3)] [] σ (p_X3_goesSo_2 71 72 l1 σ n l3) (j_Pi σ) := by
  intro n
  induction n with
  | zero => intro l3; exact j_none
  | succ n ih =>
    intro l3
    unfold p_X3_goesSo_2
    refine j_iload_n (pc' := 3) rfl rfl rfl ?_
    refine j_aload_n (pc' := 4) rfl rfl rfl ?_
    refine j_gfi (pc' := 7) rfl rfl j_a71 rfl ?_
    refine j_two (pT := 10) (pF := 36) (L1 := [some (.ref 5), some (.int l1), some (.ref 71), some (.int l3)]) (st1 := []) (fun o kT kF => ?_) (fun h3 => ?_) (fun h3 => ?_)
    · refine j_icge (t := 36) (pc' := 10) rfl rfl rfl (fun h4 => ?_) (fun h4 => ?_)
      · exact kF h4
      · exact kT h4
    · refine j_aload_n (pc' := 11) rfl rfl rfl ?_
      refine j_gfr (pc' := 14) (x := 72) rfl rfl j_a71 rfl rfl ?_
      refine j_iload_n (pc' := 15) rfl rfl rfl ?_
      refine j_lald (pc' := 16) rfl rfl j_a72 ?_
      refine j_aload_n (pc' := 17) rfl rfl rfl ?_
      refine j_iload_n (pc' := 18) rfl rfl rfl ?_
      refine j_iload_n (pc' := 19) rfl rfl rfl ?_
      refine j_iadd (pc' := 20) rfl rfl ?_
      refine j_callPi (pc' := 23) (ai := 35) (vs := [.ref 5, .int (l1 + l3)]) (rest := [.long (σ.2 72 (l3).toNatClampNeg)]) rfl rfl (fun _ _ => rfl) (c_X3_round (l1 + l3) σ) (j_dd rfl hd) rfl (fun v1 => ?_)
      refine j_i2l (pc' := 24) rfl rfl ?_
      refine j_lcmp (pc' := 25) rfl rfl ?_
      refine j_two (pT := 28) (pF := 30) (L1 := [some (.ref 5), some (.int l1), some (.ref 71), some (.int l3)]) (st1 := []) (fun o kT kF => ?_) (fun h1 => ?_) (fun h1 => ?_)
      · refine j_ifeqL (t := 30) (pc' := 28) rfl rfl rfl (fun h2 => ?_) (fun h2 => ?_)
        · exact kF (fun z => z h2)
        · exact kT h2
      · refine j_iconst (pc' := 29) (x := (0 : Int32)) rfl rfl rfl ?_
        exact j_ret rfl rfl rfl (fun _ h => h)
      · refine j_iincx (pc' := 33) (y := (1 : Int32)) (L' := [some (.ref 5), some (.int l1), some (.ref 71), some (.int (l3 + (1 : Int32)))]) rfl rfl rfl rfl rfl ?_
        refine j_goto (t := 2) rfl rfl ?_
        exact ih (l3 + (1 : Int32))
    · refine j_iconst (pc' := 37) (x := (1 : Int32)) rfl rfl rfl ?_
      exact j_ret rfl rfl rfl (fun _ h => h)

theorem c_X3_goesSo_5_71 (l1 : Int32) (σ : j_G) : j_K true 2 37 [.ref 5, .int l1, .ref 71] σ (f_X3_goesSo 71 72 l1 σ) (j_Pi σ) := by
  refine j_mkK (M := M_cX3_goesSo) (L := [some (.ref 5), some (.int l1), some (.ref 71), none]) (m := 1) t_37 rfl (j_rcvO j_a5 rfl) rfl (fun d hd τ => ?_)
  unfold f_X3_goesSo
  refine j_iconst (pc' := 1) (x := (0 : Int32)) rfl rfl rfl ?_
  refine j_istore_n (pc' := 2) (L' := [some (.ref 5), some (.int l1), some (.ref 71), some (.int (0 : Int32))]) rfl rfl rfl ?_
  exact (l_X3_goesSo_2_5_71 hd τ l1 σ j_F (0 : Int32))

theorem l_X3_goesSo_2_5_73 {d : Nat} (hd : 2 ≤ d) (τ : j_G) (l1 : Int32) (σ : j_G) : ∀ (n : Nat) (l3 : Int32), j_J true τ M_cX3_goesSo d 2 [some (.ref 5), some (.int l1), some (.ref 73), some (.int l3)] [] σ (p_X3_goesSo_2 73 74 l1 σ n l3) (j_Pi σ) := by
  intro n
  induction n with
  | zero => intro l3; exact j_none
  | succ n ih =>
    intro l3
    unfold p_X3_goesSo_2
    refine j_iload_n (pc' := 3) rfl rfl rfl ?_
    refine j_aload_n (pc' := 4) rfl rfl rfl ?_
    refine j_gfi (pc' := 7) rfl rfl j_a73 rfl ?_
    refine j_two (pT := 10) (pF := 36) (L1 := [some (.ref 5), some (.int l1), some (.ref 73), some (.int l3)]) (st1 := []) (fun o kT kF => ?_) (fun h3 => ?_) (fun h3 => ?_)
    · refine j_icge (t := 36) (pc' := 10) rfl rfl rfl (fun h4 => ?_) (fun h4 => ?_)
      · exact kF h4
      · exact kT h4
    · refine j_aload_n (pc' := 11) rfl rfl rfl ?_
      refine j_gfr (pc' := 14) (x := 74) rfl rfl j_a73 rfl rfl ?_
      refine j_iload_n (pc' := 15) rfl rfl rfl ?_
      refine j_lald (pc' := 16) rfl rfl j_a74 ?_
      refine j_aload_n (pc' := 17) rfl rfl rfl ?_
      refine j_iload_n (pc' := 18) rfl rfl rfl ?_
      refine j_iload_n (pc' := 19) rfl rfl rfl ?_
      refine j_iadd (pc' := 20) rfl rfl ?_
      refine j_callPi (pc' := 23) (ai := 35) (vs := [.ref 5, .int (l1 + l3)]) (rest := [.long (σ.2 74 (l3).toNatClampNeg)]) rfl rfl (fun _ _ => rfl) (c_X3_round (l1 + l3) σ) (j_dd rfl hd) rfl (fun v1 => ?_)
      refine j_i2l (pc' := 24) rfl rfl ?_
      refine j_lcmp (pc' := 25) rfl rfl ?_
      refine j_two (pT := 28) (pF := 30) (L1 := [some (.ref 5), some (.int l1), some (.ref 73), some (.int l3)]) (st1 := []) (fun o kT kF => ?_) (fun h1 => ?_) (fun h1 => ?_)
      · refine j_ifeqL (t := 30) (pc' := 28) rfl rfl rfl (fun h2 => ?_) (fun h2 => ?_)
        · exact kF (fun z => z h2)
        · exact kT h2
      · refine j_iconst (pc' := 29) (x := (0 : Int32)) rfl rfl rfl ?_
        exact j_ret rfl rfl rfl (fun _ h => h)
      · refine j_iincx (pc' := 33) (y := (1 : Int32)) (L' := [some (.ref 5), some (.int l1), some (.ref 73), some (.int (l3 + (1 : Int32)))]) rfl rfl rfl rfl rfl ?_
        refine j_goto (t := 2) rfl rfl ?_
        exact ih (l3 + (1 : Int32))
    · refine j_iconst (pc' := 37) (x := (1 : Int32)) rfl rfl rfl ?_
      exact j_ret rfl rfl rfl (fun _ h => h)

theorem c_X3_goesSo_5_73 (l1 : Int32) (σ : j_G) : j_K true 2 37 [.ref 5, .int l1, .ref 73] σ (f_X3_goesSo 73 74 l1 σ) (j_Pi σ) := by
  refine j_mkK (M := M_cX3_goesSo) (L := [some (.ref 5), some (.int l1), some (.ref 73), none]) (m := 1) t_37 rfl (j_rcvO j_a5 rfl) rfl (fun d hd τ => ?_)
  unfold f_X3_goesSo
  refine j_iconst (pc' := 1) (x := (0 : Int32)) rfl rfl rfl ?_
  refine j_istore_n (pc' := 2) (L' := [some (.ref 5), some (.int l1), some (.ref 73), some (.int (0 : Int32))]) rfl rfl rfl ?_
  exact (l_X3_goesSo_2_5_73 hd τ l1 σ j_F (0 : Int32))

noncomputable def p_X11_fits_17 (s46 : Nat) (s46_2 : Nat) (σ : j_G) : Nat → Int32 → Int32 → Option Int32
  | 0, _, _ => none
  | n + 1, l3, l4 =>
    if l4 < (σ.1 5 0) then (j_b1 (f_X3_goesSo s46 s46_2 l4 σ) fun v1 =>
    j_lt (if ¬ v1 = 0 then ((l3 + (1 : Int32))) else (l3)) fun v2 =>
    p_X11_fits_17 s46 s46_2 σ n v2 (l4 + (1 : Int32))) else (some l3)

noncomputable def f_X11_fits (l1 : Int32) (σ : j_G) : Option Int32 :=
  j_b1 (f_X11_whyUnheard l1 σ) fun v1 =>
  if ¬ v1 = 0 then (some v1) else (if l1 = 0 then (j_b1 (p_X11_fits_17 67 68 σ j_F (0 : Int32) (0 : Int32)) fun v2 =>
  some v2) else
  if l1 = 1 then (j_b1 (p_X11_fits_17 69 70 σ j_F (0 : Int32) (0 : Int32)) fun v3 =>
  some v3) else
  if l1 = 2 then (j_b1 (p_X11_fits_17 71 72 σ j_F (0 : Int32) (0 : Int32)) fun v4 =>
  some v4) else
  if l1 = 3 then (j_b1 (p_X11_fits_17 73 74 σ j_F (0 : Int32) (0 : Int32)) fun v5 =>
  some v5) else
  none)
theorem l_X11_fits_17_67_68 {d : Nat} (hd : 3 ≤ d) (τ : j_G) (σ : j_G) : ∀ (n : Nat) (l3 : Int32) (l4 : Int32), j_J true τ M_cX11_fits d 17 [some (.ref 0), some (.int (0 : Int32)), none, some (.int l3), some (.int l4)] [] σ (p_X11_fits_17 67 68 σ n l3 l4) (fun r Q => j_Tr true τ M_cX11_fits d 62 [none, none, none, some (.int r), none] [] σ Q) := by
  intro n
  induction n with
  | zero => intro l3 l4; exact j_none
  | succ n ih =>
    intro l3 l4
    unfold p_X11_fits_17
    refine j_iload (pc' := 19) rfl rfl rfl ?_
    refine j_aload_n (pc' := 20) rfl rfl rfl ?_
    refine j_gfr (pc' := 23) (x := 1) rfl rfl j_a0 rfl rfl ?_
    refine j_gfr (pc' := 26) (x := 5) rfl rfl j_a1 rfl rfl ?_
    refine j_gfi (pc' := 29) rfl rfl j_a5 rfl ?_
    refine j_two (pT := 32) (pF := 62) (L1 := [some (.ref 0), some (.int (0 : Int32)), none, some (.int l3), some (.int l4)]) (st1 := []) (fun o kT kF => ?_) (fun h3 => ?_) (fun h3 => ?_)
    · refine j_icge (t := 62) (pc' := 32) rfl rfl rfl (fun h4 => ?_) (fun h4 => ?_)
      · exact kF h4
      · exact kT h4
    · refine j_aload_n (pc' := 33) rfl rfl rfl ?_
      refine j_gfr (pc' := 36) (x := 1) rfl rfl j_a0 rfl rfl ?_
      refine j_gfr (pc' := 39) (x := 5) rfl rfl j_a1 rfl rfl ?_
      refine j_iload (pc' := 41) rfl rfl rfl ?_
      refine j_aload_n (pc' := 42) rfl rfl rfl ?_
      refine j_gfr (pc' := 45) (x := 42) rfl rfl j_a0 rfl rfl ?_
      refine j_iload_n (pc' := 46) rfl rfl rfl ?_
      refine j_aald (pc' := 47) (r := 67) rfl rfl j_a42 (by decide) rfl ?_
      refine j_callPi (pc' := 50) (ai := 37) (vs := [.ref 5, .int l4, .ref 67]) (rest := []) rfl rfl (fun _ _ => rfl) (c_X3_goesSo_5_67 l4 σ) (j_dd rfl hd) rfl (fun v1 => ?_)
      refine j_ql (Φl := (fun r Q => j_Tr true τ M_cX11_fits d 56 [some (.ref 0), some (.int (0 : Int32)), none, some (.int r), some (.int l4)] [] σ Q)) ?_ (fun v2 => ?_)
      · refine j_twoT (pT := 53) (pF := 56) (L1 := [some (.ref 0), some (.int (0 : Int32)), none, some (.int l3), some (.int l4)]) (st1 := []) (fun o kT kF => ?_) (fun h1 => ?_) (fun h1 => ?_)
        · refine j_ifeq (t := 56) (pc' := 53) rfl rfl rfl (fun h2 => ?_) (fun h2 => ?_)
          · exact kF (fun z => z h2)
          · exact kT h2
        · refine j_iincx (pc' := 56) (y := (1 : Int32)) (L' := [some (.ref 0), some (.int (0 : Int32)), none, some (.int (l3 + (1 : Int32))), some (.int l4)]) rfl rfl rfl rfl rfl ?_
          exact j_end (fun _ h => h)
        · exact j_end (fun _ h => h)
      show j_J true τ M_cX11_fits d 56 [some (.ref 0), some (.int (0 : Int32)), none, some (.int v2), some (.int l4)] [] σ _ _
      refine j_iincx (pc' := 59) (y := (1 : Int32)) (L' := [some (.ref 0), some (.int (0 : Int32)), none, some (.int v2), some (.int (l4 + (1 : Int32)))]) rfl rfl rfl rfl rfl ?_
      refine j_goto (t := 17) rfl rfl ?_
      exact ih v2 (l4 + (1 : Int32))
    · refine j_wk [false, false, true, true, false] (L' := [none, none, none, some (.int l3), none]) rfl ?_
      exact j_end (fun _ h => h)

theorem l_X11_fits_17_69_70 {d : Nat} (hd : 3 ≤ d) (τ : j_G) (σ : j_G) : ∀ (n : Nat) (l3 : Int32) (l4 : Int32), j_J true τ M_cX11_fits d 17 [some (.ref 0), some (.int (1 : Int32)), none, some (.int l3), some (.int l4)] [] σ (p_X11_fits_17 69 70 σ n l3 l4) (fun r Q => j_Tr true τ M_cX11_fits d 62 [none, none, none, some (.int r), none] [] σ Q) := by
  intro n
  induction n with
  | zero => intro l3 l4; exact j_none
  | succ n ih =>
    intro l3 l4
    unfold p_X11_fits_17
    refine j_iload (pc' := 19) rfl rfl rfl ?_
    refine j_aload_n (pc' := 20) rfl rfl rfl ?_
    refine j_gfr (pc' := 23) (x := 1) rfl rfl j_a0 rfl rfl ?_
    refine j_gfr (pc' := 26) (x := 5) rfl rfl j_a1 rfl rfl ?_
    refine j_gfi (pc' := 29) rfl rfl j_a5 rfl ?_
    refine j_two (pT := 32) (pF := 62) (L1 := [some (.ref 0), some (.int (1 : Int32)), none, some (.int l3), some (.int l4)]) (st1 := []) (fun o kT kF => ?_) (fun h3 => ?_) (fun h3 => ?_)
    · refine j_icge (t := 62) (pc' := 32) rfl rfl rfl (fun h4 => ?_) (fun h4 => ?_)
      · exact kF h4
      · exact kT h4
    · refine j_aload_n (pc' := 33) rfl rfl rfl ?_
      refine j_gfr (pc' := 36) (x := 1) rfl rfl j_a0 rfl rfl ?_
      refine j_gfr (pc' := 39) (x := 5) rfl rfl j_a1 rfl rfl ?_
      refine j_iload (pc' := 41) rfl rfl rfl ?_
      refine j_aload_n (pc' := 42) rfl rfl rfl ?_
      refine j_gfr (pc' := 45) (x := 42) rfl rfl j_a0 rfl rfl ?_
      refine j_iload_n (pc' := 46) rfl rfl rfl ?_
      refine j_aald (pc' := 47) (r := 69) rfl rfl j_a42 (by decide) rfl ?_
      refine j_callPi (pc' := 50) (ai := 37) (vs := [.ref 5, .int l4, .ref 69]) (rest := []) rfl rfl (fun _ _ => rfl) (c_X3_goesSo_5_69 l4 σ) (j_dd rfl hd) rfl (fun v1 => ?_)
      refine j_ql (Φl := (fun r Q => j_Tr true τ M_cX11_fits d 56 [some (.ref 0), some (.int (1 : Int32)), none, some (.int r), some (.int l4)] [] σ Q)) ?_ (fun v2 => ?_)
      · refine j_twoT (pT := 53) (pF := 56) (L1 := [some (.ref 0), some (.int (1 : Int32)), none, some (.int l3), some (.int l4)]) (st1 := []) (fun o kT kF => ?_) (fun h1 => ?_) (fun h1 => ?_)
        · refine j_ifeq (t := 56) (pc' := 53) rfl rfl rfl (fun h2 => ?_) (fun h2 => ?_)
          · exact kF (fun z => z h2)
          · exact kT h2
        · refine j_iincx (pc' := 56) (y := (1 : Int32)) (L' := [some (.ref 0), some (.int (1 : Int32)), none, some (.int (l3 + (1 : Int32))), some (.int l4)]) rfl rfl rfl rfl rfl ?_
          exact j_end (fun _ h => h)
        · exact j_end (fun _ h => h)
      show j_J true τ M_cX11_fits d 56 [some (.ref 0), some (.int (1 : Int32)), none, some (.int v2), some (.int l4)] [] σ _ _
      refine j_iincx (pc' := 59) (y := (1 : Int32)) (L' := [some (.ref 0), some (.int (1 : Int32)), none, some (.int v2), some (.int (l4 + (1 : Int32)))]) rfl rfl rfl rfl rfl ?_
      refine j_goto (t := 17) rfl rfl ?_
      exact ih v2 (l4 + (1 : Int32))
    · refine j_wk [false, false, true, true, false] (L' := [none, none, none, some (.int l3), none]) rfl ?_
      exact j_end (fun _ h => h)

theorem l_X11_fits_17_71_72 {d : Nat} (hd : 3 ≤ d) (τ : j_G) (σ : j_G) : ∀ (n : Nat) (l3 : Int32) (l4 : Int32), j_J true τ M_cX11_fits d 17 [some (.ref 0), some (.int (2 : Int32)), none, some (.int l3), some (.int l4)] [] σ (p_X11_fits_17 71 72 σ n l3 l4) (fun r Q => j_Tr true τ M_cX11_fits d 62 [none, none, none, some (.int r), none] [] σ Q) := by
  intro n
  induction n with
  | zero => intro l3 l4; exact j_none
  | succ n ih =>
    intro l3 l4
    unfold p_X11_fits_17
    refine j_iload (pc' := 19) rfl rfl rfl ?_
    refine j_aload_n (pc' := 20) rfl rfl rfl ?_
    refine j_gfr (pc' := 23) (x := 1) rfl rfl j_a0 rfl rfl ?_
    refine j_gfr (pc' := 26) (x := 5) rfl rfl j_a1 rfl rfl ?_
    refine j_gfi (pc' := 29) rfl rfl j_a5 rfl ?_
    refine j_two (pT := 32) (pF := 62) (L1 := [some (.ref 0), some (.int (2 : Int32)), none, some (.int l3), some (.int l4)]) (st1 := []) (fun o kT kF => ?_) (fun h3 => ?_) (fun h3 => ?_)
    · refine j_icge (t := 62) (pc' := 32) rfl rfl rfl (fun h4 => ?_) (fun h4 => ?_)
      · exact kF h4
      · exact kT h4
    · refine j_aload_n (pc' := 33) rfl rfl rfl ?_
      refine j_gfr (pc' := 36) (x := 1) rfl rfl j_a0 rfl rfl ?_
      refine j_gfr (pc' := 39) (x := 5) rfl rfl j_a1 rfl rfl ?_
      refine j_iload (pc' := 41) rfl rfl rfl ?_
      refine j_aload_n (pc' := 42) rfl rfl rfl ?_
      refine j_gfr (pc' := 45) (x := 42) rfl rfl j_a0 rfl rfl ?_
      refine j_iload_n (pc' := 46) rfl rfl rfl ?_
      refine j_aald (pc' := 47) (r := 71) rfl rfl j_a42 (by decide) rfl ?_
      refine j_callPi (pc' := 50) (ai := 37) (vs := [.ref 5, .int l4, .ref 71]) (rest := []) rfl rfl (fun _ _ => rfl) (c_X3_goesSo_5_71 l4 σ) (j_dd rfl hd) rfl (fun v1 => ?_)
      refine j_ql (Φl := (fun r Q => j_Tr true τ M_cX11_fits d 56 [some (.ref 0), some (.int (2 : Int32)), none, some (.int r), some (.int l4)] [] σ Q)) ?_ (fun v2 => ?_)
      · refine j_twoT (pT := 53) (pF := 56) (L1 := [some (.ref 0), some (.int (2 : Int32)), none, some (.int l3), some (.int l4)]) (st1 := []) (fun o kT kF => ?_) (fun h1 => ?_) (fun h1 => ?_)
        · refine j_ifeq (t := 56) (pc' := 53) rfl rfl rfl (fun h2 => ?_) (fun h2 => ?_)
          · exact kF (fun z => z h2)
          · exact kT h2
        · refine j_iincx (pc' := 56) (y := (1 : Int32)) (L' := [some (.ref 0), some (.int (2 : Int32)), none, some (.int (l3 + (1 : Int32))), some (.int l4)]) rfl rfl rfl rfl rfl ?_
          exact j_end (fun _ h => h)
        · exact j_end (fun _ h => h)
      show j_J true τ M_cX11_fits d 56 [some (.ref 0), some (.int (2 : Int32)), none, some (.int v2), some (.int l4)] [] σ _ _
      refine j_iincx (pc' := 59) (y := (1 : Int32)) (L' := [some (.ref 0), some (.int (2 : Int32)), none, some (.int v2), some (.int (l4 + (1 : Int32)))]) rfl rfl rfl rfl rfl ?_
      refine j_goto (t := 17) rfl rfl ?_
      exact ih v2 (l4 + (1 : Int32))
    · refine j_wk [false, false, true, true, false] (L' := [none, none, none, some (.int l3), none]) rfl ?_
      exact j_end (fun _ h => h)

theorem l_X11_fits_17_73_74 {d : Nat} (hd : 3 ≤ d) (τ : j_G) (σ : j_G) : ∀ (n : Nat) (l3 : Int32) (l4 : Int32), j_J true τ M_cX11_fits d 17 [some (.ref 0), some (.int (3 : Int32)), none, some (.int l3), some (.int l4)] [] σ (p_X11_fits_17 73 74 σ n l3 l4) (fun r Q => j_Tr true τ M_cX11_fits d 62 [none, none, none, some (.int r), none] [] σ Q) := by
  intro n
  induction n with
  | zero => intro l3 l4; exact j_none
  | succ n ih =>
    intro l3 l4
    unfold p_X11_fits_17
    refine j_iload (pc' := 19) rfl rfl rfl ?_
    refine j_aload_n (pc' := 20) rfl rfl rfl ?_
    refine j_gfr (pc' := 23) (x := 1) rfl rfl j_a0 rfl rfl ?_
    refine j_gfr (pc' := 26) (x := 5) rfl rfl j_a1 rfl rfl ?_
    refine j_gfi (pc' := 29) rfl rfl j_a5 rfl ?_
    refine j_two (pT := 32) (pF := 62) (L1 := [some (.ref 0), some (.int (3 : Int32)), none, some (.int l3), some (.int l4)]) (st1 := []) (fun o kT kF => ?_) (fun h3 => ?_) (fun h3 => ?_)
    · refine j_icge (t := 62) (pc' := 32) rfl rfl rfl (fun h4 => ?_) (fun h4 => ?_)
      · exact kF h4
      · exact kT h4
    · refine j_aload_n (pc' := 33) rfl rfl rfl ?_
      refine j_gfr (pc' := 36) (x := 1) rfl rfl j_a0 rfl rfl ?_
      refine j_gfr (pc' := 39) (x := 5) rfl rfl j_a1 rfl rfl ?_
      refine j_iload (pc' := 41) rfl rfl rfl ?_
      refine j_aload_n (pc' := 42) rfl rfl rfl ?_
      refine j_gfr (pc' := 45) (x := 42) rfl rfl j_a0 rfl rfl ?_
      refine j_iload_n (pc' := 46) rfl rfl rfl ?_
      refine j_aald (pc' := 47) (r := 73) rfl rfl j_a42 (by decide) rfl ?_
      refine j_callPi (pc' := 50) (ai := 37) (vs := [.ref 5, .int l4, .ref 73]) (rest := []) rfl rfl (fun _ _ => rfl) (c_X3_goesSo_5_73 l4 σ) (j_dd rfl hd) rfl (fun v1 => ?_)
      refine j_ql (Φl := (fun r Q => j_Tr true τ M_cX11_fits d 56 [some (.ref 0), some (.int (3 : Int32)), none, some (.int r), some (.int l4)] [] σ Q)) ?_ (fun v2 => ?_)
      · refine j_twoT (pT := 53) (pF := 56) (L1 := [some (.ref 0), some (.int (3 : Int32)), none, some (.int l3), some (.int l4)]) (st1 := []) (fun o kT kF => ?_) (fun h1 => ?_) (fun h1 => ?_)
        · refine j_ifeq (t := 56) (pc' := 53) rfl rfl rfl (fun h2 => ?_) (fun h2 => ?_)
          · exact kF (fun z => z h2)
          · exact kT h2
        · refine j_iincx (pc' := 56) (y := (1 : Int32)) (L' := [some (.ref 0), some (.int (3 : Int32)), none, some (.int (l3 + (1 : Int32))), some (.int l4)]) rfl rfl rfl rfl rfl ?_
          exact j_end (fun _ h => h)
        · exact j_end (fun _ h => h)
      show j_J true τ M_cX11_fits d 56 [some (.ref 0), some (.int (3 : Int32)), none, some (.int v2), some (.int l4)] [] σ _ _
      refine j_iincx (pc' := 59) (y := (1 : Int32)) (L' := [some (.ref 0), some (.int (3 : Int32)), none, some (.int v2), some (.int (l4 + (1 : Int32)))]) rfl rfl rfl rfl rfl ?_
      refine j_goto (t := 17) rfl rfl ?_
      exact ih v2 (l4 + (1 : Int32))
    · refine j_wk [false, false, true, true, false] (L' := [none, none, none, some (.int l3), none]) rfl ?_
      exact j_end (fun _ h => h)

theorem c_X11_fits (l1 : Int32) (σ : j_G) : j_K true 3 151 [.ref 0, .int l1] σ (f_X11_fits l1 σ) (j_Pi σ) := by
  refine j_mkK (M := M_cX11_fits) (L := [some (.ref 0), some (.int l1), none, none, none]) (m := 3) t_151 rfl (j_rcvO j_a0 rfl) rfl (fun d hd τ => ?_)
  unfold f_X11_fits
  refine j_aload_n (pc' := 1) rfl rfl rfl ?_
  refine j_iload_n (pc' := 2) rfl rfl rfl ?_
  refine j_callPi (pc' := 5) (ai := 193) (vs := [.ref 0, .int l1]) (rest := []) rfl rfl (fun _ _ => rfl) (c_X11_whyUnheard l1 σ) (j_dd rfl hd) rfl (fun v1 => ?_)
  refine j_istore_n (pc' := 6) (L' := [some (.ref 0), some (.int l1), some (.int v1), none, none]) rfl rfl rfl ?_
  refine j_iload_n (pc' := 7) rfl rfl rfl ?_
  refine j_two (pT := 10) (pF := 12) (L1 := [some (.ref 0), some (.int l1), some (.int v1), none, none]) (st1 := []) (fun o kT kF => ?_) (fun h5 => ?_) (fun h5 => ?_)
  · refine j_ifeq (t := 12) (pc' := 10) rfl rfl rfl (fun h6 => ?_) (fun h6 => ?_)
    · exact kF (fun z => z h6)
    · exact kT h6
  · refine j_iload_n (pc' := 11) rfl rfl rfl ?_
    exact j_ret rfl rfl rfl (fun _ h => h)
  · refine j_iconst (pc' := 13) (x := (0 : Int32)) rfl rfl rfl ?_
    refine j_istore_n (pc' := 14) (L' := [some (.ref 0), some (.int l1), some (.int v1), some (.int (0 : Int32)), none]) rfl rfl rfl ?_
    refine j_iconst (pc' := 15) (x := (0 : Int32)) rfl rfl rfl ?_
    refine j_istore (pc' := 17) (L' := [some (.ref 0), some (.int l1), some (.int v1), some (.int (0 : Int32)), some (.int (0 : Int32))]) rfl rfl rfl ?_
    refine j_splx (i := l1) (k := (0 : Int32)) (fun h1 => ?_) (fun h1 => ?_)
    · subst h1
      refine j_wk [true, true, false, true, true] (L' := [some (.ref 0), some (.int (0 : Int32)), none, some (.int (0 : Int32)), some (.int (0 : Int32))]) rfl ?_
      refine j_q1 (l_X11_fits_17_67_68 hd τ σ j_F (0 : Int32) (0 : Int32)) (fun v2 => ?_)
      show j_J true τ M_cX11_fits d 62 [none, none, none, some (.int v2), none] [] σ _ _
      refine j_iload_n (pc' := 63) rfl rfl rfl ?_
      exact j_ret rfl rfl rfl (fun _ h => h)
    refine j_splx (i := l1) (k := (1 : Int32)) (fun h2 => ?_) (fun h2 => ?_)
    · subst h2
      refine j_wk [true, true, false, true, true] (L' := [some (.ref 0), some (.int (1 : Int32)), none, some (.int (0 : Int32)), some (.int (0 : Int32))]) rfl ?_
      refine j_q1 (l_X11_fits_17_69_70 hd τ σ j_F (0 : Int32) (0 : Int32)) (fun v3 => ?_)
      show j_J true τ M_cX11_fits d 62 [none, none, none, some (.int v3), none] [] σ _ _
      refine j_iload_n (pc' := 63) rfl rfl rfl ?_
      exact j_ret rfl rfl rfl (fun _ h => h)
    refine j_splx (i := l1) (k := (2 : Int32)) (fun h3 => ?_) (fun h3 => ?_)
    · subst h3
      refine j_wk [true, true, false, true, true] (L' := [some (.ref 0), some (.int (2 : Int32)), none, some (.int (0 : Int32)), some (.int (0 : Int32))]) rfl ?_
      refine j_q1 (l_X11_fits_17_71_72 hd τ σ j_F (0 : Int32) (0 : Int32)) (fun v4 => ?_)
      show j_J true τ M_cX11_fits d 62 [none, none, none, some (.int v4), none] [] σ _ _
      refine j_iload_n (pc' := 63) rfl rfl rfl ?_
      exact j_ret rfl rfl rfl (fun _ h => h)
    refine j_splx (i := l1) (k := (3 : Int32)) (fun h4 => ?_) (fun h4 => ?_)
    · subst h4
      refine j_wk [true, true, false, true, true] (L' := [some (.ref 0), some (.int (3 : Int32)), none, some (.int (0 : Int32)), some (.int (0 : Int32))]) rfl ?_
      refine j_q1 (l_X11_fits_17_73_74 hd τ σ j_F (0 : Int32) (0 : Int32)) (fun v5 => ?_)
      show j_J true τ M_cX11_fits d 62 [none, none, none, some (.int v5), none] [] σ _ _
      refine j_iload_n (pc' := 63) rfl rfl rfl ?_
      exact j_ret rfl rfl rfl (fun _ h => h)
    exact j_none

noncomputable def p_X12_fitsFrom_2 (l1 : Int32) (l2 : Int32) (σ : j_G) : Nat → Int32 → Option Int32
  | 0, _ => none
  | n + 1, l3 =>
    j_ix l1 4 (
    if l3 < (σ.1 94 (l1).toNatClampNeg) then (j_b1 (f_X12_holeAt (l2 + l3) σ) fun v1 =>
    j_b1 (f_X12_numberAt l1 l3 σ) fun v2 =>
    if ¬ (v1).toInt64 = v2 then (some (0 : Int32)) else (p_X12_fitsFrom_2 l1 l2 σ n (l3 + (1 : Int32)))) else (some (1 : Int32)))

noncomputable def f_X12_fitsFrom (l1 : Int32) (l2 : Int32) (σ : j_G) : Option Int32 :=
  p_X12_fitsFrom_2 l1 l2 σ j_F (0 : Int32)
theorem l_X12_fitsFrom_2 {d : Nat} (hd : 2 ≤ d) (τ : j_G) (l1 : Int32) (l2 : Int32) (σ : j_G) : ∀ (n : Nat) (l3 : Int32), j_J false τ M_cX12_fitsFrom d 2 [some (.ref 75), some (.int l1), some (.int l2), some (.int l3)] [] σ (p_X12_fitsFrom_2 l1 l2 σ n l3) (j_Pi σ) := by
  intro n
  induction n with
  | zero => intro l3; exact j_none
  | succ n ih =>
    intro l3
    unfold p_X12_fitsFrom_2
    refine j_iload_n (pc' := 3) rfl rfl rfl ?_
    refine j_aload_n (pc' := 4) rfl rfl rfl ?_
    refine j_gfr (pc' := 7) (x := 94) rfl rfl j_a75 rfl rfl ?_
    refine j_iload_n (pc' := 8) rfl rfl rfl ?_
    refine j_iald (pc' := 9) rfl rfl j_a94 ?_
    refine j_two (pT := 12) (pF := 38) (L1 := [some (.ref 75), some (.int l1), some (.int l2), some (.int l3)]) (st1 := []) (fun o kT kF => ?_) (fun h3 => ?_) (fun h3 => ?_)
    · refine j_icge (t := 38) (pc' := 12) rfl rfl rfl (fun h4 => ?_) (fun h4 => ?_)
      · exact kF h4
      · exact kT h4
    · refine j_aload_n (pc' := 13) rfl rfl rfl ?_
      refine j_iload_n (pc' := 14) rfl rfl rfl ?_
      refine j_iload_n (pc' := 15) rfl rfl rfl ?_
      refine j_iadd (pc' := 16) rfl rfl ?_
      refine j_callPi (pc' := 19) (ai := 296) (vs := [.ref 75, .int (l2 + l3)]) (rest := []) rfl rfl (fun _ _ => rfl) (c_X12_holeAt (l2 + l3) σ) (j_dd rfl hd) rfl (fun v1 => ?_)
      refine j_i2l (pc' := 20) rfl rfl ?_
      refine j_aload_n (pc' := 21) rfl rfl rfl ?_
      refine j_iload_n (pc' := 22) rfl rfl rfl ?_
      refine j_iload_n (pc' := 23) rfl rfl rfl ?_
      refine j_callPl (pc' := 26) (ai := 298) (vs := [.ref 75, .int l1, .int l3]) (rest := [.long (v1).toInt64]) rfl rfl (fun _ _ => rfl) (c_X12_numberAt l1 l3 σ) (j_dd rfl hd) rfl (fun v2 => ?_)
      refine j_lcmp (pc' := 27) rfl rfl ?_
      refine j_two (pT := 30) (pF := 32) (L1 := [some (.ref 75), some (.int l1), some (.int l2), some (.int l3)]) (st1 := []) (fun o kT kF => ?_) (fun h1 => ?_) (fun h1 => ?_)
      · refine j_ifeqL (t := 32) (pc' := 30) rfl rfl rfl (fun h2 => ?_) (fun h2 => ?_)
        · exact kF (fun z => z h2)
        · exact kT h2
      · refine j_iconst (pc' := 31) (x := (0 : Int32)) rfl rfl rfl ?_
        exact j_ret rfl rfl rfl (fun _ h => h)
      · refine j_iincx (pc' := 35) (y := (1 : Int32)) (L' := [some (.ref 75), some (.int l1), some (.int l2), some (.int (l3 + (1 : Int32)))]) rfl rfl rfl rfl rfl ?_
        refine j_goto (t := 2) rfl rfl ?_
        exact ih (l3 + (1 : Int32))
    · refine j_iconst (pc' := 39) (x := (1 : Int32)) rfl rfl rfl ?_
      exact j_ret rfl rfl rfl (fun _ h => h)

theorem c_X12_fitsFrom (l1 : Int32) (l2 : Int32) (σ : j_G) : j_K false 2 305 [.ref 75, .int l1, .int l2] σ (f_X12_fitsFrom l1 l2 σ) (j_Pi σ) := by
  refine j_mkK (M := M_cX12_fitsFrom) (L := [some (.ref 75), some (.int l1), some (.int l2), none]) (m := 1) t_305 rfl (j_rcvO j_a75 rfl) rfl (fun d hd τ => ?_)
  unfold f_X12_fitsFrom
  refine j_iconst (pc' := 1) (x := (0 : Int32)) rfl rfl rfl ?_
  refine j_istore_n (pc' := 2) (L' := [some (.ref 75), some (.int l1), some (.int l2), some (.int (0 : Int32))]) rfl rfl rfl ?_
  exact (l_X12_fitsFrom_2 hd τ l1 l2 σ j_F (0 : Int32))

noncomputable def p_X12_fits_17 (l1 : Int32) (σ : j_G) : Nat → Int32 → Int32 → Option Int32
  | 0, _, _ => none
  | n + 1, l3, l4 =>
    j_ix (5 : Int32) 116 (
    if l4 < (σ.1 76 ((5 : Int32)).toNatClampNeg) then (j_b1 (f_X12_fitsFrom l1 l4 σ) fun v1 =>
    j_lt (if ¬ v1 = 0 then ((1 : Int32)) else ((0 : Int32))) fun v2 =>
    j_lt (l3 + v2) fun v3 =>
    p_X12_fits_17 l1 σ n v3 (l4 + (1 : Int32))) else (some l3))

noncomputable def f_X12_fits (l1 : Int32) (σ : j_G) : Option Int32 :=
  j_b1 (f_X12_asksHeard l1 σ) fun v1 =>
  if v1 < 0 then (some v1) else (j_b1 (p_X12_fits_17 l1 σ j_F (0 : Int32) (0 : Int32)) fun v2 =>
  some v2)
theorem l_X12_fits_17 {d : Nat} (hd : 3 ≤ d) (τ : j_G) (l1 : Int32) (σ : j_G) : ∀ (n : Nat) (l3 : Int32) (l4 : Int32), j_J false τ M_cX12_fits d 17 [some (.ref 75), some (.int l1), none, some (.int l3), some (.int l4)] [] σ (p_X12_fits_17 l1 σ n l3 l4) (fun r Q => j_Tr false τ M_cX12_fits d 52 [none, none, none, some (.int r), none] [] σ Q) := by
  intro n
  induction n with
  | zero => intro l3 l4; exact j_none
  | succ n ih =>
    intro l3 l4
    unfold p_X12_fits_17
    refine j_iload (pc' := 19) rfl rfl rfl ?_
    refine j_aload_n (pc' := 20) rfl rfl rfl ?_
    refine j_gfr (pc' := 23) (x := 76) rfl rfl j_a75 rfl rfl ?_
    refine j_iconst (pc' := 24) (x := (5 : Int32)) rfl rfl rfl ?_
    refine j_iald (pc' := 25) rfl rfl j_a76 ?_
    refine j_two (pT := 28) (pF := 52) (L1 := [some (.ref 75), some (.int l1), none, some (.int l3), some (.int l4)]) (st1 := []) (fun o kT kF => ?_) (fun h3 => ?_) (fun h3 => ?_)
    · refine j_icge (t := 52) (pc' := 28) rfl rfl rfl (fun h4 => ?_) (fun h4 => ?_)
      · exact kF h4
      · exact kT h4
    · refine j_iload_n (pc' := 29) rfl rfl rfl ?_
      refine j_aload_n (pc' := 30) rfl rfl rfl ?_
      refine j_iload_n (pc' := 31) rfl rfl rfl ?_
      refine j_iload (pc' := 33) rfl rfl rfl ?_
      refine j_callPi (pc' := 36) (ai := 305) (vs := [.ref 75, .int l1, .int l4]) (rest := [.int l3]) rfl rfl (fun _ _ => rfl) (c_X12_fitsFrom l1 l4 σ) (j_dd rfl hd) rfl (fun v1 => ?_)
      refine j_ql (Φl := (fun r Q => j_Tr false τ M_cX12_fits d 44 [some (.ref 75), some (.int l1), none, none, some (.int l4)] [.int r, .int l3] σ Q)) ?_ (fun v2 => ?_)
      · refine j_twoT (pT := 39) (pF := 43) (L1 := [some (.ref 75), some (.int l1), none, some (.int l3), some (.int l4)]) (st1 := [.int l3]) (fun o kT kF => ?_) (fun h1 => ?_) (fun h1 => ?_)
        · refine j_ifeq (t := 43) (pc' := 39) rfl rfl rfl (fun h2 => ?_) (fun h2 => ?_)
          · exact kF (fun z => z h2)
          · exact kT h2
        · refine j_iconst (pc' := 40) (x := (1 : Int32)) rfl rfl rfl ?_
          refine j_goto (t := 44) rfl rfl ?_
          refine j_wk [true, true, true, false, true] (L' := [some (.ref 75), some (.int l1), none, none, some (.int l4)]) rfl ?_
          exact j_end (fun _ h => h)
        · refine j_iconst (pc' := 44) (x := (0 : Int32)) rfl rfl rfl ?_
          refine j_wk [true, true, true, false, true] (L' := [some (.ref 75), some (.int l1), none, none, some (.int l4)]) rfl ?_
          exact j_end (fun _ h => h)
      show j_J false τ M_cX12_fits d 44 [some (.ref 75), some (.int l1), none, none, some (.int l4)] [.int v2, .int l3] σ _ _
      refine j_iadd (pc' := 45) rfl rfl ?_
      refine j_leti (fun v3 => ?_)
      refine j_istore_n (pc' := 46) (L' := [some (.ref 75), some (.int l1), none, some (.int v3), some (.int l4)]) rfl rfl rfl ?_
      refine j_iincx (pc' := 49) (y := (1 : Int32)) (L' := [some (.ref 75), some (.int l1), none, some (.int v3), some (.int (l4 + (1 : Int32)))]) rfl rfl rfl rfl rfl ?_
      refine j_goto (t := 17) rfl rfl ?_
      exact ih v3 (l4 + (1 : Int32))
    · refine j_wk [false, false, true, true, false] (L' := [none, none, none, some (.int l3), none]) rfl ?_
      exact j_end (fun _ h => h)

theorem c_X12_fits (l1 : Int32) (σ : j_G) : j_K false 3 306 [.ref 75, .int l1] σ (f_X12_fits l1 σ) (j_Pi σ) := by
  refine j_mkK (M := M_cX12_fits) (L := [some (.ref 75), some (.int l1), none, none, none]) (m := 3) t_306 rfl (j_rcvO j_a75 rfl) rfl (fun d hd τ => ?_)
  unfold f_X12_fits
  refine j_aload_n (pc' := 1) rfl rfl rfl ?_
  refine j_iload_n (pc' := 2) rfl rfl rfl ?_
  refine j_callPi (pc' := 5) (ai := 299) (vs := [.ref 75, .int l1]) (rest := []) rfl rfl (fun _ _ => rfl) (c_X12_asksHeard l1 σ) (j_dd rfl hd) rfl (fun v1 => ?_)
  refine j_istore_n (pc' := 6) (L' := [some (.ref 75), some (.int l1), some (.int v1), none, none]) rfl rfl rfl ?_
  refine j_iload_n (pc' := 7) rfl rfl rfl ?_
  refine j_two (pT := 10) (pF := 12) (L1 := [some (.ref 75), some (.int l1), some (.int v1), none, none]) (st1 := []) (fun o kT kF => ?_) (fun h1 => ?_) (fun h1 => ?_)
  · refine j_ifge (t := 12) (pc' := 10) rfl rfl rfl (fun h2 => ?_) (fun h2 => ?_)
    · exact kF h2
    · exact kT h2
  · refine j_iload_n (pc' := 11) rfl rfl rfl ?_
    exact j_ret rfl rfl rfl (fun _ h => h)
  · refine j_iconst (pc' := 13) (x := (0 : Int32)) rfl rfl rfl ?_
    refine j_istore_n (pc' := 14) (L' := [some (.ref 75), some (.int l1), some (.int v1), some (.int (0 : Int32)), none]) rfl rfl rfl ?_
    refine j_iconst (pc' := 15) (x := (0 : Int32)) rfl rfl rfl ?_
    refine j_istore (pc' := 17) (L' := [some (.ref 75), some (.int l1), some (.int v1), some (.int (0 : Int32)), some (.int (0 : Int32))]) rfl rfl rfl ?_
    refine j_wk [true, true, false, true, true] (L' := [some (.ref 75), some (.int l1), none, some (.int (0 : Int32)), some (.int (0 : Int32))]) rfl ?_
    refine j_q1 (l_X12_fits_17 hd τ l1 σ j_F (0 : Int32) (0 : Int32)) (fun v2 => ?_)
    show j_J false τ M_cX12_fits d 52 [none, none, none, some (.int v2), none] [] σ _ _
    refine j_iload_n (pc' := 53) rfl rfl rfl ?_
    exact j_ret rfl rfl rfl (fun _ h => h)

noncomputable def p_X11_place_18 (s47 : Nat) (s47_2 : Nat) (l2 : Int32) (σ : j_G) : Nat → Int32 → Int32 → Option Int32
  | 0, _, _ => none
  | n + 1, l4, l5 =>
    if l5 < (σ.1 5 0) then (j_b1 (f_X3_goesSo s47 s47_2 l5 σ) fun v1 =>
    j_lt (fun (v3 : Int32) => (p_X11_place_18 s47 s47_2 l2 σ n v3 (l5 + (1 : Int32)))) fun (k2 : Int32 → Option Int32) =>
    if ¬ v1 = 0 then (if l4 = l2 then (some l5) else (k2 (l4 + (1 : Int32)))) else (k2 l4)) else (some (-1 : Int32))

noncomputable def f_X11_place (l1 : Int32) (l2 : Int32) (σ : j_G) : Option Int32 :=
  j_b1 (f_X11_whyUnheard l1 σ) fun v1 =>
  if ¬ v1 = 0 then (some v1) else (if l1 = 0 then (p_X11_place_18 67 68 l2 σ j_F (0 : Int32) (0 : Int32)) else
  if l1 = 1 then (p_X11_place_18 69 70 l2 σ j_F (0 : Int32) (0 : Int32)) else
  if l1 = 2 then (p_X11_place_18 71 72 l2 σ j_F (0 : Int32) (0 : Int32)) else
  if l1 = 3 then (p_X11_place_18 73 74 l2 σ j_F (0 : Int32) (0 : Int32)) else
  none)
theorem l_X11_place_18_67_68 {d : Nat} (hd : 3 ≤ d) (τ : j_G) (l2 : Int32) (σ : j_G) : ∀ (n : Nat) (l4 : Int32) (l5 : Int32), j_J true τ M_cX11_place d 18 [some (.ref 0), some (.int (0 : Int32)), some (.int l2), none, some (.int l4), some (.int l5)] [] σ (p_X11_place_18 67 68 l2 σ n l4 l5) (j_Pi σ) := by
  intro n
  induction n with
  | zero => intro l4 l5; exact j_none
  | succ n ih =>
    intro l4 l5
    unfold p_X11_place_18
    refine j_iload (pc' := 20) rfl rfl rfl ?_
    refine j_aload_n (pc' := 21) rfl rfl rfl ?_
    refine j_gfr (pc' := 24) (x := 1) rfl rfl j_a0 rfl rfl ?_
    refine j_gfr (pc' := 27) (x := 5) rfl rfl j_a1 rfl rfl ?_
    refine j_gfi (pc' := 30) rfl rfl j_a5 rfl ?_
    refine j_two (pT := 33) (pF := 72) (L1 := [some (.ref 0), some (.int (0 : Int32)), some (.int l2), none, some (.int l4), some (.int l5)]) (st1 := []) (fun o kT kF => ?_) (fun h5 => ?_) (fun h5 => ?_)
    · refine j_icge (t := 72) (pc' := 33) rfl rfl rfl (fun h6 => ?_) (fun h6 => ?_)
      · exact kF h6
      · exact kT h6
    · refine j_aload_n (pc' := 34) rfl rfl rfl ?_
      refine j_gfr (pc' := 37) (x := 1) rfl rfl j_a0 rfl rfl ?_
      refine j_gfr (pc' := 40) (x := 5) rfl rfl j_a1 rfl rfl ?_
      refine j_iload (pc' := 42) rfl rfl rfl ?_
      refine j_aload_n (pc' := 43) rfl rfl rfl ?_
      refine j_gfr (pc' := 46) (x := 42) rfl rfl j_a0 rfl rfl ?_
      refine j_iload_n (pc' := 47) rfl rfl rfl ?_
      refine j_aald (pc' := 48) (r := 67) rfl rfl j_a42 (by decide) rfl ?_
      refine j_callPi (pc' := 51) (ai := 37) (vs := [.ref 5, .int l5, .ref 67]) (rest := []) rfl rfl (fun _ _ => rfl) (c_X3_goesSo_5_67 l5 σ) (j_dd rfl hd) rfl (fun v1 => ?_)
      refine j_jn (P := (fun k => ∀ (v3 : Int32), j_J true τ M_cX11_place d 66 [some (.ref 0), some (.int (0 : Int32)), some (.int l2), none, some (.int v3), some (.int l5)] [] σ (k v3) (j_Pi σ))) ?_ (fun k2 k2_h => ?_)
      · intro v3
        refine j_iincx (pc' := 69) (y := (1 : Int32)) (L' := [some (.ref 0), some (.int (0 : Int32)), some (.int l2), none, some (.int v3), some (.int (l5 + (1 : Int32)))]) rfl rfl rfl rfl rfl ?_
        refine j_goto (t := 18) rfl rfl ?_
        exact ih v3 (l5 + (1 : Int32))
      · refine j_two (pT := 54) (pF := 66) (L1 := [some (.ref 0), some (.int (0 : Int32)), some (.int l2), none, some (.int l4), some (.int l5)]) (st1 := []) (fun o kT kF => ?_) (fun h3 => ?_) (fun h3 => ?_)
        · refine j_ifeq (t := 66) (pc' := 54) rfl rfl rfl (fun h4 => ?_) (fun h4 => ?_)
          · exact kF (fun z => z h4)
          · exact kT h4
        · refine j_iload (pc' := 56) rfl rfl rfl ?_
          refine j_iload_n (pc' := 57) rfl rfl rfl ?_
          refine j_two (pT := 60) (pF := 63) (L1 := [some (.ref 0), some (.int (0 : Int32)), some (.int l2), none, some (.int l4), some (.int l5)]) (st1 := []) (fun o kT kF => ?_) (fun h1 => ?_) (fun h1 => ?_)
          · refine j_icne (t := 63) (pc' := 60) rfl rfl rfl (fun h2 => ?_) (fun h2 => ?_)
            · exact kF h2
            · exact kT h2
          · refine j_iload (pc' := 62) rfl rfl rfl ?_
            exact j_ret rfl rfl rfl (fun _ h => h)
          · refine j_iincx (pc' := 66) (y := (1 : Int32)) (L' := [some (.ref 0), some (.int (0 : Int32)), some (.int l2), none, some (.int (l4 + (1 : Int32))), some (.int l5)]) rfl rfl rfl rfl rfl ?_
            exact k2_h (l4 + (1 : Int32))
        · exact k2_h l4
    · refine j_iconst (pc' := 73) (x := (-1 : Int32)) rfl rfl rfl ?_
      exact j_ret rfl rfl rfl (fun _ h => h)

theorem l_X11_place_18_69_70 {d : Nat} (hd : 3 ≤ d) (τ : j_G) (l2 : Int32) (σ : j_G) : ∀ (n : Nat) (l4 : Int32) (l5 : Int32), j_J true τ M_cX11_place d 18 [some (.ref 0), some (.int (1 : Int32)), some (.int l2), none, some (.int l4), some (.int l5)] [] σ (p_X11_place_18 69 70 l2 σ n l4 l5) (j_Pi σ) := by
  intro n
  induction n with
  | zero => intro l4 l5; exact j_none
  | succ n ih =>
    intro l4 l5
    unfold p_X11_place_18
    refine j_iload (pc' := 20) rfl rfl rfl ?_
    refine j_aload_n (pc' := 21) rfl rfl rfl ?_
    refine j_gfr (pc' := 24) (x := 1) rfl rfl j_a0 rfl rfl ?_
    refine j_gfr (pc' := 27) (x := 5) rfl rfl j_a1 rfl rfl ?_
    refine j_gfi (pc' := 30) rfl rfl j_a5 rfl ?_
    refine j_two (pT := 33) (pF := 72) (L1 := [some (.ref 0), some (.int (1 : Int32)), some (.int l2), none, some (.int l4), some (.int l5)]) (st1 := []) (fun o kT kF => ?_) (fun h5 => ?_) (fun h5 => ?_)
    · refine j_icge (t := 72) (pc' := 33) rfl rfl rfl (fun h6 => ?_) (fun h6 => ?_)
      · exact kF h6
      · exact kT h6
    · refine j_aload_n (pc' := 34) rfl rfl rfl ?_
      refine j_gfr (pc' := 37) (x := 1) rfl rfl j_a0 rfl rfl ?_
      refine j_gfr (pc' := 40) (x := 5) rfl rfl j_a1 rfl rfl ?_
      refine j_iload (pc' := 42) rfl rfl rfl ?_
      refine j_aload_n (pc' := 43) rfl rfl rfl ?_
      refine j_gfr (pc' := 46) (x := 42) rfl rfl j_a0 rfl rfl ?_
      refine j_iload_n (pc' := 47) rfl rfl rfl ?_
      refine j_aald (pc' := 48) (r := 69) rfl rfl j_a42 (by decide) rfl ?_
      refine j_callPi (pc' := 51) (ai := 37) (vs := [.ref 5, .int l5, .ref 69]) (rest := []) rfl rfl (fun _ _ => rfl) (c_X3_goesSo_5_69 l5 σ) (j_dd rfl hd) rfl (fun v1 => ?_)
      refine j_jn (P := (fun k => ∀ (v3 : Int32), j_J true τ M_cX11_place d 66 [some (.ref 0), some (.int (1 : Int32)), some (.int l2), none, some (.int v3), some (.int l5)] [] σ (k v3) (j_Pi σ))) ?_ (fun k2 k2_h => ?_)
      · intro v3
        refine j_iincx (pc' := 69) (y := (1 : Int32)) (L' := [some (.ref 0), some (.int (1 : Int32)), some (.int l2), none, some (.int v3), some (.int (l5 + (1 : Int32)))]) rfl rfl rfl rfl rfl ?_
        refine j_goto (t := 18) rfl rfl ?_
        exact ih v3 (l5 + (1 : Int32))
      · refine j_two (pT := 54) (pF := 66) (L1 := [some (.ref 0), some (.int (1 : Int32)), some (.int l2), none, some (.int l4), some (.int l5)]) (st1 := []) (fun o kT kF => ?_) (fun h3 => ?_) (fun h3 => ?_)
        · refine j_ifeq (t := 66) (pc' := 54) rfl rfl rfl (fun h4 => ?_) (fun h4 => ?_)
          · exact kF (fun z => z h4)
          · exact kT h4
        · refine j_iload (pc' := 56) rfl rfl rfl ?_
          refine j_iload_n (pc' := 57) rfl rfl rfl ?_
          refine j_two (pT := 60) (pF := 63) (L1 := [some (.ref 0), some (.int (1 : Int32)), some (.int l2), none, some (.int l4), some (.int l5)]) (st1 := []) (fun o kT kF => ?_) (fun h1 => ?_) (fun h1 => ?_)
          · refine j_icne (t := 63) (pc' := 60) rfl rfl rfl (fun h2 => ?_) (fun h2 => ?_)
            · exact kF h2
            · exact kT h2
          · refine j_iload (pc' := 62) rfl rfl rfl ?_
            exact j_ret rfl rfl rfl (fun _ h => h)
          · refine j_iincx (pc' := 66) (y := (1 : Int32)) (L' := [some (.ref 0), some (.int (1 : Int32)), some (.int l2), none, some (.int (l4 + (1 : Int32))), some (.int l5)]) rfl rfl rfl rfl rfl ?_
            exact k2_h (l4 + (1 : Int32))
        · exact k2_h l4
    · refine j_iconst (pc' := 73) (x := (-1 : Int32)) rfl rfl rfl ?_
      exact j_ret rfl rfl rfl (fun _ h => h)

theorem l_X11_place_18_71_72 {d : Nat} (hd : 3 ≤ d) (τ : j_G) (l2 : Int32) (σ : j_G) : ∀ (n : Nat) (l4 : Int32) (l5 : Int32), j_J true τ M_cX11_place d 18 [some (.ref 0), some (.int (2 : Int32)), some (.int l2), none, some (.int l4), some (.int l5)] [] σ (p_X11_place_18 71 72 l2 σ n l4 l5) (j_Pi σ) := by
  intro n
  induction n with
  | zero => intro l4 l5; exact j_none
  | succ n ih =>
    intro l4 l5
    unfold p_X11_place_18
    refine j_iload (pc' := 20) rfl rfl rfl ?_
    refine j_aload_n (pc' := 21) rfl rfl rfl ?_
    refine j_gfr (pc' := 24) (x := 1) rfl rfl j_a0 rfl rfl ?_
    refine j_gfr (pc' := 27) (x := 5) rfl rfl j_a1 rfl rfl ?_
    refine j_gfi (pc' := 30) rfl rfl j_a5 rfl ?_
    refine j_two (pT := 33) (pF := 72) (L1 := [some (.ref 0), some (.int (2 : Int32)), some (.int l2), none, some (.int l4), some (.int l5)]) (st1 := []) (fun o kT kF => ?_) (fun h5 => ?_) (fun h5 => ?_)
    · refine j_icge (t := 72) (pc' := 33) rfl rfl rfl (fun h6 => ?_) (fun h6 => ?_)
      · exact kF h6
      · exact kT h6
    · refine j_aload_n (pc' := 34) rfl rfl rfl ?_
      refine j_gfr (pc' := 37) (x := 1) rfl rfl j_a0 rfl rfl ?_
      refine j_gfr (pc' := 40) (x := 5) rfl rfl j_a1 rfl rfl ?_
      refine j_iload (pc' := 42) rfl rfl rfl ?_
      refine j_aload_n (pc' := 43) rfl rfl rfl ?_
      refine j_gfr (pc' := 46) (x := 42) rfl rfl j_a0 rfl rfl ?_
      refine j_iload_n (pc' := 47) rfl rfl rfl ?_
      refine j_aald (pc' := 48) (r := 71) rfl rfl j_a42 (by decide) rfl ?_
      refine j_callPi (pc' := 51) (ai := 37) (vs := [.ref 5, .int l5, .ref 71]) (rest := []) rfl rfl (fun _ _ => rfl) (c_X3_goesSo_5_71 l5 σ) (j_dd rfl hd) rfl (fun v1 => ?_)
      refine j_jn (P := (fun k => ∀ (v3 : Int32), j_J true τ M_cX11_place d 66 [some (.ref 0), some (.int (2 : Int32)), some (.int l2), none, some (.int v3), some (.int l5)] [] σ (k v3) (j_Pi σ))) ?_ (fun k2 k2_h => ?_)
      · intro v3
        refine j_iincx (pc' := 69) (y := (1 : Int32)) (L' := [some (.ref 0), some (.int (2 : Int32)), some (.int l2), none, some (.int v3), some (.int (l5 + (1 : Int32)))]) rfl rfl rfl rfl rfl ?_
        refine j_goto (t := 18) rfl rfl ?_
        exact ih v3 (l5 + (1 : Int32))
      · refine j_two (pT := 54) (pF := 66) (L1 := [some (.ref 0), some (.int (2 : Int32)), some (.int l2), none, some (.int l4), some (.int l5)]) (st1 := []) (fun o kT kF => ?_) (fun h3 => ?_) (fun h3 => ?_)
        · refine j_ifeq (t := 66) (pc' := 54) rfl rfl rfl (fun h4 => ?_) (fun h4 => ?_)
          · exact kF (fun z => z h4)
          · exact kT h4
        · refine j_iload (pc' := 56) rfl rfl rfl ?_
          refine j_iload_n (pc' := 57) rfl rfl rfl ?_
          refine j_two (pT := 60) (pF := 63) (L1 := [some (.ref 0), some (.int (2 : Int32)), some (.int l2), none, some (.int l4), some (.int l5)]) (st1 := []) (fun o kT kF => ?_) (fun h1 => ?_) (fun h1 => ?_)
          · refine j_icne (t := 63) (pc' := 60) rfl rfl rfl (fun h2 => ?_) (fun h2 => ?_)
            · exact kF h2
            · exact kT h2
          · refine j_iload (pc' := 62) rfl rfl rfl ?_
            exact j_ret rfl rfl rfl (fun _ h => h)
          · refine j_iincx (pc' := 66) (y := (1 : Int32)) (L' := [some (.ref 0), some (.int (2 : Int32)), some (.int l2), none, some (.int (l4 + (1 : Int32))), some (.int l5)]) rfl rfl rfl rfl rfl ?_
            exact k2_h (l4 + (1 : Int32))
        · exact k2_h l4
    · refine j_iconst (pc' := 73) (x := (-1 : Int32)) rfl rfl rfl ?_
      exact j_ret rfl rfl rfl (fun _ h => h)

theorem l_X11_place_18_73_74 {d : Nat} (hd : 3 ≤ d) (τ : j_G) (l2 : Int32) (σ : j_G) : ∀ (n : Nat) (l4 : Int32) (l5 : Int32), j_J true τ M_cX11_place d 18 [some (.ref 0), some (.int (3 : Int32)), some (.int l2), none, some (.int l4), some (.int l5)] [] σ (p_X11_place_18 73 74 l2 σ n l4 l5) (j_Pi σ) := by
  intro n
  induction n with
  | zero => intro l4 l5; exact j_none
  | succ n ih =>
    intro l4 l5
    unfold p_X11_place_18
    refine j_iload (pc' := 20) rfl rfl rfl ?_
    refine j_aload_n (pc' := 21) rfl rfl rfl ?_
    refine j_gfr (pc' := 24) (x := 1) rfl rfl j_a0 rfl rfl ?_
    refine j_gfr (pc' := 27) (x := 5) rfl rfl j_a1 rfl rfl ?_
    refine j_gfi (pc' := 30) rfl rfl j_a5 rfl ?_
    refine j_two (pT := 33) (pF := 72) (L1 := [some (.ref 0), some (.int (3 : Int32)), some (.int l2), none, some (.int l4), some (.int l5)]) (st1 := []) (fun o kT kF => ?_) (fun h5 => ?_) (fun h5 => ?_)
    · refine j_icge (t := 72) (pc' := 33) rfl rfl rfl (fun h6 => ?_) (fun h6 => ?_)
      · exact kF h6
      · exact kT h6
    · refine j_aload_n (pc' := 34) rfl rfl rfl ?_
      refine j_gfr (pc' := 37) (x := 1) rfl rfl j_a0 rfl rfl ?_
      refine j_gfr (pc' := 40) (x := 5) rfl rfl j_a1 rfl rfl ?_
      refine j_iload (pc' := 42) rfl rfl rfl ?_
      refine j_aload_n (pc' := 43) rfl rfl rfl ?_
      refine j_gfr (pc' := 46) (x := 42) rfl rfl j_a0 rfl rfl ?_
      refine j_iload_n (pc' := 47) rfl rfl rfl ?_
      refine j_aald (pc' := 48) (r := 73) rfl rfl j_a42 (by decide) rfl ?_
      refine j_callPi (pc' := 51) (ai := 37) (vs := [.ref 5, .int l5, .ref 73]) (rest := []) rfl rfl (fun _ _ => rfl) (c_X3_goesSo_5_73 l5 σ) (j_dd rfl hd) rfl (fun v1 => ?_)
      refine j_jn (P := (fun k => ∀ (v3 : Int32), j_J true τ M_cX11_place d 66 [some (.ref 0), some (.int (3 : Int32)), some (.int l2), none, some (.int v3), some (.int l5)] [] σ (k v3) (j_Pi σ))) ?_ (fun k2 k2_h => ?_)
      · intro v3
        refine j_iincx (pc' := 69) (y := (1 : Int32)) (L' := [some (.ref 0), some (.int (3 : Int32)), some (.int l2), none, some (.int v3), some (.int (l5 + (1 : Int32)))]) rfl rfl rfl rfl rfl ?_
        refine j_goto (t := 18) rfl rfl ?_
        exact ih v3 (l5 + (1 : Int32))
      · refine j_two (pT := 54) (pF := 66) (L1 := [some (.ref 0), some (.int (3 : Int32)), some (.int l2), none, some (.int l4), some (.int l5)]) (st1 := []) (fun o kT kF => ?_) (fun h3 => ?_) (fun h3 => ?_)
        · refine j_ifeq (t := 66) (pc' := 54) rfl rfl rfl (fun h4 => ?_) (fun h4 => ?_)
          · exact kF (fun z => z h4)
          · exact kT h4
        · refine j_iload (pc' := 56) rfl rfl rfl ?_
          refine j_iload_n (pc' := 57) rfl rfl rfl ?_
          refine j_two (pT := 60) (pF := 63) (L1 := [some (.ref 0), some (.int (3 : Int32)), some (.int l2), none, some (.int l4), some (.int l5)]) (st1 := []) (fun o kT kF => ?_) (fun h1 => ?_) (fun h1 => ?_)
          · refine j_icne (t := 63) (pc' := 60) rfl rfl rfl (fun h2 => ?_) (fun h2 => ?_)
            · exact kF h2
            · exact kT h2
          · refine j_iload (pc' := 62) rfl rfl rfl ?_
            exact j_ret rfl rfl rfl (fun _ h => h)
          · refine j_iincx (pc' := 66) (y := (1 : Int32)) (L' := [some (.ref 0), some (.int (3 : Int32)), some (.int l2), none, some (.int (l4 + (1 : Int32))), some (.int l5)]) rfl rfl rfl rfl rfl ?_
            exact k2_h (l4 + (1 : Int32))
        · exact k2_h l4
    · refine j_iconst (pc' := 73) (x := (-1 : Int32)) rfl rfl rfl ?_
      exact j_ret rfl rfl rfl (fun _ h => h)

theorem c_X11_place (l1 : Int32) (l2 : Int32) (σ : j_G) : j_K true 3 152 [.ref 0, .int l1, .int l2] σ (f_X11_place l1 l2 σ) (j_Pi σ) := by
  refine j_mkK (M := M_cX11_place) (L := [some (.ref 0), some (.int l1), some (.int l2), none, none, none]) (m := 3) t_152 rfl (j_rcvO j_a0 rfl) rfl (fun d hd τ => ?_)
  unfold f_X11_place
  refine j_aload_n (pc' := 1) rfl rfl rfl ?_
  refine j_iload_n (pc' := 2) rfl rfl rfl ?_
  refine j_callPi (pc' := 5) (ai := 193) (vs := [.ref 0, .int l1]) (rest := []) rfl rfl (fun _ _ => rfl) (c_X11_whyUnheard l1 σ) (j_dd rfl hd) rfl (fun v1 => ?_)
  refine j_istore_n (pc' := 6) (L' := [some (.ref 0), some (.int l1), some (.int l2), some (.int v1), none, none]) rfl rfl rfl ?_
  refine j_iload_n (pc' := 7) rfl rfl rfl ?_
  refine j_two (pT := 10) (pF := 12) (L1 := [some (.ref 0), some (.int l1), some (.int l2), some (.int v1), none, none]) (st1 := []) (fun o kT kF => ?_) (fun h5 => ?_) (fun h5 => ?_)
  · refine j_ifeq (t := 12) (pc' := 10) rfl rfl rfl (fun h6 => ?_) (fun h6 => ?_)
    · exact kF (fun z => z h6)
    · exact kT h6
  · refine j_iload_n (pc' := 11) rfl rfl rfl ?_
    exact j_ret rfl rfl rfl (fun _ h => h)
  · refine j_iconst (pc' := 13) (x := (0 : Int32)) rfl rfl rfl ?_
    refine j_istore (pc' := 15) (L' := [some (.ref 0), some (.int l1), some (.int l2), some (.int v1), some (.int (0 : Int32)), none]) rfl rfl rfl ?_
    refine j_iconst (pc' := 16) (x := (0 : Int32)) rfl rfl rfl ?_
    refine j_istore (pc' := 18) (L' := [some (.ref 0), some (.int l1), some (.int l2), some (.int v1), some (.int (0 : Int32)), some (.int (0 : Int32))]) rfl rfl rfl ?_
    refine j_splx (i := l1) (k := (0 : Int32)) (fun h1 => ?_) (fun h1 => ?_)
    · subst h1
      refine j_wk [true, true, true, false, true, true] (L' := [some (.ref 0), some (.int (0 : Int32)), some (.int l2), none, some (.int (0 : Int32)), some (.int (0 : Int32))]) rfl ?_
      exact (l_X11_place_18_67_68 hd τ l2 σ j_F (0 : Int32) (0 : Int32))
    refine j_splx (i := l1) (k := (1 : Int32)) (fun h2 => ?_) (fun h2 => ?_)
    · subst h2
      refine j_wk [true, true, true, false, true, true] (L' := [some (.ref 0), some (.int (1 : Int32)), some (.int l2), none, some (.int (0 : Int32)), some (.int (0 : Int32))]) rfl ?_
      exact (l_X11_place_18_69_70 hd τ l2 σ j_F (0 : Int32) (0 : Int32))
    refine j_splx (i := l1) (k := (2 : Int32)) (fun h3 => ?_) (fun h3 => ?_)
    · subst h3
      refine j_wk [true, true, true, false, true, true] (L' := [some (.ref 0), some (.int (2 : Int32)), some (.int l2), none, some (.int (0 : Int32)), some (.int (0 : Int32))]) rfl ?_
      exact (l_X11_place_18_71_72 hd τ l2 σ j_F (0 : Int32) (0 : Int32))
    refine j_splx (i := l1) (k := (3 : Int32)) (fun h4 => ?_) (fun h4 => ?_)
    · subst h4
      refine j_wk [true, true, true, false, true, true] (L' := [some (.ref 0), some (.int (3 : Int32)), some (.int l2), none, some (.int (0 : Int32)), some (.int (0 : Int32))]) rfl ?_
      exact (l_X11_place_18_73_74 hd τ l2 σ j_F (0 : Int32) (0 : Int32))
    exact j_none

noncomputable def p_X12_place_18 (l1 : Int32) (σ : j_G) : Nat → Int32 → Int32 → Option Int32
  | 0, _, _ => none
  | n + 1, l4, l5 =>
    j_ix (5 : Int32) 116 (
    if (l5 < (σ.1 76 ((5 : Int32)).toNatClampNeg)) ∧ (¬ l4 < 0) then (j_b1 (f_X12_fitsFrom l1 l5 σ) fun v1 =>
    j_lt (fun (v3 : Int32) => (p_X12_place_18 l1 σ n v3 (l5 + (1 : Int32)))) fun (k2 : Int32 → Option Int32) =>
    if v1 = 0 then (k2 l4) else (if l4 = 0 then (some l5) else (k2 (l4 + (-1 : Int32))))) else (some (-1 : Int32)))

noncomputable def f_X12_place (l1 : Int32) (l2 : Int32) (σ : j_G) : Option Int32 :=
  j_b1 (f_X12_asksHeard l1 σ) fun v1 =>
  if v1 < 0 then (some v1) else (p_X12_place_18 l1 σ j_F l2 (0 : Int32))
theorem l_X12_place_18 {d : Nat} (hd : 3 ≤ d) (τ : j_G) (l1 : Int32) (σ : j_G) : ∀ (n : Nat) (l4 : Int32) (l5 : Int32), j_J false τ M_cX12_place d 18 [some (.ref 75), some (.int l1), none, none, some (.int l4), some (.int l5)] [] σ (p_X12_place_18 l1 σ n l4 l5) (j_Pi σ) := by
  intro n
  induction n with
  | zero => intro l4 l5; exact j_none
  | succ n ih =>
    intro l4 l5
    unfold p_X12_place_18
    refine j_iload (pc' := 20) rfl rfl rfl ?_
    refine j_aload_n (pc' := 21) rfl rfl rfl ?_
    refine j_gfr (pc' := 24) (x := 76) rfl rfl j_a75 rfl rfl ?_
    refine j_iconst (pc' := 25) (x := (5 : Int32)) rfl rfl rfl ?_
    refine j_iald (pc' := 26) rfl rfl j_a76 ?_
    refine j_two (pT := 34) (pF := 64) (L1 := [some (.ref 75), some (.int l1), none, none, some (.int l4), some (.int l5)]) (st1 := []) (fun o kT kF => ?_) (fun h5 => ?_) (fun h5 => ?_)
    · refine j_icge (t := 64) (pc' := 29) rfl rfl rfl (fun h6 => ?_) (fun h6 => ?_)
      · exact kF (fun z => h6 z.1)
      · refine j_iload (pc' := 31) rfl rfl rfl ?_
        refine j_iflt (t := 64) (pc' := 34) rfl rfl rfl (fun h7 => ?_) (fun h7 => ?_)
        · exact kF (fun z => (fun z => z h7) z.2)
        · exact kT (⟨h6, h7⟩)
    · refine j_aload_n (pc' := 35) rfl rfl rfl ?_
      refine j_iload_n (pc' := 36) rfl rfl rfl ?_
      refine j_iload (pc' := 38) rfl rfl rfl ?_
      refine j_callPi (pc' := 41) (ai := 305) (vs := [.ref 75, .int l1, .int l5]) (rest := []) rfl rfl (fun _ _ => rfl) (c_X12_fitsFrom l1 l5 σ) (j_dd rfl hd) rfl (fun v1 => ?_)
      refine j_jn (P := (fun k => ∀ (v3 : Int32), j_J false τ M_cX12_place d 58 [some (.ref 75), some (.int l1), none, none, some (.int v3), some (.int l5)] [] σ (k v3) (j_Pi σ))) ?_ (fun k2 k2_h => ?_)
      · intro v3
        refine j_iincx (pc' := 61) (y := (1 : Int32)) (L' := [some (.ref 75), some (.int l1), none, none, some (.int v3), some (.int (l5 + (1 : Int32)))]) rfl rfl rfl rfl rfl ?_
        refine j_goto (t := 18) rfl rfl ?_
        exact ih v3 (l5 + (1 : Int32))
      · refine j_two (pT := 44) (pF := 47) (L1 := [some (.ref 75), some (.int l1), none, none, some (.int l4), some (.int l5)]) (st1 := []) (fun o kT kF => ?_) (fun h3 => ?_) (fun h3 => ?_)
        · refine j_ifne (t := 47) (pc' := 44) rfl rfl rfl (fun h4 => ?_) (fun h4 => ?_)
          · exact kF h4
          · exact kT h4
        · refine j_goto (t := 58) rfl rfl ?_
          exact k2_h l4
        · refine j_iload (pc' := 49) rfl rfl rfl ?_
          refine j_two (pT := 52) (pF := 55) (L1 := [some (.ref 75), some (.int l1), none, none, some (.int l4), some (.int l5)]) (st1 := []) (fun o kT kF => ?_) (fun h1 => ?_) (fun h1 => ?_)
          · refine j_ifne (t := 55) (pc' := 52) rfl rfl rfl (fun h2 => ?_) (fun h2 => ?_)
            · exact kF h2
            · exact kT h2
          · refine j_iload (pc' := 54) rfl rfl rfl ?_
            exact j_ret rfl rfl rfl (fun _ h => h)
          · refine j_iincx (pc' := 58) (y := (-1 : Int32)) (L' := [some (.ref 75), some (.int l1), none, none, some (.int (l4 + (-1 : Int32))), some (.int l5)]) rfl rfl rfl rfl rfl ?_
            exact k2_h (l4 + (-1 : Int32))
    · refine j_iconst (pc' := 65) (x := (-1 : Int32)) rfl rfl rfl ?_
      exact j_ret rfl rfl rfl (fun _ h => h)

theorem c_X12_place (l1 : Int32) (l2 : Int32) (σ : j_G) : j_K false 3 307 [.ref 75, .int l1, .int l2] σ (f_X12_place l1 l2 σ) (j_Pi σ) := by
  refine j_mkK (M := M_cX12_place) (L := [some (.ref 75), some (.int l1), some (.int l2), none, none, none]) (m := 3) t_307 rfl (j_rcvO j_a75 rfl) rfl (fun d hd τ => ?_)
  unfold f_X12_place
  refine j_aload_n (pc' := 1) rfl rfl rfl ?_
  refine j_iload_n (pc' := 2) rfl rfl rfl ?_
  refine j_callPi (pc' := 5) (ai := 299) (vs := [.ref 75, .int l1]) (rest := []) rfl rfl (fun _ _ => rfl) (c_X12_asksHeard l1 σ) (j_dd rfl hd) rfl (fun v1 => ?_)
  refine j_istore_n (pc' := 6) (L' := [some (.ref 75), some (.int l1), some (.int l2), some (.int v1), none, none]) rfl rfl rfl ?_
  refine j_iload_n (pc' := 7) rfl rfl rfl ?_
  refine j_two (pT := 10) (pF := 12) (L1 := [some (.ref 75), some (.int l1), some (.int l2), some (.int v1), none, none]) (st1 := []) (fun o kT kF => ?_) (fun h1 => ?_) (fun h1 => ?_)
  · refine j_ifge (t := 12) (pc' := 10) rfl rfl rfl (fun h2 => ?_) (fun h2 => ?_)
    · exact kF h2
    · exact kT h2
  · refine j_iload_n (pc' := 11) rfl rfl rfl ?_
    exact j_ret rfl rfl rfl (fun _ h => h)
  · refine j_iload_n (pc' := 13) rfl rfl rfl ?_
    refine j_istore (pc' := 15) (L' := [some (.ref 75), some (.int l1), some (.int l2), some (.int v1), some (.int l2), none]) rfl rfl rfl ?_
    refine j_iconst (pc' := 16) (x := (0 : Int32)) rfl rfl rfl ?_
    refine j_istore (pc' := 18) (L' := [some (.ref 75), some (.int l1), some (.int l2), some (.int v1), some (.int l2), some (.int (0 : Int32))]) rfl rfl rfl ?_
    refine j_wk [true, true, false, false, true, true] (L' := [some (.ref 75), some (.int l1), none, none, some (.int l2), some (.int (0 : Int32))]) rfl ?_
    exact (l_X12_place_18 hd τ l1 σ j_F l2 (0 : Int32))

noncomputable def p_X11_next_17 (s46 : Nat) (s46_2 : Nat) (s67 : Nat) (σ : j_G) : Nat → Int32 → Int32 → Option Int32
  | 0, _, _ => none
  | n + 1, l3, l4 =>
    if l4 < (σ.1 5 0) then (j_b1 (f_X3_goesSo s46 s46_2 l4 σ) fun v1 =>
    j_lt (fun (v4 : Int32) => (p_X11_next_17 s46 s46_2 s67 σ n v4 (l4 + (1 : Int32)))) fun (k2 : Int32 → Option Int32) =>
    if ¬ v1 = 0 then (j_b1 (f_X3_round (l4 + (σ.1 s67 0)) σ) fun v3 =>
    if (¬ l3 = (-1 : Int32)) ∧ (¬ l3 = v3) then (some (-1 : Int32)) else (k2 v3)) else (k2 l3)) else (some l3)

noncomputable def f_X11_next (l1 : Int32) (σ : j_G) : Option Int32 :=
  j_b1 (f_X11_whyUnheard l1 σ) fun v1 =>
  if ¬ v1 = 0 then (some v1) else (if l1 = 0 then (p_X11_next_17 67 68 67 σ j_F (-1 : Int32) (0 : Int32)) else
  if l1 = 1 then (p_X11_next_17 69 70 69 σ j_F (-1 : Int32) (0 : Int32)) else
  if l1 = 2 then (p_X11_next_17 71 72 71 σ j_F (-1 : Int32) (0 : Int32)) else
  if l1 = 3 then (p_X11_next_17 73 74 73 σ j_F (-1 : Int32) (0 : Int32)) else
  none)
theorem l_X11_next_17_67_68_67 {d : Nat} (hd : 3 ≤ d) (τ : j_G) (σ : j_G) : ∀ (n : Nat) (l3 : Int32) (l4 : Int32), j_J true τ M_cX11_next d 17 [some (.ref 0), some (.int (0 : Int32)), none, some (.int l3), some (.int l4), none] [] σ (p_X11_next_17 67 68 67 σ n l3 l4) (j_Pi σ) := by
  intro n
  induction n with
  | zero => intro l3 l4; exact j_none
  | succ n ih =>
    intro l3 l4
    unfold p_X11_next_17
    refine j_iload (pc' := 19) rfl rfl rfl ?_
    refine j_aload_n (pc' := 20) rfl rfl rfl ?_
    refine j_gfr (pc' := 23) (x := 1) rfl rfl j_a0 rfl rfl ?_
    refine j_gfr (pc' := 26) (x := 5) rfl rfl j_a1 rfl rfl ?_
    refine j_gfi (pc' := 29) rfl rfl j_a5 rfl ?_
    refine j_two (pT := 32) (pF := 99) (L1 := [some (.ref 0), some (.int (0 : Int32)), none, some (.int l3), some (.int l4), none]) (st1 := []) (fun o kT kF => ?_) (fun h6 => ?_) (fun h6 => ?_)
    · refine j_icge (t := 99) (pc' := 32) rfl rfl rfl (fun h7 => ?_) (fun h7 => ?_)
      · exact kF h7
      · exact kT h7
    · refine j_aload_n (pc' := 33) rfl rfl rfl ?_
      refine j_gfr (pc' := 36) (x := 1) rfl rfl j_a0 rfl rfl ?_
      refine j_gfr (pc' := 39) (x := 5) rfl rfl j_a1 rfl rfl ?_
      refine j_iload (pc' := 41) rfl rfl rfl ?_
      refine j_aload_n (pc' := 42) rfl rfl rfl ?_
      refine j_gfr (pc' := 45) (x := 42) rfl rfl j_a0 rfl rfl ?_
      refine j_iload_n (pc' := 46) rfl rfl rfl ?_
      refine j_aald (pc' := 47) (r := 67) rfl rfl j_a42 (by decide) rfl ?_
      refine j_callPi (pc' := 50) (ai := 37) (vs := [.ref 5, .int l4, .ref 67]) (rest := []) rfl rfl (fun _ _ => rfl) (c_X3_goesSo_5_67 l4 σ) (j_dd rfl hd) rfl (fun v1 => ?_)
      refine j_jn (P := (fun k => ∀ (v4 : Int32), j_J true τ M_cX11_next d 93 [some (.ref 0), some (.int (0 : Int32)), none, some (.int v4), some (.int l4), none] [] σ (k v4) (j_Pi σ))) ?_ (fun k2 k2_h => ?_)
      · intro v4
        refine j_iincx (pc' := 96) (y := (1 : Int32)) (L' := [some (.ref 0), some (.int (0 : Int32)), none, some (.int v4), some (.int (l4 + (1 : Int32))), none]) rfl rfl rfl rfl rfl ?_
        refine j_goto (t := 17) rfl rfl ?_
        exact ih v4 (l4 + (1 : Int32))
      · refine j_two (pT := 53) (pF := 93) (L1 := [some (.ref 0), some (.int (0 : Int32)), none, some (.int l3), some (.int l4), none]) (st1 := []) (fun o kT kF => ?_) (fun h4 => ?_) (fun h4 => ?_)
        · refine j_ifeq (t := 93) (pc' := 53) rfl rfl rfl (fun h5 => ?_) (fun h5 => ?_)
          · exact kF (fun z => z h5)
          · exact kT h5
        · refine j_aload_n (pc' := 54) rfl rfl rfl ?_
          refine j_gfr (pc' := 57) (x := 1) rfl rfl j_a0 rfl rfl ?_
          refine j_gfr (pc' := 60) (x := 5) rfl rfl j_a1 rfl rfl ?_
          refine j_iload (pc' := 62) rfl rfl rfl ?_
          refine j_aload_n (pc' := 63) rfl rfl rfl ?_
          refine j_gfr (pc' := 66) (x := 42) rfl rfl j_a0 rfl rfl ?_
          refine j_iload_n (pc' := 67) rfl rfl rfl ?_
          refine j_aald (pc' := 68) (r := 67) rfl rfl j_a42 (by decide) rfl ?_
          refine j_gfi (pc' := 71) rfl rfl j_a67 rfl ?_
          refine j_iadd (pc' := 72) rfl rfl ?_
          refine j_callPi (pc' := 75) (ai := 35) (vs := [.ref 5, .int (l4 + (σ.1 67 0))]) (rest := []) rfl rfl (fun _ _ => rfl) (c_X3_round (l4 + (σ.1 67 0)) σ) (j_dd rfl hd) rfl (fun v3 => ?_)
          refine j_istore (pc' := 77) (L' := [some (.ref 0), some (.int (0 : Int32)), none, some (.int l3), some (.int l4), some (.int v3)]) rfl rfl rfl ?_
          refine j_iload_n (pc' := 78) rfl rfl rfl ?_
          refine j_iconst (pc' := 79) (x := (-1 : Int32)) rfl rfl rfl ?_
          refine j_two (pT := 88) (pF := 90) (L1 := [some (.ref 0), some (.int (0 : Int32)), none, some (.int l3), some (.int l4), some (.int v3)]) (st1 := []) (fun o kT kF => ?_) (fun h1 => ?_) (fun h1 => ?_)
          · refine j_iceq (t := 90) (pc' := 82) rfl rfl rfl (fun h2 => ?_) (fun h2 => ?_)
            · exact kF (fun z => z.1 h2)
            · refine j_iload_n (pc' := 83) rfl rfl rfl ?_
              refine j_iload (pc' := 85) rfl rfl rfl ?_
              refine j_iceq (t := 90) (pc' := 88) rfl rfl rfl (fun h3 => ?_) (fun h3 => ?_)
              · exact kF (fun z => (fun z => z h3) z.2)
              · exact kT (⟨h2, h3⟩)
          · refine j_iconst (pc' := 89) (x := (-1 : Int32)) rfl rfl rfl ?_
            exact j_ret rfl rfl rfl (fun _ h => h)
          · refine j_iload (pc' := 92) rfl rfl rfl ?_
            refine j_istore_n (pc' := 93) (L' := [some (.ref 0), some (.int (0 : Int32)), none, some (.int v3), some (.int l4), some (.int v3)]) rfl rfl rfl ?_
            refine j_wk [true, true, true, true, true, false] (L' := [some (.ref 0), some (.int (0 : Int32)), none, some (.int v3), some (.int l4), none]) rfl ?_
            exact k2_h v3
        · exact k2_h l3
    · refine j_iload_n (pc' := 100) rfl rfl rfl ?_
      exact j_ret rfl rfl rfl (fun _ h => h)

theorem l_X11_next_17_69_70_69 {d : Nat} (hd : 3 ≤ d) (τ : j_G) (σ : j_G) : ∀ (n : Nat) (l3 : Int32) (l4 : Int32), j_J true τ M_cX11_next d 17 [some (.ref 0), some (.int (1 : Int32)), none, some (.int l3), some (.int l4), none] [] σ (p_X11_next_17 69 70 69 σ n l3 l4) (j_Pi σ) := by
  intro n
  induction n with
  | zero => intro l3 l4; exact j_none
  | succ n ih =>
    intro l3 l4
    unfold p_X11_next_17
    refine j_iload (pc' := 19) rfl rfl rfl ?_
    refine j_aload_n (pc' := 20) rfl rfl rfl ?_
    refine j_gfr (pc' := 23) (x := 1) rfl rfl j_a0 rfl rfl ?_
    refine j_gfr (pc' := 26) (x := 5) rfl rfl j_a1 rfl rfl ?_
    refine j_gfi (pc' := 29) rfl rfl j_a5 rfl ?_
    refine j_two (pT := 32) (pF := 99) (L1 := [some (.ref 0), some (.int (1 : Int32)), none, some (.int l3), some (.int l4), none]) (st1 := []) (fun o kT kF => ?_) (fun h6 => ?_) (fun h6 => ?_)
    · refine j_icge (t := 99) (pc' := 32) rfl rfl rfl (fun h7 => ?_) (fun h7 => ?_)
      · exact kF h7
      · exact kT h7
    · refine j_aload_n (pc' := 33) rfl rfl rfl ?_
      refine j_gfr (pc' := 36) (x := 1) rfl rfl j_a0 rfl rfl ?_
      refine j_gfr (pc' := 39) (x := 5) rfl rfl j_a1 rfl rfl ?_
      refine j_iload (pc' := 41) rfl rfl rfl ?_
      refine j_aload_n (pc' := 42) rfl rfl rfl ?_
      refine j_gfr (pc' := 45) (x := 42) rfl rfl j_a0 rfl rfl ?_
      refine j_iload_n (pc' := 46) rfl rfl rfl ?_
      refine j_aald (pc' := 47) (r := 69) rfl rfl j_a42 (by decide) rfl ?_
      refine j_callPi (pc' := 50) (ai := 37) (vs := [.ref 5, .int l4, .ref 69]) (rest := []) rfl rfl (fun _ _ => rfl) (c_X3_goesSo_5_69 l4 σ) (j_dd rfl hd) rfl (fun v1 => ?_)
      refine j_jn (P := (fun k => ∀ (v4 : Int32), j_J true τ M_cX11_next d 93 [some (.ref 0), some (.int (1 : Int32)), none, some (.int v4), some (.int l4), none] [] σ (k v4) (j_Pi σ))) ?_ (fun k2 k2_h => ?_)
      · intro v4
        refine j_iincx (pc' := 96) (y := (1 : Int32)) (L' := [some (.ref 0), some (.int (1 : Int32)), none, some (.int v4), some (.int (l4 + (1 : Int32))), none]) rfl rfl rfl rfl rfl ?_
        refine j_goto (t := 17) rfl rfl ?_
        exact ih v4 (l4 + (1 : Int32))
      · refine j_two (pT := 53) (pF := 93) (L1 := [some (.ref 0), some (.int (1 : Int32)), none, some (.int l3), some (.int l4), none]) (st1 := []) (fun o kT kF => ?_) (fun h4 => ?_) (fun h4 => ?_)
        · refine j_ifeq (t := 93) (pc' := 53) rfl rfl rfl (fun h5 => ?_) (fun h5 => ?_)
          · exact kF (fun z => z h5)
          · exact kT h5
        · refine j_aload_n (pc' := 54) rfl rfl rfl ?_
          refine j_gfr (pc' := 57) (x := 1) rfl rfl j_a0 rfl rfl ?_
          refine j_gfr (pc' := 60) (x := 5) rfl rfl j_a1 rfl rfl ?_
          refine j_iload (pc' := 62) rfl rfl rfl ?_
          refine j_aload_n (pc' := 63) rfl rfl rfl ?_
          refine j_gfr (pc' := 66) (x := 42) rfl rfl j_a0 rfl rfl ?_
          refine j_iload_n (pc' := 67) rfl rfl rfl ?_
          refine j_aald (pc' := 68) (r := 69) rfl rfl j_a42 (by decide) rfl ?_
          refine j_gfi (pc' := 71) rfl rfl j_a69 rfl ?_
          refine j_iadd (pc' := 72) rfl rfl ?_
          refine j_callPi (pc' := 75) (ai := 35) (vs := [.ref 5, .int (l4 + (σ.1 69 0))]) (rest := []) rfl rfl (fun _ _ => rfl) (c_X3_round (l4 + (σ.1 69 0)) σ) (j_dd rfl hd) rfl (fun v3 => ?_)
          refine j_istore (pc' := 77) (L' := [some (.ref 0), some (.int (1 : Int32)), none, some (.int l3), some (.int l4), some (.int v3)]) rfl rfl rfl ?_
          refine j_iload_n (pc' := 78) rfl rfl rfl ?_
          refine j_iconst (pc' := 79) (x := (-1 : Int32)) rfl rfl rfl ?_
          refine j_two (pT := 88) (pF := 90) (L1 := [some (.ref 0), some (.int (1 : Int32)), none, some (.int l3), some (.int l4), some (.int v3)]) (st1 := []) (fun o kT kF => ?_) (fun h1 => ?_) (fun h1 => ?_)
          · refine j_iceq (t := 90) (pc' := 82) rfl rfl rfl (fun h2 => ?_) (fun h2 => ?_)
            · exact kF (fun z => z.1 h2)
            · refine j_iload_n (pc' := 83) rfl rfl rfl ?_
              refine j_iload (pc' := 85) rfl rfl rfl ?_
              refine j_iceq (t := 90) (pc' := 88) rfl rfl rfl (fun h3 => ?_) (fun h3 => ?_)
              · exact kF (fun z => (fun z => z h3) z.2)
              · exact kT (⟨h2, h3⟩)
          · refine j_iconst (pc' := 89) (x := (-1 : Int32)) rfl rfl rfl ?_
            exact j_ret rfl rfl rfl (fun _ h => h)
          · refine j_iload (pc' := 92) rfl rfl rfl ?_
            refine j_istore_n (pc' := 93) (L' := [some (.ref 0), some (.int (1 : Int32)), none, some (.int v3), some (.int l4), some (.int v3)]) rfl rfl rfl ?_
            refine j_wk [true, true, true, true, true, false] (L' := [some (.ref 0), some (.int (1 : Int32)), none, some (.int v3), some (.int l4), none]) rfl ?_
            exact k2_h v3
        · exact k2_h l3
    · refine j_iload_n (pc' := 100) rfl rfl rfl ?_
      exact j_ret rfl rfl rfl (fun _ h => h)

theorem l_X11_next_17_71_72_71 {d : Nat} (hd : 3 ≤ d) (τ : j_G) (σ : j_G) : ∀ (n : Nat) (l3 : Int32) (l4 : Int32), j_J true τ M_cX11_next d 17 [some (.ref 0), some (.int (2 : Int32)), none, some (.int l3), some (.int l4), none] [] σ (p_X11_next_17 71 72 71 σ n l3 l4) (j_Pi σ) := by
  intro n
  induction n with
  | zero => intro l3 l4; exact j_none
  | succ n ih =>
    intro l3 l4
    unfold p_X11_next_17
    refine j_iload (pc' := 19) rfl rfl rfl ?_
    refine j_aload_n (pc' := 20) rfl rfl rfl ?_
    refine j_gfr (pc' := 23) (x := 1) rfl rfl j_a0 rfl rfl ?_
    refine j_gfr (pc' := 26) (x := 5) rfl rfl j_a1 rfl rfl ?_
    refine j_gfi (pc' := 29) rfl rfl j_a5 rfl ?_
    refine j_two (pT := 32) (pF := 99) (L1 := [some (.ref 0), some (.int (2 : Int32)), none, some (.int l3), some (.int l4), none]) (st1 := []) (fun o kT kF => ?_) (fun h6 => ?_) (fun h6 => ?_)
    · refine j_icge (t := 99) (pc' := 32) rfl rfl rfl (fun h7 => ?_) (fun h7 => ?_)
      · exact kF h7
      · exact kT h7
    · refine j_aload_n (pc' := 33) rfl rfl rfl ?_
      refine j_gfr (pc' := 36) (x := 1) rfl rfl j_a0 rfl rfl ?_
      refine j_gfr (pc' := 39) (x := 5) rfl rfl j_a1 rfl rfl ?_
      refine j_iload (pc' := 41) rfl rfl rfl ?_
      refine j_aload_n (pc' := 42) rfl rfl rfl ?_
      refine j_gfr (pc' := 45) (x := 42) rfl rfl j_a0 rfl rfl ?_
      refine j_iload_n (pc' := 46) rfl rfl rfl ?_
      refine j_aald (pc' := 47) (r := 71) rfl rfl j_a42 (by decide) rfl ?_
      refine j_callPi (pc' := 50) (ai := 37) (vs := [.ref 5, .int l4, .ref 71]) (rest := []) rfl rfl (fun _ _ => rfl) (c_X3_goesSo_5_71 l4 σ) (j_dd rfl hd) rfl (fun v1 => ?_)
      refine j_jn (P := (fun k => ∀ (v4 : Int32), j_J true τ M_cX11_next d 93 [some (.ref 0), some (.int (2 : Int32)), none, some (.int v4), some (.int l4), none] [] σ (k v4) (j_Pi σ))) ?_ (fun k2 k2_h => ?_)
      · intro v4
        refine j_iincx (pc' := 96) (y := (1 : Int32)) (L' := [some (.ref 0), some (.int (2 : Int32)), none, some (.int v4), some (.int (l4 + (1 : Int32))), none]) rfl rfl rfl rfl rfl ?_
        refine j_goto (t := 17) rfl rfl ?_
        exact ih v4 (l4 + (1 : Int32))
      · refine j_two (pT := 53) (pF := 93) (L1 := [some (.ref 0), some (.int (2 : Int32)), none, some (.int l3), some (.int l4), none]) (st1 := []) (fun o kT kF => ?_) (fun h4 => ?_) (fun h4 => ?_)
        · refine j_ifeq (t := 93) (pc' := 53) rfl rfl rfl (fun h5 => ?_) (fun h5 => ?_)
          · exact kF (fun z => z h5)
          · exact kT h5
        · refine j_aload_n (pc' := 54) rfl rfl rfl ?_
          refine j_gfr (pc' := 57) (x := 1) rfl rfl j_a0 rfl rfl ?_
          refine j_gfr (pc' := 60) (x := 5) rfl rfl j_a1 rfl rfl ?_
          refine j_iload (pc' := 62) rfl rfl rfl ?_
          refine j_aload_n (pc' := 63) rfl rfl rfl ?_
          refine j_gfr (pc' := 66) (x := 42) rfl rfl j_a0 rfl rfl ?_
          refine j_iload_n (pc' := 67) rfl rfl rfl ?_
          refine j_aald (pc' := 68) (r := 71) rfl rfl j_a42 (by decide) rfl ?_
          refine j_gfi (pc' := 71) rfl rfl j_a71 rfl ?_
          refine j_iadd (pc' := 72) rfl rfl ?_
          refine j_callPi (pc' := 75) (ai := 35) (vs := [.ref 5, .int (l4 + (σ.1 71 0))]) (rest := []) rfl rfl (fun _ _ => rfl) (c_X3_round (l4 + (σ.1 71 0)) σ) (j_dd rfl hd) rfl (fun v3 => ?_)
          refine j_istore (pc' := 77) (L' := [some (.ref 0), some (.int (2 : Int32)), none, some (.int l3), some (.int l4), some (.int v3)]) rfl rfl rfl ?_
          refine j_iload_n (pc' := 78) rfl rfl rfl ?_
          refine j_iconst (pc' := 79) (x := (-1 : Int32)) rfl rfl rfl ?_
          refine j_two (pT := 88) (pF := 90) (L1 := [some (.ref 0), some (.int (2 : Int32)), none, some (.int l3), some (.int l4), some (.int v3)]) (st1 := []) (fun o kT kF => ?_) (fun h1 => ?_) (fun h1 => ?_)
          · refine j_iceq (t := 90) (pc' := 82) rfl rfl rfl (fun h2 => ?_) (fun h2 => ?_)
            · exact kF (fun z => z.1 h2)
            · refine j_iload_n (pc' := 83) rfl rfl rfl ?_
              refine j_iload (pc' := 85) rfl rfl rfl ?_
              refine j_iceq (t := 90) (pc' := 88) rfl rfl rfl (fun h3 => ?_) (fun h3 => ?_)
              · exact kF (fun z => (fun z => z h3) z.2)
              · exact kT (⟨h2, h3⟩)
          · refine j_iconst (pc' := 89) (x := (-1 : Int32)) rfl rfl rfl ?_
            exact j_ret rfl rfl rfl (fun _ h => h)
          · refine j_iload (pc' := 92) rfl rfl rfl ?_
            refine j_istore_n (pc' := 93) (L' := [some (.ref 0), some (.int (2 : Int32)), none, some (.int v3), some (.int l4), some (.int v3)]) rfl rfl rfl ?_
            refine j_wk [true, true, true, true, true, false] (L' := [some (.ref 0), some (.int (2 : Int32)), none, some (.int v3), some (.int l4), none]) rfl ?_
            exact k2_h v3
        · exact k2_h l3
    · refine j_iload_n (pc' := 100) rfl rfl rfl ?_
      exact j_ret rfl rfl rfl (fun _ h => h)

theorem l_X11_next_17_73_74_73 {d : Nat} (hd : 3 ≤ d) (τ : j_G) (σ : j_G) : ∀ (n : Nat) (l3 : Int32) (l4 : Int32), j_J true τ M_cX11_next d 17 [some (.ref 0), some (.int (3 : Int32)), none, some (.int l3), some (.int l4), none] [] σ (p_X11_next_17 73 74 73 σ n l3 l4) (j_Pi σ) := by
  intro n
  induction n with
  | zero => intro l3 l4; exact j_none
  | succ n ih =>
    intro l3 l4
    unfold p_X11_next_17
    refine j_iload (pc' := 19) rfl rfl rfl ?_
    refine j_aload_n (pc' := 20) rfl rfl rfl ?_
    refine j_gfr (pc' := 23) (x := 1) rfl rfl j_a0 rfl rfl ?_
    refine j_gfr (pc' := 26) (x := 5) rfl rfl j_a1 rfl rfl ?_
    refine j_gfi (pc' := 29) rfl rfl j_a5 rfl ?_
    refine j_two (pT := 32) (pF := 99) (L1 := [some (.ref 0), some (.int (3 : Int32)), none, some (.int l3), some (.int l4), none]) (st1 := []) (fun o kT kF => ?_) (fun h6 => ?_) (fun h6 => ?_)
    · refine j_icge (t := 99) (pc' := 32) rfl rfl rfl (fun h7 => ?_) (fun h7 => ?_)
      · exact kF h7
      · exact kT h7
    · refine j_aload_n (pc' := 33) rfl rfl rfl ?_
      refine j_gfr (pc' := 36) (x := 1) rfl rfl j_a0 rfl rfl ?_
      refine j_gfr (pc' := 39) (x := 5) rfl rfl j_a1 rfl rfl ?_
      refine j_iload (pc' := 41) rfl rfl rfl ?_
      refine j_aload_n (pc' := 42) rfl rfl rfl ?_
      refine j_gfr (pc' := 45) (x := 42) rfl rfl j_a0 rfl rfl ?_
      refine j_iload_n (pc' := 46) rfl rfl rfl ?_
      refine j_aald (pc' := 47) (r := 73) rfl rfl j_a42 (by decide) rfl ?_
      refine j_callPi (pc' := 50) (ai := 37) (vs := [.ref 5, .int l4, .ref 73]) (rest := []) rfl rfl (fun _ _ => rfl) (c_X3_goesSo_5_73 l4 σ) (j_dd rfl hd) rfl (fun v1 => ?_)
      refine j_jn (P := (fun k => ∀ (v4 : Int32), j_J true τ M_cX11_next d 93 [some (.ref 0), some (.int (3 : Int32)), none, some (.int v4), some (.int l4), none] [] σ (k v4) (j_Pi σ))) ?_ (fun k2 k2_h => ?_)
      · intro v4
        refine j_iincx (pc' := 96) (y := (1 : Int32)) (L' := [some (.ref 0), some (.int (3 : Int32)), none, some (.int v4), some (.int (l4 + (1 : Int32))), none]) rfl rfl rfl rfl rfl ?_
        refine j_goto (t := 17) rfl rfl ?_
        exact ih v4 (l4 + (1 : Int32))
      · refine j_two (pT := 53) (pF := 93) (L1 := [some (.ref 0), some (.int (3 : Int32)), none, some (.int l3), some (.int l4), none]) (st1 := []) (fun o kT kF => ?_) (fun h4 => ?_) (fun h4 => ?_)
        · refine j_ifeq (t := 93) (pc' := 53) rfl rfl rfl (fun h5 => ?_) (fun h5 => ?_)
          · exact kF (fun z => z h5)
          · exact kT h5
        · refine j_aload_n (pc' := 54) rfl rfl rfl ?_
          refine j_gfr (pc' := 57) (x := 1) rfl rfl j_a0 rfl rfl ?_
          refine j_gfr (pc' := 60) (x := 5) rfl rfl j_a1 rfl rfl ?_
          refine j_iload (pc' := 62) rfl rfl rfl ?_
          refine j_aload_n (pc' := 63) rfl rfl rfl ?_
          refine j_gfr (pc' := 66) (x := 42) rfl rfl j_a0 rfl rfl ?_
          refine j_iload_n (pc' := 67) rfl rfl rfl ?_
          refine j_aald (pc' := 68) (r := 73) rfl rfl j_a42 (by decide) rfl ?_
          refine j_gfi (pc' := 71) rfl rfl j_a73 rfl ?_
          refine j_iadd (pc' := 72) rfl rfl ?_
          refine j_callPi (pc' := 75) (ai := 35) (vs := [.ref 5, .int (l4 + (σ.1 73 0))]) (rest := []) rfl rfl (fun _ _ => rfl) (c_X3_round (l4 + (σ.1 73 0)) σ) (j_dd rfl hd) rfl (fun v3 => ?_)
          refine j_istore (pc' := 77) (L' := [some (.ref 0), some (.int (3 : Int32)), none, some (.int l3), some (.int l4), some (.int v3)]) rfl rfl rfl ?_
          refine j_iload_n (pc' := 78) rfl rfl rfl ?_
          refine j_iconst (pc' := 79) (x := (-1 : Int32)) rfl rfl rfl ?_
          refine j_two (pT := 88) (pF := 90) (L1 := [some (.ref 0), some (.int (3 : Int32)), none, some (.int l3), some (.int l4), some (.int v3)]) (st1 := []) (fun o kT kF => ?_) (fun h1 => ?_) (fun h1 => ?_)
          · refine j_iceq (t := 90) (pc' := 82) rfl rfl rfl (fun h2 => ?_) (fun h2 => ?_)
            · exact kF (fun z => z.1 h2)
            · refine j_iload_n (pc' := 83) rfl rfl rfl ?_
              refine j_iload (pc' := 85) rfl rfl rfl ?_
              refine j_iceq (t := 90) (pc' := 88) rfl rfl rfl (fun h3 => ?_) (fun h3 => ?_)
              · exact kF (fun z => (fun z => z h3) z.2)
              · exact kT (⟨h2, h3⟩)
          · refine j_iconst (pc' := 89) (x := (-1 : Int32)) rfl rfl rfl ?_
            exact j_ret rfl rfl rfl (fun _ h => h)
          · refine j_iload (pc' := 92) rfl rfl rfl ?_
            refine j_istore_n (pc' := 93) (L' := [some (.ref 0), some (.int (3 : Int32)), none, some (.int v3), some (.int l4), some (.int v3)]) rfl rfl rfl ?_
            refine j_wk [true, true, true, true, true, false] (L' := [some (.ref 0), some (.int (3 : Int32)), none, some (.int v3), some (.int l4), none]) rfl ?_
            exact k2_h v3
        · exact k2_h l3
    · refine j_iload_n (pc' := 100) rfl rfl rfl ?_
      exact j_ret rfl rfl rfl (fun _ h => h)

theorem c_X11_next (l1 : Int32) (σ : j_G) : j_K true 3 153 [.ref 0, .int l1] σ (f_X11_next l1 σ) (j_Pi σ) := by
  refine j_mkK (M := M_cX11_next) (L := [some (.ref 0), some (.int l1), none, none, none, none]) (m := 4) t_153 rfl (j_rcvO j_a0 rfl) rfl (fun d hd τ => ?_)
  unfold f_X11_next
  refine j_aload_n (pc' := 1) rfl rfl rfl ?_
  refine j_iload_n (pc' := 2) rfl rfl rfl ?_
  refine j_callPi (pc' := 5) (ai := 193) (vs := [.ref 0, .int l1]) (rest := []) rfl rfl (fun _ _ => rfl) (c_X11_whyUnheard l1 σ) (j_dd rfl hd) rfl (fun v1 => ?_)
  refine j_istore_n (pc' := 6) (L' := [some (.ref 0), some (.int l1), some (.int v1), none, none, none]) rfl rfl rfl ?_
  refine j_iload_n (pc' := 7) rfl rfl rfl ?_
  refine j_two (pT := 10) (pF := 12) (L1 := [some (.ref 0), some (.int l1), some (.int v1), none, none, none]) (st1 := []) (fun o kT kF => ?_) (fun h5 => ?_) (fun h5 => ?_)
  · refine j_ifeq (t := 12) (pc' := 10) rfl rfl rfl (fun h6 => ?_) (fun h6 => ?_)
    · exact kF (fun z => z h6)
    · exact kT h6
  · refine j_iload_n (pc' := 11) rfl rfl rfl ?_
    exact j_ret rfl rfl rfl (fun _ h => h)
  · refine j_iconst (pc' := 13) (x := (-1 : Int32)) rfl rfl rfl ?_
    refine j_istore_n (pc' := 14) (L' := [some (.ref 0), some (.int l1), some (.int v1), some (.int (-1 : Int32)), none, none]) rfl rfl rfl ?_
    refine j_iconst (pc' := 15) (x := (0 : Int32)) rfl rfl rfl ?_
    refine j_istore (pc' := 17) (L' := [some (.ref 0), some (.int l1), some (.int v1), some (.int (-1 : Int32)), some (.int (0 : Int32)), none]) rfl rfl rfl ?_
    refine j_splx (i := l1) (k := (0 : Int32)) (fun h1 => ?_) (fun h1 => ?_)
    · subst h1
      refine j_wk [true, true, false, true, true, true] (L' := [some (.ref 0), some (.int (0 : Int32)), none, some (.int (-1 : Int32)), some (.int (0 : Int32)), none]) rfl ?_
      exact (l_X11_next_17_67_68_67 hd τ σ j_F (-1 : Int32) (0 : Int32))
    refine j_splx (i := l1) (k := (1 : Int32)) (fun h2 => ?_) (fun h2 => ?_)
    · subst h2
      refine j_wk [true, true, false, true, true, true] (L' := [some (.ref 0), some (.int (1 : Int32)), none, some (.int (-1 : Int32)), some (.int (0 : Int32)), none]) rfl ?_
      exact (l_X11_next_17_69_70_69 hd τ σ j_F (-1 : Int32) (0 : Int32))
    refine j_splx (i := l1) (k := (2 : Int32)) (fun h3 => ?_) (fun h3 => ?_)
    · subst h3
      refine j_wk [true, true, false, true, true, true] (L' := [some (.ref 0), some (.int (2 : Int32)), none, some (.int (-1 : Int32)), some (.int (0 : Int32)), none]) rfl ?_
      exact (l_X11_next_17_71_72_71 hd τ σ j_F (-1 : Int32) (0 : Int32))
    refine j_splx (i := l1) (k := (3 : Int32)) (fun h4 => ?_) (fun h4 => ?_)
    · subst h4
      refine j_wk [true, true, false, true, true, true] (L' := [some (.ref 0), some (.int (3 : Int32)), none, some (.int (-1 : Int32)), some (.int (0 : Int32)), none]) rfl ?_
      exact (l_X11_next_17_73_74_73 hd τ σ j_F (-1 : Int32) (0 : Int32))
    exact j_none

noncomputable def p_X12_next_17 (l1 : Int32) (σ : j_G) : Nat → Int32 → Int32 → Option Int32
  | 0, _, _ => none
  | n + 1, l3, l4 =>
    j_ix (5 : Int32) 116 (
    if l4 < (σ.1 76 ((5 : Int32)).toNatClampNeg) then (j_b1 (f_X12_fitsFrom l1 l4 σ) fun v1 =>
    j_lt (fun (v4 : Int32) => (p_X12_next_17 l1 σ n v4 (l4 + (1 : Int32)))) fun (k2 : Int32 → Option Int32) =>
    if v1 = 0 then (k2 l3) else (j_ix l1 4 (
    j_b1 (f_X12_holeAt (l4 + (σ.1 94 (l1).toNatClampNeg)) σ) fun v3 =>
    if (¬ l3 = (-1 : Int32)) ∧ (¬ v3 = l3) then (some (-1 : Int32)) else (k2 v3)))) else (some l3))

noncomputable def f_X12_next (l1 : Int32) (σ : j_G) : Option Int32 :=
  j_b1 (f_X12_asksHeard l1 σ) fun v1 =>
  if v1 < 0 then (some v1) else (p_X12_next_17 l1 σ j_F (-1 : Int32) (0 : Int32))
theorem l_X12_next_17 {d : Nat} (hd : 3 ≤ d) (τ : j_G) (l1 : Int32) (σ : j_G) : ∀ (n : Nat) (l3 : Int32) (l4 : Int32), j_J false τ M_cX12_next d 17 [some (.ref 75), some (.int l1), none, some (.int l3), some (.int l4), none] [] σ (p_X12_next_17 l1 σ n l3 l4) (j_Pi σ) := by
  intro n
  induction n with
  | zero => intro l3 l4; exact j_none
  | succ n ih =>
    intro l3 l4
    unfold p_X12_next_17
    refine j_iload (pc' := 19) rfl rfl rfl ?_
    refine j_aload_n (pc' := 20) rfl rfl rfl ?_
    refine j_gfr (pc' := 23) (x := 76) rfl rfl j_a75 rfl rfl ?_
    refine j_iconst (pc' := 24) (x := (5 : Int32)) rfl rfl rfl ?_
    refine j_iald (pc' := 25) rfl rfl j_a76 ?_
    refine j_two (pT := 28) (pF := 78) (L1 := [some (.ref 75), some (.int l1), none, some (.int l3), some (.int l4), none]) (st1 := []) (fun o kT kF => ?_) (fun h6 => ?_) (fun h6 => ?_)
    · refine j_icge (t := 78) (pc' := 28) rfl rfl rfl (fun h7 => ?_) (fun h7 => ?_)
      · exact kF h7
      · exact kT h7
    · refine j_aload_n (pc' := 29) rfl rfl rfl ?_
      refine j_iload_n (pc' := 30) rfl rfl rfl ?_
      refine j_iload (pc' := 32) rfl rfl rfl ?_
      refine j_callPi (pc' := 35) (ai := 305) (vs := [.ref 75, .int l1, .int l4]) (rest := []) rfl rfl (fun _ _ => rfl) (c_X12_fitsFrom l1 l4 σ) (j_dd rfl hd) rfl (fun v1 => ?_)
      refine j_jn (P := (fun k => ∀ (v4 : Int32), j_J false τ M_cX12_next d 72 [some (.ref 75), some (.int l1), none, some (.int v4), some (.int l4), none] [] σ (k v4) (j_Pi σ))) ?_ (fun k2 k2_h => ?_)
      · intro v4
        refine j_iincx (pc' := 75) (y := (1 : Int32)) (L' := [some (.ref 75), some (.int l1), none, some (.int v4), some (.int (l4 + (1 : Int32))), none]) rfl rfl rfl rfl rfl ?_
        refine j_goto (t := 17) rfl rfl ?_
        exact ih v4 (l4 + (1 : Int32))
      · refine j_two (pT := 38) (pF := 41) (L1 := [some (.ref 75), some (.int l1), none, some (.int l3), some (.int l4), none]) (st1 := []) (fun o kT kF => ?_) (fun h4 => ?_) (fun h4 => ?_)
        · refine j_ifne (t := 41) (pc' := 38) rfl rfl rfl (fun h5 => ?_) (fun h5 => ?_)
          · exact kF h5
          · exact kT h5
        · refine j_goto (t := 72) rfl rfl ?_
          exact k2_h l3
        · refine j_aload_n (pc' := 42) rfl rfl rfl ?_
          refine j_iload (pc' := 44) rfl rfl rfl ?_
          refine j_aload_n (pc' := 45) rfl rfl rfl ?_
          refine j_gfr (pc' := 48) (x := 94) rfl rfl j_a75 rfl rfl ?_
          refine j_iload_n (pc' := 49) rfl rfl rfl ?_
          refine j_iald (pc' := 50) rfl rfl j_a94 ?_
          refine j_iadd (pc' := 51) rfl rfl ?_
          refine j_callPi (pc' := 54) (ai := 296) (vs := [.ref 75, .int (l4 + (σ.1 94 (l1).toNatClampNeg))]) (rest := []) rfl rfl (fun _ _ => rfl) (c_X12_holeAt (l4 + (σ.1 94 (l1).toNatClampNeg)) σ) (j_dd rfl hd) rfl (fun v3 => ?_)
          refine j_istore (pc' := 56) (L' := [some (.ref 75), some (.int l1), none, some (.int l3), some (.int l4), some (.int v3)]) rfl rfl rfl ?_
          refine j_iload_n (pc' := 57) rfl rfl rfl ?_
          refine j_iconst (pc' := 58) (x := (-1 : Int32)) rfl rfl rfl ?_
          refine j_two (pT := 67) (pF := 69) (L1 := [some (.ref 75), some (.int l1), none, some (.int l3), some (.int l4), some (.int v3)]) (st1 := []) (fun o kT kF => ?_) (fun h1 => ?_) (fun h1 => ?_)
          · refine j_iceq (t := 69) (pc' := 61) rfl rfl rfl (fun h2 => ?_) (fun h2 => ?_)
            · exact kF (fun z => z.1 h2)
            · refine j_iload (pc' := 63) rfl rfl rfl ?_
              refine j_iload_n (pc' := 64) rfl rfl rfl ?_
              refine j_iceq (t := 69) (pc' := 67) rfl rfl rfl (fun h3 => ?_) (fun h3 => ?_)
              · exact kF (fun z => (fun z => z h3) z.2)
              · exact kT (⟨h2, h3⟩)
          · refine j_iconst (pc' := 68) (x := (-1 : Int32)) rfl rfl rfl ?_
            exact j_ret rfl rfl rfl (fun _ h => h)
          · refine j_iload (pc' := 71) rfl rfl rfl ?_
            refine j_istore_n (pc' := 72) (L' := [some (.ref 75), some (.int l1), none, some (.int v3), some (.int l4), some (.int v3)]) rfl rfl rfl ?_
            refine j_wk [true, true, true, true, true, false] (L' := [some (.ref 75), some (.int l1), none, some (.int v3), some (.int l4), none]) rfl ?_
            exact k2_h v3
    · refine j_iload_n (pc' := 79) rfl rfl rfl ?_
      exact j_ret rfl rfl rfl (fun _ h => h)

theorem c_X12_next (l1 : Int32) (σ : j_G) : j_K false 3 308 [.ref 75, .int l1] σ (f_X12_next l1 σ) (j_Pi σ) := by
  refine j_mkK (M := M_cX12_next) (L := [some (.ref 75), some (.int l1), none, none, none, none]) (m := 4) t_308 rfl (j_rcvO j_a75 rfl) rfl (fun d hd τ => ?_)
  unfold f_X12_next
  refine j_aload_n (pc' := 1) rfl rfl rfl ?_
  refine j_iload_n (pc' := 2) rfl rfl rfl ?_
  refine j_callPi (pc' := 5) (ai := 299) (vs := [.ref 75, .int l1]) (rest := []) rfl rfl (fun _ _ => rfl) (c_X12_asksHeard l1 σ) (j_dd rfl hd) rfl (fun v1 => ?_)
  refine j_istore_n (pc' := 6) (L' := [some (.ref 75), some (.int l1), some (.int v1), none, none, none]) rfl rfl rfl ?_
  refine j_iload_n (pc' := 7) rfl rfl rfl ?_
  refine j_two (pT := 10) (pF := 12) (L1 := [some (.ref 75), some (.int l1), some (.int v1), none, none, none]) (st1 := []) (fun o kT kF => ?_) (fun h1 => ?_) (fun h1 => ?_)
  · refine j_ifge (t := 12) (pc' := 10) rfl rfl rfl (fun h2 => ?_) (fun h2 => ?_)
    · exact kF h2
    · exact kT h2
  · refine j_iload_n (pc' := 11) rfl rfl rfl ?_
    exact j_ret rfl rfl rfl (fun _ h => h)
  · refine j_iconst (pc' := 13) (x := (-1 : Int32)) rfl rfl rfl ?_
    refine j_istore_n (pc' := 14) (L' := [some (.ref 75), some (.int l1), some (.int v1), some (.int (-1 : Int32)), none, none]) rfl rfl rfl ?_
    refine j_iconst (pc' := 15) (x := (0 : Int32)) rfl rfl rfl ?_
    refine j_istore (pc' := 17) (L' := [some (.ref 75), some (.int l1), some (.int v1), some (.int (-1 : Int32)), some (.int (0 : Int32)), none]) rfl rfl rfl ?_
    refine j_wk [true, true, false, true, true, true] (L' := [some (.ref 75), some (.int l1), none, some (.int (-1 : Int32)), some (.int (0 : Int32)), none]) rfl ?_
    exact (l_X12_next_17 hd τ l1 σ j_F (-1 : Int32) (0 : Int32))

noncomputable def p_X3_alike_2 (l1 : Int32) (l2 : Int32) (σ : j_G) : Nat → Int32 → Option Int32
  | 0, _ => none
  | n + 1, l3 =>
    if l3 < (σ.1 5 0) then (j_b1 (f_X3_round (l1 + l3) σ) fun v1 =>
    j_b1 (f_X3_round (l2 + l3) σ) fun v2 =>
    if v1 = v2 then (p_X3_alike_2 l1 l2 σ n (l3 + (1 : Int32))) else (some l3)) else (some l3)

noncomputable def f_X3_alike (l1 : Int32) (l2 : Int32) (σ : j_G) : Option Int32 :=
  j_b1 (p_X3_alike_2 l1 l2 σ j_F (0 : Int32)) fun v1 =>
  some v1
theorem l_X3_alike_2 {d : Nat} (hd : 2 ≤ d) (τ : j_G) (l1 : Int32) (l2 : Int32) (σ : j_G) : ∀ (n : Nat) (l3 : Int32), j_J true τ M_cX3_alike d 2 [some (.ref 5), some (.int l1), some (.int l2), some (.int l3)] [] σ (p_X3_alike_2 l1 l2 σ n l3) (fun r Q => j_Tr true τ M_cX3_alike d 33 [none, none, none, some (.int r)] [] σ Q) := by
  intro n
  induction n with
  | zero => intro l3; exact j_none
  | succ n ih =>
    intro l3
    unfold p_X3_alike_2
    refine j_iload_n (pc' := 3) rfl rfl rfl ?_
    refine j_aload_n (pc' := 4) rfl rfl rfl ?_
    refine j_gfi (pc' := 7) rfl rfl j_a5 rfl ?_
    refine j_two (pT := 10) (pF := 33) (L1 := [some (.ref 5), some (.int l1), some (.int l2), some (.int l3)]) (st1 := []) (fun o kT kF => ?_) (fun h3 => ?_) (fun h3 => ?_)
    · refine j_icge (t := 33) (pc' := 10) rfl rfl rfl (fun h4 => ?_) (fun h4 => ?_)
      · exact kF h4
      · exact kT h4
    · refine j_aload_n (pc' := 11) rfl rfl rfl ?_
      refine j_iload_n (pc' := 12) rfl rfl rfl ?_
      refine j_iload_n (pc' := 13) rfl rfl rfl ?_
      refine j_iadd (pc' := 14) rfl rfl ?_
      refine j_callPi (pc' := 17) (ai := 35) (vs := [.ref 5, .int (l1 + l3)]) (rest := []) rfl rfl (fun _ _ => rfl) (c_X3_round (l1 + l3) σ) (j_dd rfl hd) rfl (fun v1 => ?_)
      refine j_aload_n (pc' := 18) rfl rfl rfl ?_
      refine j_iload_n (pc' := 19) rfl rfl rfl ?_
      refine j_iload_n (pc' := 20) rfl rfl rfl ?_
      refine j_iadd (pc' := 21) rfl rfl ?_
      refine j_callPi (pc' := 24) (ai := 35) (vs := [.ref 5, .int (l2 + l3)]) (rest := [.int v1]) rfl rfl (fun _ _ => rfl) (c_X3_round (l2 + l3) σ) (j_dd rfl hd) rfl (fun v2 => ?_)
      refine j_two (pT := 27) (pF := 33) (L1 := [some (.ref 5), some (.int l1), some (.int l2), some (.int l3)]) (st1 := []) (fun o kT kF => ?_) (fun h1 => ?_) (fun h1 => ?_)
      · refine j_icne (t := 33) (pc' := 27) rfl rfl rfl (fun h2 => ?_) (fun h2 => ?_)
        · exact kF h2
        · exact kT h2
      · refine j_iincx (pc' := 30) (y := (1 : Int32)) (L' := [some (.ref 5), some (.int l1), some (.int l2), some (.int (l3 + (1 : Int32)))]) rfl rfl rfl rfl rfl ?_
        refine j_goto (t := 2) rfl rfl ?_
        exact ih (l3 + (1 : Int32))
      · refine j_wk [false, false, false, true] (L' := [none, none, none, some (.int l3)]) rfl ?_
        exact j_end (fun _ h => h)
    · refine j_wk [false, false, false, true] (L' := [none, none, none, some (.int l3)]) rfl ?_
      exact j_end (fun _ h => h)

theorem c_X3_alike (l1 : Int32) (l2 : Int32) (σ : j_G) : j_K true 2 39 [.ref 5, .int l1, .int l2] σ (f_X3_alike l1 l2 σ) (j_Pi σ) := by
  refine j_mkK (M := M_cX3_alike) (L := [some (.ref 5), some (.int l1), some (.int l2), none]) (m := 1) t_39 rfl (j_rcvO j_a5 rfl) rfl (fun d hd τ => ?_)
  unfold f_X3_alike
  refine j_iconst (pc' := 1) (x := (0 : Int32)) rfl rfl rfl ?_
  refine j_istore_n (pc' := 2) (L' := [some (.ref 5), some (.int l1), some (.int l2), some (.int (0 : Int32))]) rfl rfl rfl ?_
  refine j_q1 (l_X3_alike_2 hd τ l1 l2 σ j_F (0 : Int32)) (fun v1 => ?_)
  show j_J true τ M_cX3_alike d 33 [none, none, none, some (.int v1)] [] σ _ _
  refine j_iload_n (pc' := 34) rfl rfl rfl ?_
  exact j_ret rfl rfl rfl (fun _ h => h)

noncomputable def p_X3_neededFrom_4 (l1 : Int32) (σ : j_G) : Nat → Int32 → Int32 → Option Int32
  | 0, _, _ => none
  | n + 1, l2, l3 =>
    if l3 < (σ.1 5 0) then (j_b1 (if ¬ l3 = l1 then (j_b1 (f_X3_alike l1 l3 σ) fun v2 =>
    j_lt (if l2 < (v2 + (1 : Int32)) then (v2 + (1 : Int32)) else l2) fun v3 =>
    some v3) else (some l2)) fun v1 =>
    p_X3_neededFrom_4 l1 σ n v1 (l3 + (1 : Int32))) else (some l2)

noncomputable def f_X3_neededFrom (l1 : Int32) (σ : j_G) : Option Int32 :=
  j_b1 (p_X3_neededFrom_4 l1 σ j_F (0 : Int32) (0 : Int32)) fun v1 =>
  if (σ.1 5 0) < v1 then (some (-1 : Int32)) else (some v1)
theorem l_X3_neededFrom_4 {d : Nat} (hd : 3 ≤ d) (τ : j_G) (l1 : Int32) (σ : j_G) : ∀ (n : Nat) (l2 : Int32) (l3 : Int32), j_J true τ M_cX3_neededFrom d 4 [some (.ref 5), some (.int l1), some (.int l2), some (.int l3)] [] σ (p_X3_neededFrom_4 l1 σ n l2 l3) (fun r Q => j_Tr true τ M_cX3_neededFrom d 36 [some (.ref 5), none, some (.int r), none] [] σ Q) := by
  intro n
  induction n with
  | zero => intro l2 l3; exact j_none
  | succ n ih =>
    intro l2 l3
    unfold p_X3_neededFrom_4
    refine j_iload_n (pc' := 5) rfl rfl rfl ?_
    refine j_aload_n (pc' := 6) rfl rfl rfl ?_
    refine j_gfi (pc' := 9) rfl rfl j_a5 rfl ?_
    refine j_two (pT := 12) (pF := 36) (L1 := [some (.ref 5), some (.int l1), some (.int l2), some (.int l3)]) (st1 := []) (fun o kT kF => ?_) (fun h3 => ?_) (fun h3 => ?_)
    · refine j_icge (t := 36) (pc' := 12) rfl rfl rfl (fun h4 => ?_) (fun h4 => ?_)
      · exact kF h4
      · exact kT h4
    · refine j_iload_n (pc' := 13) rfl rfl rfl ?_
      refine j_iload_n (pc' := 14) rfl rfl rfl ?_
      refine j_q1 (Φl := (fun r Q => j_Tr true τ M_cX3_neededFrom d 30 [some (.ref 5), some (.int l1), some (.int r), some (.int l3)] [] σ Q)) ?_ (fun v1 => ?_)
      · refine j_two (pT := 17) (pF := 30) (L1 := [some (.ref 5), some (.int l1), some (.int l2), some (.int l3)]) (st1 := []) (fun o kT kF => ?_) (fun h1 => ?_) (fun h1 => ?_)
        · refine j_iceq (t := 30) (pc' := 17) rfl rfl rfl (fun h2 => ?_) (fun h2 => ?_)
          · exact kF (fun z => z h2)
          · exact kT h2
        · refine j_iload_n (pc' := 18) rfl rfl rfl ?_
          refine j_aload_n (pc' := 19) rfl rfl rfl ?_
          refine j_iload_n (pc' := 20) rfl rfl rfl ?_
          refine j_iload_n (pc' := 21) rfl rfl rfl ?_
          refine j_callPi (pc' := 24) (ai := 39) (vs := [.ref 5, .int l1, .int l3]) (rest := [.int l2]) rfl rfl (fun _ _ => rfl) (c_X3_alike l1 l3 σ) (j_dd rfl hd) rfl (fun v2 => ?_)
          refine j_iconst (pc' := 25) (x := (1 : Int32)) rfl rfl rfl ?_
          refine j_iadd (pc' := 26) rfl rfl ?_
          refine j_max (pc' := 29) rfl rfl rfl ?_
          refine j_leti (fun v3 => ?_)
          refine j_istore_n (pc' := 30) (L' := [some (.ref 5), some (.int l1), some (.int v3), some (.int l3)]) rfl rfl rfl ?_
          exact j_end (fun _ h => h)
        · exact j_end (fun _ h => h)
      show j_J true τ M_cX3_neededFrom d 30 [some (.ref 5), some (.int l1), some (.int v1), some (.int l3)] [] σ _ _
      refine j_iincx (pc' := 33) (y := (1 : Int32)) (L' := [some (.ref 5), some (.int l1), some (.int v1), some (.int (l3 + (1 : Int32)))]) rfl rfl rfl rfl rfl ?_
      refine j_goto (t := 4) rfl rfl ?_
      exact ih v1 (l3 + (1 : Int32))
    · refine j_wk [true, false, true, false] (L' := [some (.ref 5), none, some (.int l2), none]) rfl ?_
      exact j_end (fun _ h => h)

theorem c_X3_neededFrom (l1 : Int32) (σ : j_G) : j_K true 3 38 [.ref 5, .int l1] σ (f_X3_neededFrom l1 σ) (j_Pi σ) := by
  refine j_mkK (M := M_cX3_neededFrom) (L := [some (.ref 5), some (.int l1), none, none]) (m := 2) t_38 rfl (j_rcvO j_a5 rfl) rfl (fun d hd τ => ?_)
  unfold f_X3_neededFrom
  refine j_iconst (pc' := 1) (x := (0 : Int32)) rfl rfl rfl ?_
  refine j_istore_n (pc' := 2) (L' := [some (.ref 5), some (.int l1), some (.int (0 : Int32)), none]) rfl rfl rfl ?_
  refine j_iconst (pc' := 3) (x := (0 : Int32)) rfl rfl rfl ?_
  refine j_istore_n (pc' := 4) (L' := [some (.ref 5), some (.int l1), some (.int (0 : Int32)), some (.int (0 : Int32))]) rfl rfl rfl ?_
  refine j_q1 (l_X3_neededFrom_4 hd τ l1 σ j_F (0 : Int32) (0 : Int32)) (fun v1 => ?_)
  show j_J true τ M_cX3_neededFrom d 36 [some (.ref 5), none, some (.int v1), none] [] σ _ _
  refine j_iload_n (pc' := 37) rfl rfl rfl ?_
  refine j_aload_n (pc' := 38) rfl rfl rfl ?_
  refine j_gfi (pc' := 41) rfl rfl j_a5 rfl ?_
  refine j_two (pT := 44) (pF := 48) (L1 := [some (.ref 5), none, some (.int v1), none]) (st1 := []) (fun o kT kF => ?_) (fun h1 => ?_) (fun h1 => ?_)
  · refine j_icle (t := 48) (pc' := 44) rfl rfl rfl (fun h2 => ?_) (fun h2 => ?_)
    · exact kF h2
    · exact kT h2
  · refine j_iconst (pc' := 45) (x := (-1 : Int32)) rfl rfl rfl ?_
    refine j_goto (t := 49) rfl rfl ?_
    exact j_ret rfl rfl rfl (fun _ h => h)
  · refine j_iload_n (pc' := 49) rfl rfl rfl ?_
    exact j_ret rfl rfl rfl (fun _ h => h)

noncomputable def f_X11_needed (l1 : Int32) (σ : j_G) : Option Int32 :=
  if ¬ (f_X3_has l1 σ) = 0 then (j_b1 (f_X3_neededFrom l1 σ) fun v1 =>
  some v1) else (some (-2 : Int32))
theorem c_X11_needed (l1 : Int32) (σ : j_G) : j_K true 4 154 [.ref 0, .int l1] σ (f_X11_needed l1 σ) (j_Pi σ) := by
  refine j_mkK (M := M_cX11_needed) (L := [some (.ref 0), some (.int l1)]) (m := 0) t_154 rfl (j_rcvO j_a0 rfl) rfl (fun d hd τ => ?_)
  unfold f_X11_needed
  refine j_aload_n (pc' := 1) rfl rfl rfl ?_
  refine j_gfr (pc' := 4) (x := 1) rfl rfl j_a0 rfl rfl ?_
  refine j_gfr (pc' := 7) (x := 5) rfl rfl j_a1 rfl rfl ?_
  refine j_iload_n (pc' := 8) rfl rfl rfl ?_
  refine j_callTi (pc' := 11) (ai := 31) (vs := [.ref 5, .int l1]) (rest := []) rfl rfl (fun _ _ => rfl) (c_X3_has l1 σ) (j_dd rfl hd) rfl ?_
  refine j_two (pT := 14) (pF := 28) (L1 := [some (.ref 0), some (.int l1)]) (st1 := []) (fun o kT kF => ?_) (fun h1 => ?_) (fun h1 => ?_)
  · refine j_ifeq (t := 28) (pc' := 14) rfl rfl rfl (fun h2 => ?_) (fun h2 => ?_)
    · exact kF (fun z => z h2)
    · exact kT h2
  · refine j_aload_n (pc' := 15) rfl rfl rfl ?_
    refine j_gfr (pc' := 18) (x := 1) rfl rfl j_a0 rfl rfl ?_
    refine j_gfr (pc' := 21) (x := 5) rfl rfl j_a1 rfl rfl ?_
    refine j_iload_n (pc' := 22) rfl rfl rfl ?_
    refine j_callPi (pc' := 25) (ai := 38) (vs := [.ref 5, .int l1]) (rest := []) rfl rfl (fun _ _ => rfl) (c_X3_neededFrom l1 σ) (j_dd rfl hd) rfl (fun v1 => ?_)
    refine j_goto (t := 30) rfl rfl ?_
    exact j_ret rfl rfl rfl (fun _ h => h)
  · refine j_bipush (pc' := 30) (x := (-2 : Int32)) rfl rfl rfl ?_
    exact j_ret rfl rfl rfl (fun _ h => h)

noncomputable def p_X12_goesAlike_3 (l1 : Int32) (l2 : Int32) (l3 : Int32) (σ : j_G) : Nat → Int32 → Option Int32
  | 0, _ => none
  | n + 1, l4 =>
    if l4 < l3 then (j_b1 (f_X12_holeAt (l1 + l4) σ) fun v1 =>
    j_b1 (f_X12_holeAt (l2 + l4) σ) fun v2 =>
    if ¬ v1 = v2 then (some (0 : Int32)) else (p_X12_goesAlike_3 l1 l2 l3 σ n (l4 + (1 : Int32)))) else (some (1 : Int32))

noncomputable def f_X12_goesAlike (l1 : Int32) (l2 : Int32) (l3 : Int32) (σ : j_G) : Option Int32 :=
  p_X12_goesAlike_3 l1 l2 l3 σ j_F (0 : Int32)
theorem l_X12_goesAlike_3 {d : Nat} (hd : 2 ≤ d) (τ : j_G) (l1 : Int32) (l2 : Int32) (l3 : Int32) (σ : j_G) : ∀ (n : Nat) (l4 : Int32), j_J false τ M_cX12_goesAlike d 3 [some (.ref 75), some (.int l1), some (.int l2), some (.int l3), some (.int l4)] [] σ (p_X12_goesAlike_3 l1 l2 l3 σ n l4) (j_Pi σ) := by
  intro n
  induction n with
  | zero => intro l4; exact j_none
  | succ n ih =>
    intro l4
    unfold p_X12_goesAlike_3
    refine j_iload (pc' := 5) rfl rfl rfl ?_
    refine j_iload_n (pc' := 6) rfl rfl rfl ?_
    refine j_two (pT := 9) (pF := 36) (L1 := [some (.ref 75), some (.int l1), some (.int l2), some (.int l3), some (.int l4)]) (st1 := []) (fun o kT kF => ?_) (fun h3 => ?_) (fun h3 => ?_)
    · refine j_icge (t := 36) (pc' := 9) rfl rfl rfl (fun h4 => ?_) (fun h4 => ?_)
      · exact kF h4
      · exact kT h4
    · refine j_aload_n (pc' := 10) rfl rfl rfl ?_
      refine j_iload_n (pc' := 11) rfl rfl rfl ?_
      refine j_iload (pc' := 13) rfl rfl rfl ?_
      refine j_iadd (pc' := 14) rfl rfl ?_
      refine j_callPi (pc' := 17) (ai := 296) (vs := [.ref 75, .int (l1 + l4)]) (rest := []) rfl rfl (fun _ _ => rfl) (c_X12_holeAt (l1 + l4) σ) (j_dd rfl hd) rfl (fun v1 => ?_)
      refine j_aload_n (pc' := 18) rfl rfl rfl ?_
      refine j_iload_n (pc' := 19) rfl rfl rfl ?_
      refine j_iload (pc' := 21) rfl rfl rfl ?_
      refine j_iadd (pc' := 22) rfl rfl ?_
      refine j_callPi (pc' := 25) (ai := 296) (vs := [.ref 75, .int (l2 + l4)]) (rest := [.int v1]) rfl rfl (fun _ _ => rfl) (c_X12_holeAt (l2 + l4) σ) (j_dd rfl hd) rfl (fun v2 => ?_)
      refine j_two (pT := 28) (pF := 30) (L1 := [some (.ref 75), some (.int l1), some (.int l2), some (.int l3), some (.int l4)]) (st1 := []) (fun o kT kF => ?_) (fun h1 => ?_) (fun h1 => ?_)
      · refine j_iceq (t := 30) (pc' := 28) rfl rfl rfl (fun h2 => ?_) (fun h2 => ?_)
        · exact kF (fun z => z h2)
        · exact kT h2
      · refine j_iconst (pc' := 29) (x := (0 : Int32)) rfl rfl rfl ?_
        exact j_ret rfl rfl rfl (fun _ h => h)
      · refine j_iincx (pc' := 33) (y := (1 : Int32)) (L' := [some (.ref 75), some (.int l1), some (.int l2), some (.int l3), some (.int (l4 + (1 : Int32)))]) rfl rfl rfl rfl rfl ?_
        refine j_goto (t := 3) rfl rfl ?_
        exact ih (l4 + (1 : Int32))
    · refine j_iconst (pc' := 37) (x := (1 : Int32)) rfl rfl rfl ?_
      exact j_ret rfl rfl rfl (fun _ h => h)

theorem c_X12_goesAlike (l1 : Int32) (l2 : Int32) (l3 : Int32) (σ : j_G) : j_K false 2 309 [.ref 75, .int l1, .int l2, .int l3] σ (f_X12_goesAlike l1 l2 l3 σ) (j_Pi σ) := by
  refine j_mkK (M := M_cX12_goesAlike) (L := [some (.ref 75), some (.int l1), some (.int l2), some (.int l3), none]) (m := 1) t_309 rfl (j_rcvO j_a75 rfl) rfl (fun d hd τ => ?_)
  unfold f_X12_goesAlike
  refine j_iconst (pc' := 1) (x := (0 : Int32)) rfl rfl rfl ?_
  refine j_istore (pc' := 3) (L' := [some (.ref 75), some (.int l1), some (.int l2), some (.int l3), some (.int (0 : Int32))]) rfl rfl rfl ?_
  exact (l_X12_goesAlike_3 hd τ l1 l2 l3 σ j_F (0 : Int32))

noncomputable def p_X12_neededFrom_17 (l1 : Int32) (l2 : Int32) (σ : j_G) : Nat → Int32 → Int32 → Option Int32
  | 0, _, _ => none
  | n + 1, l3, l4 =>
    j_ix (5 : Int32) 116 (
    if l4 < (σ.1 76 ((5 : Int32)).toNatClampNeg) then (j_b1 (f_X12_goesAlike l1 l4 l2 σ) fun v1 =>
    j_lt (if ¬ v1 = 0 then ((1 : Int32)) else ((0 : Int32))) fun v2 =>
    j_lt (l3 + v2) fun v3 =>
    p_X12_neededFrom_17 l1 l2 σ n v3 (l4 + (1 : Int32))) else (some l3))

noncomputable def p_X12_neededFrom_2 (l1 : Int32) (σ : j_G) : Nat → Int32 → Option Int32
  | 0, _ => none
  | n + 1, l2 =>
    j_ix (5 : Int32) 116 (
    if ¬ (σ.1 76 ((5 : Int32)).toNatClampNeg) < l2 then (j_b1 (p_X12_neededFrom_17 l1 l2 σ j_F (0 : Int32) (0 : Int32)) fun v1 =>
    if v1 = (1 : Int32) then (some l2) else (p_X12_neededFrom_2 l1 σ n (l2 + (1 : Int32)))) else (some (-1 : Int32)))

noncomputable def f_X12_neededFrom (l1 : Int32) (σ : j_G) : Option Int32 :=
  p_X12_neededFrom_2 l1 σ j_F (0 : Int32)
theorem l_X12_neededFrom_17 {d : Nat} (hd : 3 ≤ d) (τ : j_G) (l1 : Int32) (l2 : Int32) (σ : j_G) : ∀ (n : Nat) (l3 : Int32) (l4 : Int32), j_J false τ M_cX12_neededFrom d 17 [some (.ref 75), some (.int l1), some (.int l2), some (.int l3), some (.int l4)] [] σ (p_X12_neededFrom_17 l1 l2 σ n l3 l4) (fun r Q => j_Tr false τ M_cX12_neededFrom d 53 [some (.ref 75), some (.int l1), some (.int l2), some (.int r), none] [] σ Q) := by
  intro n
  induction n with
  | zero => intro l3 l4; exact j_none
  | succ n ih =>
    intro l3 l4
    unfold p_X12_neededFrom_17
    refine j_iload (pc' := 19) rfl rfl rfl ?_
    refine j_aload_n (pc' := 20) rfl rfl rfl ?_
    refine j_gfr (pc' := 23) (x := 76) rfl rfl j_a75 rfl rfl ?_
    refine j_iconst (pc' := 24) (x := (5 : Int32)) rfl rfl rfl ?_
    refine j_iald (pc' := 25) rfl rfl j_a76 ?_
    refine j_two (pT := 28) (pF := 53) (L1 := [some (.ref 75), some (.int l1), some (.int l2), some (.int l3), some (.int l4)]) (st1 := []) (fun o kT kF => ?_) (fun h3 => ?_) (fun h3 => ?_)
    · refine j_icge (t := 53) (pc' := 28) rfl rfl rfl (fun h4 => ?_) (fun h4 => ?_)
      · exact kF h4
      · exact kT h4
    · refine j_iload_n (pc' := 29) rfl rfl rfl ?_
      refine j_aload_n (pc' := 30) rfl rfl rfl ?_
      refine j_iload_n (pc' := 31) rfl rfl rfl ?_
      refine j_iload (pc' := 33) rfl rfl rfl ?_
      refine j_iload_n (pc' := 34) rfl rfl rfl ?_
      refine j_callPi (pc' := 37) (ai := 309) (vs := [.ref 75, .int l1, .int l4, .int l2]) (rest := [.int l3]) rfl rfl (fun _ _ => rfl) (c_X12_goesAlike l1 l4 l2 σ) (j_dd rfl hd) rfl (fun v1 => ?_)
      refine j_ql (Φl := (fun r Q => j_Tr false τ M_cX12_neededFrom d 45 [some (.ref 75), some (.int l1), some (.int l2), none, some (.int l4)] [.int r, .int l3] σ Q)) ?_ (fun v2 => ?_)
      · refine j_twoT (pT := 40) (pF := 44) (L1 := [some (.ref 75), some (.int l1), some (.int l2), some (.int l3), some (.int l4)]) (st1 := [.int l3]) (fun o kT kF => ?_) (fun h1 => ?_) (fun h1 => ?_)
        · refine j_ifeq (t := 44) (pc' := 40) rfl rfl rfl (fun h2 => ?_) (fun h2 => ?_)
          · exact kF (fun z => z h2)
          · exact kT h2
        · refine j_iconst (pc' := 41) (x := (1 : Int32)) rfl rfl rfl ?_
          refine j_goto (t := 45) rfl rfl ?_
          refine j_wk [true, true, true, false, true] (L' := [some (.ref 75), some (.int l1), some (.int l2), none, some (.int l4)]) rfl ?_
          exact j_end (fun _ h => h)
        · refine j_iconst (pc' := 45) (x := (0 : Int32)) rfl rfl rfl ?_
          refine j_wk [true, true, true, false, true] (L' := [some (.ref 75), some (.int l1), some (.int l2), none, some (.int l4)]) rfl ?_
          exact j_end (fun _ h => h)
      show j_J false τ M_cX12_neededFrom d 45 [some (.ref 75), some (.int l1), some (.int l2), none, some (.int l4)] [.int v2, .int l3] σ _ _
      refine j_iadd (pc' := 46) rfl rfl ?_
      refine j_leti (fun v3 => ?_)
      refine j_istore_n (pc' := 47) (L' := [some (.ref 75), some (.int l1), some (.int l2), some (.int v3), some (.int l4)]) rfl rfl rfl ?_
      refine j_iincx (pc' := 50) (y := (1 : Int32)) (L' := [some (.ref 75), some (.int l1), some (.int l2), some (.int v3), some (.int (l4 + (1 : Int32)))]) rfl rfl rfl rfl rfl ?_
      refine j_goto (t := 17) rfl rfl ?_
      exact ih v3 (l4 + (1 : Int32))
    · refine j_wk [true, true, true, true, false] (L' := [some (.ref 75), some (.int l1), some (.int l2), some (.int l3), none]) rfl ?_
      exact j_end (fun _ h => h)

theorem l_X12_neededFrom_2 {d : Nat} (hd : 3 ≤ d) (τ : j_G) (l1 : Int32) (σ : j_G) : ∀ (n : Nat) (l2 : Int32), j_J false τ M_cX12_neededFrom d 2 [some (.ref 75), some (.int l1), some (.int l2), none, none] [] σ (p_X12_neededFrom_2 l1 σ n l2) (j_Pi σ) := by
  intro n
  induction n with
  | zero => intro l2; exact j_none
  | succ n ih =>
    intro l2
    unfold p_X12_neededFrom_2
    refine j_iload_n (pc' := 3) rfl rfl rfl ?_
    refine j_aload_n (pc' := 4) rfl rfl rfl ?_
    refine j_gfr (pc' := 7) (x := 76) rfl rfl j_a75 rfl rfl ?_
    refine j_iconst (pc' := 8) (x := (5 : Int32)) rfl rfl rfl ?_
    refine j_iald (pc' := 9) rfl rfl j_a76 ?_
    refine j_two (pT := 12) (pF := 66) (L1 := [some (.ref 75), some (.int l1), some (.int l2), none, none]) (st1 := []) (fun o kT kF => ?_) (fun h3 => ?_) (fun h3 => ?_)
    · refine j_icgt (t := 66) (pc' := 12) rfl rfl rfl (fun h4 => ?_) (fun h4 => ?_)
      · exact kF (fun z => z h4)
      · exact kT h4
    · refine j_iconst (pc' := 13) (x := (0 : Int32)) rfl rfl rfl ?_
      refine j_istore_n (pc' := 14) (L' := [some (.ref 75), some (.int l1), some (.int l2), some (.int (0 : Int32)), none]) rfl rfl rfl ?_
      refine j_iconst (pc' := 15) (x := (0 : Int32)) rfl rfl rfl ?_
      refine j_istore (pc' := 17) (L' := [some (.ref 75), some (.int l1), some (.int l2), some (.int (0 : Int32)), some (.int (0 : Int32))]) rfl rfl rfl ?_
      refine j_q1 (l_X12_neededFrom_17 hd τ l1 l2 σ j_F (0 : Int32) (0 : Int32)) (fun v1 => ?_)
      show j_J false τ M_cX12_neededFrom d 53 [some (.ref 75), some (.int l1), some (.int l2), some (.int v1), none] [] σ _ _
      refine j_iload_n (pc' := 54) rfl rfl rfl ?_
      refine j_iconst (pc' := 55) (x := (1 : Int32)) rfl rfl rfl ?_
      refine j_two (pT := 58) (pF := 60) (L1 := [some (.ref 75), some (.int l1), some (.int l2), some (.int v1), none]) (st1 := []) (fun o kT kF => ?_) (fun h1 => ?_) (fun h1 => ?_)
      · refine j_icne (t := 60) (pc' := 58) rfl rfl rfl (fun h2 => ?_) (fun h2 => ?_)
        · exact kF h2
        · exact kT h2
      · refine j_iload_n (pc' := 59) rfl rfl rfl ?_
        exact j_ret rfl rfl rfl (fun _ h => h)
      · refine j_iincx (pc' := 63) (y := (1 : Int32)) (L' := [some (.ref 75), some (.int l1), some (.int (l2 + (1 : Int32))), some (.int v1), none]) rfl rfl rfl rfl rfl ?_
        refine j_goto (t := 2) rfl rfl ?_
        refine j_wk [true, true, true, false, true] (L' := [some (.ref 75), some (.int l1), some (.int (l2 + (1 : Int32))), none, none]) rfl ?_
        exact ih (l2 + (1 : Int32))
    · refine j_iconst (pc' := 67) (x := (-1 : Int32)) rfl rfl rfl ?_
      exact j_ret rfl rfl rfl (fun _ h => h)

theorem c_X12_neededFrom (l1 : Int32) (σ : j_G) : j_K false 3 310 [.ref 75, .int l1] σ (f_X12_neededFrom l1 σ) (j_Pi σ) := by
  refine j_mkK (M := M_cX12_neededFrom) (L := [some (.ref 75), some (.int l1), none, none, none]) (m := 3) t_310 rfl (j_rcvO j_a75 rfl) rfl (fun d hd τ => ?_)
  unfold f_X12_neededFrom
  refine j_iconst (pc' := 1) (x := (0 : Int32)) rfl rfl rfl ?_
  refine j_istore_n (pc' := 2) (L' := [some (.ref 75), some (.int l1), some (.int (0 : Int32)), none, none]) rfl rfl rfl ?_
  exact (l_X12_neededFrom_2 hd τ l1 σ j_F (0 : Int32))

noncomputable def f_X12_needed (l1 : Int32) (σ : j_G) : Option Int32 :=
  j_b1 (f_X12_isComing l1 σ) fun v1 =>
  if ¬ v1 = 0 then (j_b1 (f_X12_neededFrom l1 σ) fun v2 =>
  some v2) else (some (-2 : Int32))
theorem c_X12_needed (l1 : Int32) (σ : j_G) : j_K false 4 311 [.ref 75, .int l1] σ (f_X12_needed l1 σ) (j_Pi σ) := by
  refine j_mkK (M := M_cX12_needed) (L := [some (.ref 75), some (.int l1)]) (m := 0) t_311 rfl (j_rcvO j_a75 rfl) rfl (fun d hd τ => ?_)
  unfold f_X12_needed
  refine j_aload_n (pc' := 1) rfl rfl rfl ?_
  refine j_iload_n (pc' := 2) rfl rfl rfl ?_
  refine j_callPi (pc' := 5) (ai := 204) (vs := [.ref 75, .int l1]) (rest := []) rfl rfl (fun _ _ => rfl) (c_X12_isComing l1 σ) (j_dd rfl hd) rfl (fun v1 => ?_)
  refine j_two (pT := 8) (pF := 16) (L1 := [some (.ref 75), some (.int l1)]) (st1 := []) (fun o kT kF => ?_) (fun h1 => ?_) (fun h1 => ?_)
  · refine j_ifeq (t := 16) (pc' := 8) rfl rfl rfl (fun h2 => ?_) (fun h2 => ?_)
    · exact kF (fun z => z h2)
    · exact kT h2
  · refine j_aload_n (pc' := 9) rfl rfl rfl ?_
    refine j_iload_n (pc' := 10) rfl rfl rfl ?_
    refine j_callPi (pc' := 13) (ai := 310) (vs := [.ref 75, .int l1]) (rest := []) rfl rfl (fun _ _ => rfl) (c_X12_neededFrom l1 σ) (j_dd rfl hd) rfl (fun v2 => ?_)
    refine j_goto (t := 18) rfl rfl ?_
    exact j_ret rfl rfl rfl (fun _ h => h)
  · refine j_bipush (pc' := 18) (x := (-2 : Int32)) rfl rfl rfl ?_
    exact j_ret rfl rfl rfl (fun _ h => h)

noncomputable def p_X11_known_17 (σ : j_G) : Nat → Int32 → Int32 → Option Int32
  | 0, _, _ => none
  | n + 1, l1, l2 =>
    if l2 < (σ.1 5 0) then (j_b1 (f_X3_neededFrom l2 σ) fun v1 =>
    if v1 = (-1 : Int32) then (some (-1 : Int32)) else (j_lt (if l1 < v1 then v1 else l1) fun v2 =>
    p_X11_known_17 σ n v2 (l2 + (1 : Int32)))) else (some l1)

noncomputable def f_X11_known (σ : j_G) : Option Int32 :=
  if (f_X2_isTold σ) = 0 then (some (-2 : Int32)) else (p_X11_known_17 σ j_F (-1 : Int32) (0 : Int32))
theorem l_X11_known_17 {d : Nat} (hd : 4 ≤ d) (τ : j_G) (σ : j_G) : ∀ (n : Nat) (l1 : Int32) (l2 : Int32), j_J true τ M_cX11_known d 17 [some (.ref 0), some (.int l1), some (.int l2), none] [] σ (p_X11_known_17 σ n l1 l2) (j_Pi σ) := by
  intro n
  induction n with
  | zero => intro l1 l2; exact j_none
  | succ n ih =>
    intro l1 l2
    unfold p_X11_known_17
    refine j_iload_n (pc' := 18) rfl rfl rfl ?_
    refine j_aload_n (pc' := 19) rfl rfl rfl ?_
    refine j_gfr (pc' := 22) (x := 1) rfl rfl j_a0 rfl rfl ?_
    refine j_gfr (pc' := 25) (x := 5) rfl rfl j_a1 rfl rfl ?_
    refine j_gfi (pc' := 28) rfl rfl j_a5 rfl ?_
    refine j_two (pT := 31) (pF := 62) (L1 := [some (.ref 0), some (.int l1), some (.int l2), none]) (st1 := []) (fun o kT kF => ?_) (fun h3 => ?_) (fun h3 => ?_)
    · refine j_icge (t := 62) (pc' := 31) rfl rfl rfl (fun h4 => ?_) (fun h4 => ?_)
      · exact kF h4
      · exact kT h4
    · refine j_aload_n (pc' := 32) rfl rfl rfl ?_
      refine j_gfr (pc' := 35) (x := 1) rfl rfl j_a0 rfl rfl ?_
      refine j_gfr (pc' := 38) (x := 5) rfl rfl j_a1 rfl rfl ?_
      refine j_iload_n (pc' := 39) rfl rfl rfl ?_
      refine j_callPi (pc' := 42) (ai := 38) (vs := [.ref 5, .int l2]) (rest := []) rfl rfl (fun _ _ => rfl) (c_X3_neededFrom l2 σ) (j_dd rfl hd) rfl (fun v1 => ?_)
      refine j_istore_n (pc' := 43) (L' := [some (.ref 0), some (.int l1), some (.int l2), some (.int v1)]) rfl rfl rfl ?_
      refine j_iload_n (pc' := 44) rfl rfl rfl ?_
      refine j_iconst (pc' := 45) (x := (-1 : Int32)) rfl rfl rfl ?_
      refine j_two (pT := 48) (pF := 50) (L1 := [some (.ref 0), some (.int l1), some (.int l2), some (.int v1)]) (st1 := []) (fun o kT kF => ?_) (fun h1 => ?_) (fun h1 => ?_)
      · refine j_icne (t := 50) (pc' := 48) rfl rfl rfl (fun h2 => ?_) (fun h2 => ?_)
        · exact kF h2
        · exact kT h2
      · refine j_iconst (pc' := 49) (x := (-1 : Int32)) rfl rfl rfl ?_
        exact j_ret rfl rfl rfl (fun _ h => h)
      · refine j_iload_n (pc' := 51) rfl rfl rfl ?_
        refine j_iload_n (pc' := 52) rfl rfl rfl ?_
        refine j_max (pc' := 55) rfl rfl rfl ?_
        refine j_leti (fun v2 => ?_)
        refine j_istore_n (pc' := 56) (L' := [some (.ref 0), some (.int v2), some (.int l2), some (.int v1)]) rfl rfl rfl ?_
        refine j_iincx (pc' := 59) (y := (1 : Int32)) (L' := [some (.ref 0), some (.int v2), some (.int (l2 + (1 : Int32))), some (.int v1)]) rfl rfl rfl rfl rfl ?_
        refine j_goto (t := 17) rfl rfl ?_
        refine j_wk [true, true, true, false] (L' := [some (.ref 0), some (.int v2), some (.int (l2 + (1 : Int32))), none]) rfl ?_
        exact ih v2 (l2 + (1 : Int32))
    · refine j_iload_n (pc' := 63) rfl rfl rfl ?_
      exact j_ret rfl rfl rfl (fun _ h => h)

theorem c_X11_known (σ : j_G) : j_K true 4 155 [.ref 0] σ (f_X11_known σ) (j_Pi σ) := by
  refine j_mkK (M := M_cX11_known) (L := [some (.ref 0), none, none, none]) (m := 3) t_155 rfl (j_rcvO j_a0 rfl) rfl (fun d hd τ => ?_)
  unfold f_X11_known
  refine j_aload_n (pc' := 1) rfl rfl rfl ?_
  refine j_gfr (pc' := 4) (x := 1) rfl rfl j_a0 rfl rfl ?_
  refine j_callTi (pc' := 7) (ai := 11) (vs := [.ref 1]) (rest := []) rfl rfl (fun _ _ => rfl) (c_X2_isTold  σ) (j_dd rfl hd) rfl ?_
  refine j_two (pT := 10) (pF := 13) (L1 := [some (.ref 0), none, none, none]) (st1 := []) (fun o kT kF => ?_) (fun h1 => ?_) (fun h1 => ?_)
  · refine j_ifne (t := 13) (pc' := 10) rfl rfl rfl (fun h2 => ?_) (fun h2 => ?_)
    · exact kF h2
    · exact kT h2
  · refine j_bipush (pc' := 12) (x := (-2 : Int32)) rfl rfl rfl ?_
    exact j_ret rfl rfl rfl (fun _ h => h)
  · refine j_iconst (pc' := 14) (x := (-1 : Int32)) rfl rfl rfl ?_
    refine j_istore_n (pc' := 15) (L' := [some (.ref 0), some (.int (-1 : Int32)), none, none]) rfl rfl rfl ?_
    refine j_iconst (pc' := 16) (x := (0 : Int32)) rfl rfl rfl ?_
    refine j_istore_n (pc' := 17) (L' := [some (.ref 0), some (.int (-1 : Int32)), some (.int (0 : Int32)), none]) rfl rfl rfl ?_
    exact (l_X11_known_17 hd τ σ j_F (-1 : Int32) (0 : Int32))

noncomputable def p_X12_known_14 (σ : j_G) : Nat → Int32 → Int32 → Option Int32
  | 0, _, _ => none
  | n + 1, l1, l2 =>
    j_ix (5 : Int32) 116 (
    if l2 < (σ.1 76 ((5 : Int32)).toNatClampNeg) then (j_b1 (f_X12_neededFrom l2 σ) fun v1 =>
    if v1 = (-1 : Int32) then (some (-1 : Int32)) else (j_lt (if l1 < v1 then v1 else l1) fun v2 =>
    p_X12_known_14 σ n v2 (l2 + (1 : Int32)))) else (some l1))

noncomputable def f_X12_known (σ : j_G) : Option Int32 :=
  j_b1 (f_X12_isBoard σ) fun v1 =>
  if v1 = 0 then (some (-2 : Int32)) else (p_X12_known_14 σ j_F (-1 : Int32) (0 : Int32))
theorem l_X12_known_14 {d : Nat} (hd : 4 ≤ d) (τ : j_G) (σ : j_G) : ∀ (n : Nat) (l1 : Int32) (l2 : Int32), j_J false τ M_cX12_known d 14 [some (.ref 75), some (.int l1), some (.int l2), none] [] σ (p_X12_known_14 σ n l1 l2) (j_Pi σ) := by
  intro n
  induction n with
  | zero => intro l1 l2; exact j_none
  | succ n ih =>
    intro l1 l2
    unfold p_X12_known_14
    refine j_iload_n (pc' := 15) rfl rfl rfl ?_
    refine j_aload_n (pc' := 16) rfl rfl rfl ?_
    refine j_gfr (pc' := 19) (x := 76) rfl rfl j_a75 rfl rfl ?_
    refine j_iconst (pc' := 20) (x := (5 : Int32)) rfl rfl rfl ?_
    refine j_iald (pc' := 21) rfl rfl j_a76 ?_
    refine j_two (pT := 24) (pF := 49) (L1 := [some (.ref 75), some (.int l1), some (.int l2), none]) (st1 := []) (fun o kT kF => ?_) (fun h3 => ?_) (fun h3 => ?_)
    · refine j_icge (t := 49) (pc' := 24) rfl rfl rfl (fun h4 => ?_) (fun h4 => ?_)
      · exact kF h4
      · exact kT h4
    · refine j_aload_n (pc' := 25) rfl rfl rfl ?_
      refine j_iload_n (pc' := 26) rfl rfl rfl ?_
      refine j_callPi (pc' := 29) (ai := 310) (vs := [.ref 75, .int l2]) (rest := []) rfl rfl (fun _ _ => rfl) (c_X12_neededFrom l2 σ) (j_dd rfl hd) rfl (fun v1 => ?_)
      refine j_istore_n (pc' := 30) (L' := [some (.ref 75), some (.int l1), some (.int l2), some (.int v1)]) rfl rfl rfl ?_
      refine j_iload_n (pc' := 31) rfl rfl rfl ?_
      refine j_iconst (pc' := 32) (x := (-1 : Int32)) rfl rfl rfl ?_
      refine j_two (pT := 35) (pF := 37) (L1 := [some (.ref 75), some (.int l1), some (.int l2), some (.int v1)]) (st1 := []) (fun o kT kF => ?_) (fun h1 => ?_) (fun h1 => ?_)
      · refine j_icne (t := 37) (pc' := 35) rfl rfl rfl (fun h2 => ?_) (fun h2 => ?_)
        · exact kF h2
        · exact kT h2
      · refine j_iconst (pc' := 36) (x := (-1 : Int32)) rfl rfl rfl ?_
        exact j_ret rfl rfl rfl (fun _ h => h)
      · refine j_iload_n (pc' := 38) rfl rfl rfl ?_
        refine j_iload_n (pc' := 39) rfl rfl rfl ?_
        refine j_max (pc' := 42) rfl rfl rfl ?_
        refine j_leti (fun v2 => ?_)
        refine j_istore_n (pc' := 43) (L' := [some (.ref 75), some (.int v2), some (.int l2), some (.int v1)]) rfl rfl rfl ?_
        refine j_iincx (pc' := 46) (y := (1 : Int32)) (L' := [some (.ref 75), some (.int v2), some (.int (l2 + (1 : Int32))), some (.int v1)]) rfl rfl rfl rfl rfl ?_
        refine j_goto (t := 14) rfl rfl ?_
        refine j_wk [true, true, true, false] (L' := [some (.ref 75), some (.int v2), some (.int (l2 + (1 : Int32))), none]) rfl ?_
        exact ih v2 (l2 + (1 : Int32))
    · refine j_iload_n (pc' := 50) rfl rfl rfl ?_
      exact j_ret rfl rfl rfl (fun _ h => h)

theorem c_X12_known (σ : j_G) : j_K false 4 312 [.ref 75] σ (f_X12_known σ) (j_Pi σ) := by
  refine j_mkK (M := M_cX12_known) (L := [some (.ref 75), none, none, none]) (m := 3) t_312 rfl (j_rcvO j_a75 rfl) rfl (fun d hd τ => ?_)
  unfold f_X12_known
  refine j_aload_n (pc' := 1) rfl rfl rfl ?_
  refine j_callPi (pc' := 4) (ai := 199) (vs := [.ref 75]) (rest := []) rfl rfl (fun _ _ => rfl) (c_X12_isBoard  σ) (j_dd rfl hd) rfl (fun v1 => ?_)
  refine j_two (pT := 7) (pF := 10) (L1 := [some (.ref 75), none, none, none]) (st1 := []) (fun o kT kF => ?_) (fun h1 => ?_) (fun h1 => ?_)
  · refine j_ifne (t := 10) (pc' := 7) rfl rfl rfl (fun h2 => ?_) (fun h2 => ?_)
    · exact kF h2
    · exact kT h2
  · refine j_bipush (pc' := 9) (x := (-2 : Int32)) rfl rfl rfl ?_
    exact j_ret rfl rfl rfl (fun _ h => h)
  · refine j_iconst (pc' := 11) (x := (-1 : Int32)) rfl rfl rfl ?_
    refine j_istore_n (pc' := 12) (L' := [some (.ref 75), some (.int (-1 : Int32)), none, none]) rfl rfl rfl ?_
    refine j_iconst (pc' := 13) (x := (0 : Int32)) rfl rfl rfl ?_
    refine j_istore_n (pc' := 14) (L' := [some (.ref 75), some (.int (-1 : Int32)), some (.int (0 : Int32)), none]) rfl rfl rfl ?_
    exact (l_X12_known_14 hd τ σ j_F (-1 : Int32) (0 : Int32))

noncomputable def p_X9_rashPoints_9 : Nat → Int32 → j_G → Option j_G
  | 0, _, _ => none
  | n + 1, l4, σ =>
    if l4 < (σ.1 22 0) then (j_b1 (f_X9_goFor 23 24 30 26 28 33 34 31 32 l4 (-1 : Int32) σ) fun σ1 =>
    j_ix l4 60 (
    j_b1 (if ¬ (σ1.1 25 (l4).toNatClampNeg) = 0 then (j_ix l4 60 (
    j_lt (j_si σ1 30 4 ((σ1.1 30 4) + (σ1.1 32 (l4).toNatClampNeg))) fun σ3 =>
    some σ3)) else (some σ1)) fun σ2 =>
    p_X9_rashPoints_9 n (l4 + (1 : Int32)) σ2)) else (some σ)

noncomputable def f_X9_rashPoints (σ : j_G) : Option (Int32 × j_G) :=
  j_b1 (f_X9_begin 30 28 22 31 32 σ) fun σ1 =>
  j_b1 (p_X9_rashPoints_9 j_F (0 : Int32) σ1) fun σ2 =>
  some ((((10 : Int32) * ((σ2.1 30 0) - (σ2.1 30 4))) - ((20 : Int32) * (σ2.1 30 4))), σ2)
theorem l_X9_rashPoints_9 {d : Nat} (hd : 4 ≤ d) (τ : j_G) : ∀ (n : Nat) (l4 : Int32) (σ : j_G), j_J true τ M_cX9_rashPoints d 9 [some (.ref 30), some (.ref 1), some (.ref 22), some (.ref 28), some (.int l4)] [] σ (p_X9_rashPoints_9 n l4 σ) (fun r Q => j_Tr true τ M_cX9_rashPoints d 60 [some (.ref 30), none, none, none, none] [] r Q) := by
  intro n
  induction n with
  | zero => intro l4 σ; exact j_none
  | succ n ih =>
    intro l4 σ
    unfold p_X9_rashPoints_9
    refine j_iload (pc' := 11) rfl rfl rfl ?_
    refine j_aload_n (pc' := 12) rfl rfl rfl ?_
    refine j_gfi (pc' := 15) rfl rfl j_a22 rfl ?_
    refine j_two (pT := 18) (pF := 60) (L1 := [some (.ref 30), some (.ref 1), some (.ref 22), some (.ref 28), some (.int l4)]) (st1 := []) (fun o kT kF => ?_) (fun h3 => ?_) (fun h3 => ?_)
    · refine j_icge (t := 60) (pc' := 18) rfl rfl rfl (fun h4 => ?_) (fun h4 => ?_)
      · exact kF h4
      · exact kT h4
    · refine j_aload_n (pc' := 19) rfl rfl rfl ?_
      refine j_aload_n (pc' := 20) rfl rfl rfl ?_
      refine j_aload_n (pc' := 21) rfl rfl rfl ?_
      refine j_aload_n (pc' := 22) rfl rfl rfl ?_
      refine j_iload (pc' := 24) rfl rfl rfl ?_
      refine j_iconst (pc' := 25) (x := (-1 : Int32)) rfl rfl rfl ?_
      refine j_callRv (pc' := 28) (ai := 103) (vs := [.ref 30, .ref 1, .ref 22, .ref 28, .int l4, .int (-1 : Int32)]) (rest := []) rfl rfl (fun _ _ => rfl) (c_X9_goFor_30_1_22_28 l4 (-1 : Int32) σ) (j_dd rfl hd) rfl (fun σ1 => ?_)
      refine j_aload_n (pc' := 29) rfl rfl rfl ?_
      refine j_gfr (pc' := 32) (x := 25) rfl rfl j_a22 rfl rfl ?_
      refine j_iload (pc' := 34) rfl rfl rfl ?_
      refine j_iald (pc' := 35) rfl rfl j_a25 ?_
      refine j_q1 (Φl := (fun r Q => j_Tr true τ M_cX9_rashPoints d 54 [some (.ref 30), some (.ref 1), some (.ref 22), some (.ref 28), some (.int l4)] [] r Q)) ?_ (fun σ2 => ?_)
      · refine j_two (pT := 38) (pF := 54) (L1 := [some (.ref 30), some (.ref 1), some (.ref 22), some (.ref 28), some (.int l4)]) (st1 := []) (fun o kT kF => ?_) (fun h1 => ?_) (fun h1 => ?_)
        · refine j_ifeq (t := 54) (pc' := 38) rfl rfl rfl (fun h2 => ?_) (fun h2 => ?_)
          · exact kF (fun z => z h2)
          · exact kT h2
        · refine j_aload_n (pc' := 39) rfl rfl rfl ?_
          refine j_dup (pc' := 40) rfl rfl rfl ?_
          refine j_gfi (pc' := 43) rfl rfl j_a30 rfl ?_
          refine j_aload_n (pc' := 44) rfl rfl rfl ?_
          refine j_gfr (pc' := 47) (x := 32) rfl rfl j_a30 rfl rfl ?_
          refine j_iload (pc' := 49) rfl rfl rfl ?_
          refine j_iald (pc' := 50) rfl rfl j_a32 ?_
          refine j_iadd (pc' := 51) rfl rfl ?_
          refine j_pfi (pc' := 54) rfl rfl j_a30 rfl rfl (fun σ3 => ?_)
          exact j_end (fun _ h => h)
        · exact j_end (fun _ h => h)
      show j_J true τ M_cX9_rashPoints d 54 [some (.ref 30), some (.ref 1), some (.ref 22), some (.ref 28), some (.int l4)] [] σ2 _ _
      refine j_iincx (pc' := 57) (y := (1 : Int32)) (L' := [some (.ref 30), some (.ref 1), some (.ref 22), some (.ref 28), some (.int (l4 + (1 : Int32)))]) rfl rfl rfl rfl rfl ?_
      refine j_goto (t := 9) rfl rfl ?_
      exact ih (l4 + (1 : Int32)) σ2
    · refine j_wk [true, false, false, false, false] (L' := [some (.ref 30), none, none, none, none]) rfl ?_
      exact j_end (fun _ h => h)

theorem c_X9_rashPoints (σ : j_G) : j_K true 4 101 [.ref 30, .ref 1, .ref 22, .ref 28] σ (f_X9_rashPoints σ) j_Ri := by
  refine j_mkK (M := M_cX9_rashPoints) (L := [some (.ref 30), some (.ref 1), some (.ref 22), some (.ref 28), none]) (m := 1) t_101 rfl (j_rcvO j_a30 rfl) rfl (fun d hd τ => ?_)
  unfold f_X9_rashPoints
  refine j_aload_n (pc' := 1) rfl rfl rfl ?_
  refine j_aload_n (pc' := 2) rfl rfl rfl ?_
  refine j_aload_n (pc' := 3) rfl rfl rfl ?_
  refine j_callRv (pc' := 6) (ai := 102) (vs := [.ref 30, .ref 22, .ref 28]) (rest := []) rfl rfl (fun _ _ => rfl) (c_X9_begin_30_22_28  σ) (j_dd rfl hd) rfl (fun σ1 => ?_)
  refine j_iconst (pc' := 7) (x := (0 : Int32)) rfl rfl rfl ?_
  refine j_istore (pc' := 9) (L' := [some (.ref 30), some (.ref 1), some (.ref 22), some (.ref 28), some (.int (0 : Int32))]) rfl rfl rfl ?_
  refine j_q1 (l_X9_rashPoints_9 hd τ j_F (0 : Int32) σ1) (fun σ2 => ?_)
  show j_J true τ M_cX9_rashPoints d 60 [some (.ref 30), none, none, none, none] [] σ2 _ _
  refine j_bipush (pc' := 62) (x := (10 : Int32)) rfl rfl rfl ?_
  refine j_aload_n (pc' := 63) rfl rfl rfl ?_
  refine j_gfi (pc' := 66) rfl rfl j_a30 rfl ?_
  refine j_aload_n (pc' := 67) rfl rfl rfl ?_
  refine j_gfi (pc' := 70) rfl rfl j_a30 rfl ?_
  refine j_isub (pc' := 71) rfl rfl ?_
  refine j_imul (pc' := 72) rfl rfl ?_
  refine j_bipush (pc' := 74) (x := (20 : Int32)) rfl rfl rfl ?_
  refine j_aload_n (pc' := 75) rfl rfl rfl ?_
  refine j_gfi (pc' := 78) rfl rfl j_a30 rfl ?_
  refine j_imul (pc' := 79) rfl rfl ?_
  refine j_isub (pc' := 80) rfl rfl ?_
  exact j_ret rfl rfl rfl (fun _ h => h)

noncomputable def f_X11_rash (l1 : Int32) (σ : j_G) : Option (Int32 × j_G) :=
  j_b2 (f_X11_makeReady l1 σ) fun v2 σ1 =>
  if ¬ v2 = 0 then (j_b2 (f_X9_rashPoints σ1) fun v4 σ3 =>
  some (v4, σ3)) else (some ((-2000 : Int32), σ1))
theorem c_X11_rash (l1 : Int32) (σ : j_G) : j_K true 5 156 [.ref 0, .int l1] σ (f_X11_rash l1 σ) j_Ri := by
  refine j_mkK (M := M_cX11_rash) (L := [some (.ref 0), some (.int l1)]) (m := 0) t_156 rfl (j_rcvO j_a0 rfl) rfl (fun d hd τ => ?_)
  unfold f_X11_rash
  refine j_aload_n (pc' := 1) rfl rfl rfl ?_
  refine j_iload_n (pc' := 2) rfl rfl rfl ?_
  refine j_callRi (pc' := 5) (ai := 186) (vs := [.ref 0, .int l1]) (rest := []) rfl rfl (fun _ _ => rfl) (c_X11_makeReady l1 σ) (j_dd rfl hd) rfl (fun v2 σ1 => ?_)
  refine j_two (pT := 8) (pF := 30) (L1 := [some (.ref 0), some (.int l1)]) (st1 := []) (fun o kT kF => ?_) (fun h1 => ?_) (fun h1 => ?_)
  · refine j_ifeq (t := 30) (pc' := 8) rfl rfl rfl (fun h2 => ?_) (fun h2 => ?_)
    · exact kF (fun z => z h2)
    · exact kT h2
  · refine j_aload_n (pc' := 9) rfl rfl rfl ?_
    refine j_gfr (pc' := 12) (x := 30) rfl rfl j_a0 rfl rfl ?_
    refine j_aload_n (pc' := 13) rfl rfl rfl ?_
    refine j_gfr (pc' := 16) (x := 1) rfl rfl j_a0 rfl rfl ?_
    refine j_aload_n (pc' := 17) rfl rfl rfl ?_
    refine j_gfr (pc' := 20) (x := 22) rfl rfl j_a0 rfl rfl ?_
    refine j_aload_n (pc' := 21) rfl rfl rfl ?_
    refine j_gfr (pc' := 24) (x := 28) rfl rfl j_a0 rfl rfl ?_
    refine j_callRi (pc' := 27) (ai := 101) (vs := [.ref 30, .ref 1, .ref 22, .ref 28]) (rest := []) rfl rfl (fun _ _ => rfl) (c_X9_rashPoints  σ1) (j_dd rfl hd) rfl (fun v4 σ3 => ?_)
    refine j_goto (t := 33) rfl rfl ?_
    exact j_ret rfl rfl rfl (fun _ h => h)
  · refine j_sipush (pc' := 33) (x := (-2000 : Int32)) rfl rfl rfl ?_
    exact j_ret rfl rfl rfl (fun _ h => h)

noncomputable def f_X12_rashOf (l1 : Int32) (σ : j_G) : Option (Int32 × j_G) :=
  j_b1 (f_X12_asTold l1 σ) fun σ1 =>
  j_lt (j_si σ1 75 24 (1 : Int32)) fun σ2 =>
  j_b1 (f_X12_run σ2) fun σ3 =>
  some ((((10 : Int32) * ((σ3.1 75 29) - (σ3.1 75 30))) - ((20 : Int32) * (σ3.1 75 30))), σ3)
theorem c_X12_rashOf (l1 : Int32) (σ : j_G) : j_K false 5 313 [.ref 75, .int l1] σ (f_X12_rashOf l1 σ) j_Ri := by
  refine j_mkK (M := M_cX12_rashOf) (L := [some (.ref 75), some (.int l1)]) (m := 0) t_313 rfl (j_rcvO j_a75 rfl) rfl (fun d hd τ => ?_)
  unfold f_X12_rashOf
  refine j_aload_n (pc' := 1) rfl rfl rfl ?_
  refine j_iload_n (pc' := 2) rfl rfl rfl ?_
  refine j_callRv (pc' := 5) (ai := 252) (vs := [.ref 75, .int l1]) (rest := []) rfl rfl (fun _ _ => rfl) (c_X12_asTold l1 σ) (j_dd rfl hd) rfl (fun σ1 => ?_)
  refine j_aload_n (pc' := 6) rfl rfl rfl ?_
  refine j_iconst (pc' := 7) (x := (1 : Int32)) rfl rfl rfl ?_
  refine j_pfi (pc' := 10) rfl rfl j_a75 rfl rfl (fun σ2 => ?_)
  refine j_aload_n (pc' := 11) rfl rfl rfl ?_
  refine j_callRv (pc' := 14) (ai := 258) (vs := [.ref 75]) (rest := []) rfl rfl (fun _ _ => rfl) (c_X12_run  σ2) (j_dd rfl hd) rfl (fun σ3 => ?_)
  refine j_bipush (pc' := 16) (x := (10 : Int32)) rfl rfl rfl ?_
  refine j_aload_n (pc' := 17) rfl rfl rfl ?_
  refine j_gfi (pc' := 20) rfl rfl j_a75 rfl ?_
  refine j_aload_n (pc' := 21) rfl rfl rfl ?_
  refine j_gfi (pc' := 24) rfl rfl j_a75 rfl ?_
  refine j_isub (pc' := 25) rfl rfl ?_
  refine j_imul (pc' := 26) rfl rfl ?_
  refine j_bipush (pc' := 28) (x := (20 : Int32)) rfl rfl rfl ?_
  refine j_aload_n (pc' := 29) rfl rfl rfl ?_
  refine j_gfi (pc' := 32) rfl rfl j_a75 rfl ?_
  refine j_imul (pc' := 33) rfl rfl ?_
  refine j_isub (pc' := 34) rfl rfl ?_
  exact j_ret rfl rfl rfl (fun _ h => h)

noncomputable def f_X12_rash (l1 : Int32) (σ : j_G) : Option (Int32 × j_G) :=
  j_b1 (f_X12_isPlayer l1 σ) fun v1 =>
  if v1 = 0 then (some ((-2000 : Int32), σ)) else (j_b1 (f_X12_lay σ) fun σ2 =>
  j_b2 (f_X12_rashOf l1 σ2) fun v4 σ3 =>
  some (v4, σ3))
theorem c_X12_rash (l1 : Int32) (σ : j_G) : j_K false 6 314 [.ref 75, .int l1] σ (f_X12_rash l1 σ) j_Ri := by
  refine j_mkK (M := M_cX12_rash) (L := [some (.ref 75), some (.int l1)]) (m := 0) t_314 rfl (j_rcvO j_a75 rfl) rfl (fun d hd τ => ?_)
  unfold f_X12_rash
  refine j_aload_n (pc' := 1) rfl rfl rfl ?_
  refine j_iload_n (pc' := 2) rfl rfl rfl ?_
  refine j_callPi (pc' := 5) (ai := 205) (vs := [.ref 75, .int l1]) (rest := []) rfl rfl (fun _ _ => rfl) (c_X12_isPlayer l1 σ) (j_dd rfl hd) rfl (fun v1 => ?_)
  refine j_two (pT := 8) (pF := 12) (L1 := [some (.ref 75), some (.int l1)]) (st1 := []) (fun o kT kF => ?_) (fun h1 => ?_) (fun h1 => ?_)
  · refine j_ifne (t := 12) (pc' := 8) rfl rfl rfl (fun h2 => ?_) (fun h2 => ?_)
    · exact kF h2
    · exact kT h2
  · refine j_sipush (pc' := 11) (x := (-2000 : Int32)) rfl rfl rfl ?_
    exact j_ret rfl rfl rfl (fun _ h => h)
  · refine j_aload_n (pc' := 13) rfl rfl rfl ?_
    refine j_callRv (pc' := 16) (ai := 237) (vs := [.ref 75]) (rest := []) rfl rfl (fun _ _ => rfl) (c_X12_lay  σ) (j_dd rfl hd) rfl (fun σ2 => ?_)
    refine j_aload_n (pc' := 17) rfl rfl rfl ?_
    refine j_iload_n (pc' := 18) rfl rfl rfl ?_
    refine j_callRi (pc' := 21) (ai := 313) (vs := [.ref 75, .int l1]) (rest := []) rfl rfl (fun _ _ => rfl) (c_X12_rashOf l1 σ2) (j_dd rfl hd) rfl (fun v4 σ3 => ?_)
    exact j_ret rfl rfl rfl (fun _ h => h)

noncomputable def f_X11_lookPoints (l1 : Int32) (σ : j_G) : Option (Int32 × j_G) :=
  j_lt (j_si σ 28 1 l1) fun σ1 =>
  j_lt (j_si σ1 28 3 (0 : Int32)) fun σ2 =>
  j_b2 (f_X9_good 30 28 22 31 32 25 23 24 26 33 34 (-1 : Int32) σ2) fun v4 σ3 =>
  some (((10 : Int32) * v4), σ3)
theorem c_X11_lookPoints (l1 : Int32) (σ : j_G) : j_K true 5 190 [.ref 0, .int l1] σ (f_X11_lookPoints l1 σ) j_Ri := by
  refine j_mkK (M := M_cX11_lookPoints) (L := [some (.ref 0), some (.int l1)]) (m := 0) t_190 rfl (j_rcvO j_a0 rfl) rfl (fun d hd τ => ?_)
  unfold f_X11_lookPoints
  refine j_aload_n (pc' := 1) rfl rfl rfl ?_
  refine j_gfr (pc' := 4) (x := 28) rfl rfl j_a0 rfl rfl ?_
  refine j_iload_n (pc' := 5) rfl rfl rfl ?_
  refine j_pfi (pc' := 8) rfl rfl j_a28 rfl rfl (fun σ1 => ?_)
  refine j_aload_n (pc' := 9) rfl rfl rfl ?_
  refine j_gfr (pc' := 12) (x := 28) rfl rfl j_a0 rfl rfl ?_
  refine j_iconst (pc' := 13) (x := (0 : Int32)) rfl rfl rfl ?_
  refine j_pfi (pc' := 16) rfl rfl j_a28 rfl rfl (fun σ2 => ?_)
  refine j_bipush (pc' := 18) (x := (10 : Int32)) rfl rfl rfl ?_
  refine j_aload_n (pc' := 19) rfl rfl rfl ?_
  refine j_gfr (pc' := 22) (x := 30) rfl rfl j_a0 rfl rfl ?_
  refine j_aload_n (pc' := 23) rfl rfl rfl ?_
  refine j_gfr (pc' := 26) (x := 1) rfl rfl j_a0 rfl rfl ?_
  refine j_aload_n (pc' := 27) rfl rfl rfl ?_
  refine j_gfr (pc' := 30) (x := 22) rfl rfl j_a0 rfl rfl ?_
  refine j_aload_n (pc' := 31) rfl rfl rfl ?_
  refine j_gfr (pc' := 34) (x := 28) rfl rfl j_a0 rfl rfl ?_
  refine j_iconst (pc' := 35) (x := (-1 : Int32)) rfl rfl rfl ?_
  refine j_callRi (pc' := 38) (ai := 100) (vs := [.ref 30, .ref 1, .ref 22, .ref 28, .int (-1 : Int32)]) (rest := [.int (10 : Int32)]) rfl rfl (fun _ _ => rfl) (c_X9_good_30_1_22_28 (-1 : Int32) σ2) (j_dd rfl hd) rfl (fun v4 σ3 => ?_)
  refine j_imul (pc' := 39) rfl rfl ?_
  exact j_ret rfl rfl rfl (fun _ h => h)

noncomputable def f_X11_look (l1 : Int32) (l2 : Int32) (σ : j_G) : Option (Int32 × j_G) :=
  if (¬ l2 < 0) ∧ (¬ (20 : Int32) < l2) then (j_b2 (f_X11_makeReady l1 σ) fun v2 σ1 =>
  if v2 = 0 then (some ((-2000 : Int32), σ1)) else (j_b1 (f_X2_trait l1 (1 : Int32) σ1) fun v3 =>
  j_b2 (f_X11_lookPoints (v3 + l2) σ1) fun v5 σ4 =>
  some (v5, σ4))) else (some ((-2000 : Int32), σ))
theorem c_X11_look (l1 : Int32) (l2 : Int32) (σ : j_G) : j_K true 6 157 [.ref 0, .int l1, .int l2] σ (f_X11_look l1 l2 σ) j_Ri := by
  refine j_mkK (M := M_cX11_look) (L := [some (.ref 0), some (.int l1), some (.int l2)]) (m := 0) t_157 rfl (j_rcvO j_a0 rfl) rfl (fun d hd τ => ?_)
  unfold f_X11_look
  refine j_iload_n (pc' := 1) rfl rfl rfl ?_
  refine j_two (pT := 10) (pF := 18) (L1 := [some (.ref 0), some (.int l1), some (.int l2)]) (st1 := []) (fun o kT kF => ?_) (fun h3 => ?_) (fun h3 => ?_)
  · refine j_iflt (t := 18) (pc' := 4) rfl rfl rfl (fun h4 => ?_) (fun h4 => ?_)
    · exact kF (fun z => z.1 h4)
    · refine j_iload_n (pc' := 5) rfl rfl rfl ?_
      refine j_bipush (pc' := 7) (x := (20 : Int32)) rfl rfl rfl ?_
      refine j_icgt (t := 18) (pc' := 10) rfl rfl rfl (fun h5 => ?_) (fun h5 => ?_)
      · exact kF (fun z => (fun z => z h5) z.2)
      · exact kT (⟨h4, h5⟩)
  · refine j_aload_n (pc' := 11) rfl rfl rfl ?_
    refine j_iload_n (pc' := 12) rfl rfl rfl ?_
    refine j_callRi (pc' := 15) (ai := 186) (vs := [.ref 0, .int l1]) (rest := []) rfl rfl (fun _ _ => rfl) (c_X11_makeReady l1 σ) (j_dd rfl hd) rfl (fun v2 σ1 => ?_)
    refine j_two (pT := 18) (pF := 22) (L1 := [some (.ref 0), some (.int l1), some (.int l2)]) (st1 := []) (fun o kT kF => ?_) (fun h1 => ?_) (fun h1 => ?_)
    · refine j_ifne (t := 22) (pc' := 18) rfl rfl rfl (fun h2 => ?_) (fun h2 => ?_)
      · exact kF h2
      · exact kT h2
    · refine j_sipush (pc' := 21) (x := (-2000 : Int32)) rfl rfl rfl ?_
      exact j_ret rfl rfl rfl (fun _ h => h)
    · refine j_aload_n (pc' := 23) rfl rfl rfl ?_
      refine j_aload_n (pc' := 24) rfl rfl rfl ?_
      refine j_gfr (pc' := 27) (x := 1) rfl rfl j_a0 rfl rfl ?_
      refine j_iload_n (pc' := 28) rfl rfl rfl ?_
      refine j_iconst (pc' := 29) (x := (1 : Int32)) rfl rfl rfl ?_
      refine j_callPi (pc' := 32) (ai := 24) (vs := [.ref 1, .int l1, .int (1 : Int32)]) (rest := [.ref 0]) rfl rfl (fun _ _ => rfl) (c_X2_trait l1 (1 : Int32) σ1) (j_dd rfl hd) rfl (fun v3 => ?_)
      refine j_iload_n (pc' := 33) rfl rfl rfl ?_
      refine j_iadd (pc' := 34) rfl rfl ?_
      refine j_callRi (pc' := 37) (ai := 190) (vs := [.ref 0, .int (v3 + l2)]) (rest := []) rfl rfl (fun _ _ => rfl) (c_X11_lookPoints (v3 + l2) σ1) (j_dd rfl hd) rfl (fun v5 σ4 => ?_)
      exact j_ret rfl rfl rfl (fun _ h => h)
  · refine j_sipush (pc' := 21) (x := (-2000 : Int32)) rfl rfl rfl ?_
    exact j_ret rfl rfl rfl (fun _ h => h)

noncomputable def f_X12_lookOf (l1 : Int32) (l2 : Int32) (σ : j_G) : Option (Int32 × j_G) :=
  j_b1 (f_X12_asTold l1 σ) fun σ1 =>
  j_lt (j_si σ1 75 20 ((σ1.1 75 20) + l2)) fun σ2 =>
  j_lt (j_si σ2 75 21 (0 : Int32)) fun σ3 =>
  j_b1 (f_X12_run σ3) fun σ4 =>
  some (((10 : Int32) * (σ4.1 75 29)), σ4)
theorem c_X12_lookOf (l1 : Int32) (l2 : Int32) (σ : j_G) : j_K false 5 315 [.ref 75, .int l1, .int l2] σ (f_X12_lookOf l1 l2 σ) j_Ri := by
  refine j_mkK (M := M_cX12_lookOf) (L := [some (.ref 75), some (.int l1), some (.int l2)]) (m := 0) t_315 rfl (j_rcvO j_a75 rfl) rfl (fun d hd τ => ?_)
  unfold f_X12_lookOf
  refine j_aload_n (pc' := 1) rfl rfl rfl ?_
  refine j_iload_n (pc' := 2) rfl rfl rfl ?_
  refine j_callRv (pc' := 5) (ai := 252) (vs := [.ref 75, .int l1]) (rest := []) rfl rfl (fun _ _ => rfl) (c_X12_asTold l1 σ) (j_dd rfl hd) rfl (fun σ1 => ?_)
  refine j_aload_n (pc' := 6) rfl rfl rfl ?_
  refine j_dup (pc' := 7) rfl rfl rfl ?_
  refine j_gfi (pc' := 10) rfl rfl j_a75 rfl ?_
  refine j_iload_n (pc' := 11) rfl rfl rfl ?_
  refine j_iadd (pc' := 12) rfl rfl ?_
  refine j_pfi (pc' := 15) rfl rfl j_a75 rfl rfl (fun σ2 => ?_)
  refine j_aload_n (pc' := 16) rfl rfl rfl ?_
  refine j_iconst (pc' := 17) (x := (0 : Int32)) rfl rfl rfl ?_
  refine j_pfi (pc' := 20) rfl rfl j_a75 rfl rfl (fun σ3 => ?_)
  refine j_aload_n (pc' := 21) rfl rfl rfl ?_
  refine j_callRv (pc' := 24) (ai := 258) (vs := [.ref 75]) (rest := []) rfl rfl (fun _ _ => rfl) (c_X12_run  σ3) (j_dd rfl hd) rfl (fun σ4 => ?_)
  refine j_bipush (pc' := 26) (x := (10 : Int32)) rfl rfl rfl ?_
  refine j_aload_n (pc' := 27) rfl rfl rfl ?_
  refine j_gfi (pc' := 30) rfl rfl j_a75 rfl ?_
  refine j_imul (pc' := 31) rfl rfl ?_
  exact j_ret rfl rfl rfl (fun _ h => h)

noncomputable def f_X12_look (l1 : Int32) (l2 : Int32) (σ : j_G) : Option (Int32 × j_G) :=
  j_b1 (f_X12_isPlayer l1 σ) fun v1 =>
  if (v1 = 0) ∨ ((f_X12_in (l2).toInt64 (0 : Int64) (20 : Int64)) = 0) then (some ((-2000 : Int32), σ)) else (j_b1 (f_X12_lay σ) fun σ2 =>
  j_b2 (f_X12_lookOf l1 l2 σ2) fun v4 σ3 =>
  some (v4, σ3))
theorem c_X12_look (l1 : Int32) (l2 : Int32) (σ : j_G) : j_K false 6 316 [.ref 75, .int l1, .int l2] σ (f_X12_look l1 l2 σ) j_Ri := by
  refine j_mkK (M := M_cX12_look) (L := [some (.ref 75), some (.int l1), some (.int l2)]) (m := 0) t_316 rfl (j_rcvO j_a75 rfl) rfl (fun d hd τ => ?_)
  unfold f_X12_look
  refine j_aload_n (pc' := 1) rfl rfl rfl ?_
  refine j_iload_n (pc' := 2) rfl rfl rfl ?_
  refine j_callPi (pc' := 5) (ai := 205) (vs := [.ref 75, .int l1]) (rest := []) rfl rfl (fun _ _ => rfl) (c_X12_isPlayer l1 σ) (j_dd rfl hd) rfl (fun v1 => ?_)
  refine j_two (pT := 20) (pF := 24) (L1 := [some (.ref 75), some (.int l1), some (.int l2)]) (st1 := []) (fun o kT kF => ?_) (fun h1 => ?_) (fun h1 => ?_)
  · refine j_ifeq (t := 20) (pc' := 8) rfl rfl rfl (fun h2 => ?_) (fun h2 => ?_)
    · exact kT (Or.inl h2)
    · refine j_iload_n (pc' := 9) rfl rfl rfl ?_
      refine j_i2l (pc' := 10) rfl rfl ?_
      refine j_lconst (pc' := 11) (x := (0 : Int64)) rfl rfl rfl ?_
      refine j_ldc2_w (pc' := 14) (x := (20 : Int64)) rfl rfl rfl ?_
      refine j_callTi (pc' := 17) (ai := 196) (vs := [.long (l2).toInt64, .long (0 : Int64), .long (20 : Int64)]) (rest := []) rfl rfl (fun _ _ => rfl) (c_X12_in (l2).toInt64 (0 : Int64) (20 : Int64) σ) (j_dd rfl hd) rfl ?_
      refine j_ifne (t := 24) (pc' := 20) rfl rfl rfl (fun h3 => ?_) (fun h3 => ?_)
      · exact kF (fun z => z.elim h2 (h3))
      · exact kT (Or.inr (h3))
  · refine j_sipush (pc' := 23) (x := (-2000 : Int32)) rfl rfl rfl ?_
    exact j_ret rfl rfl rfl (fun _ h => h)
  · refine j_aload_n (pc' := 25) rfl rfl rfl ?_
    refine j_callRv (pc' := 28) (ai := 237) (vs := [.ref 75]) (rest := []) rfl rfl (fun _ _ => rfl) (c_X12_lay  σ) (j_dd rfl hd) rfl (fun σ2 => ?_)
    refine j_aload_n (pc' := 29) rfl rfl rfl ?_
    refine j_iload_n (pc' := 30) rfl rfl rfl ?_
    refine j_iload_n (pc' := 31) rfl rfl rfl ?_
    refine j_callRi (pc' := 34) (ai := 315) (vs := [.ref 75, .int l1, .int l2]) (rest := []) rfl rfl (fun _ _ => rfl) (c_X12_lookOf l1 l2 σ2) (j_dd rfl hd) rfl (fun v4 σ3 => ?_)
    exact j_ret rfl rfl rfl (fun _ h => h)

noncomputable def p_X11_line_45 (l2 : Int32) (l3 : Int32) : Nat → Int32 → j_G → Option (Int32 × j_G)
  | 0, _, _ => none
  | n + 1, l4, σ =>
    if ¬ l4 < 0 then (j_b2 (f_X11_lookPoints (l3 + l4) σ) fun v2 σ1 =>
    if ¬ v2 < l2 then (some (l4, σ1)) else (p_X11_line_45 l2 l3 n (l4 + (-1 : Int32)) σ1)) else (some ((-1 : Int32), σ))

noncomputable def f_X11_line (l1 : Int32) (σ : j_G) : Option (Int32 × j_G) :=
  j_b2 (f_X11_makeReady l1 σ) fun v2 σ1 =>
  if v2 = 0 then (some ((-2 : Int32), σ1)) else (j_b2 (f_X9_rashPoints σ1) fun v4 σ3 =>
  j_b1 (f_X2_trait l1 (1 : Int32) σ3) fun v5 =>
  p_X11_line_45 v4 v5 j_F (20 : Int32) σ3)
theorem l_X11_line_45 {d : Nat} (hd : 6 ≤ d) (τ : j_G) (l2 : Int32) (l3 : Int32) : ∀ (n : Nat) (l4 : Int32) (σ : j_G), j_J true τ M_cX11_line d 45 [some (.ref 0), none, some (.int l2), some (.int l3), some (.int l4)] [] σ (p_X11_line_45 l2 l3 n l4 σ) j_Ri := by
  intro n
  induction n with
  | zero => intro l4 σ; exact j_none
  | succ n ih =>
    intro l4 σ
    unfold p_X11_line_45
    refine j_iload (pc' := 47) rfl rfl rfl ?_
    refine j_two (pT := 50) (pF := 71) (L1 := [some (.ref 0), none, some (.int l2), some (.int l3), some (.int l4)]) (st1 := []) (fun o kT kF => ?_) (fun h3 => ?_) (fun h3 => ?_)
    · refine j_iflt (t := 71) (pc' := 50) rfl rfl rfl (fun h4 => ?_) (fun h4 => ?_)
      · exact kF (fun z => z h4)
      · exact kT h4
    · refine j_aload_n (pc' := 51) rfl rfl rfl ?_
      refine j_iload_n (pc' := 52) rfl rfl rfl ?_
      refine j_iload (pc' := 54) rfl rfl rfl ?_
      refine j_iadd (pc' := 55) rfl rfl ?_
      refine j_callRi (pc' := 58) (ai := 190) (vs := [.ref 0, .int (l3 + l4)]) (rest := []) rfl rfl (fun _ _ => rfl) (c_X11_lookPoints (l3 + l4) σ) (j_dd rfl hd) rfl (fun v2 σ1 => ?_)
      refine j_iload_n (pc' := 59) rfl rfl rfl ?_
      refine j_two (pT := 62) (pF := 65) (L1 := [some (.ref 0), none, some (.int l2), some (.int l3), some (.int l4)]) (st1 := []) (fun o kT kF => ?_) (fun h1 => ?_) (fun h1 => ?_)
      · refine j_iclt (t := 65) (pc' := 62) rfl rfl rfl (fun h2 => ?_) (fun h2 => ?_)
        · exact kF (fun z => z h2)
        · exact kT h2
      · refine j_iload (pc' := 64) rfl rfl rfl ?_
        exact j_ret rfl rfl rfl (fun _ h => h)
      · refine j_iincx (pc' := 68) (y := (-1 : Int32)) (L' := [some (.ref 0), none, some (.int l2), some (.int l3), some (.int (l4 + (-1 : Int32)))]) rfl rfl rfl rfl rfl ?_
        refine j_goto (t := 45) rfl rfl ?_
        exact ih (l4 + (-1 : Int32)) σ1
    · refine j_iconst (pc' := 72) (x := (-1 : Int32)) rfl rfl rfl ?_
      exact j_ret rfl rfl rfl (fun _ h => h)

theorem c_X11_line (l1 : Int32) (σ : j_G) : j_K true 6 158 [.ref 0, .int l1] σ (f_X11_line l1 σ) j_Ri := by
  refine j_mkK (M := M_cX11_line) (L := [some (.ref 0), some (.int l1), none, none, none]) (m := 3) t_158 rfl (j_rcvO j_a0 rfl) rfl (fun d hd τ => ?_)
  unfold f_X11_line
  refine j_aload_n (pc' := 1) rfl rfl rfl ?_
  refine j_iload_n (pc' := 2) rfl rfl rfl ?_
  refine j_callRi (pc' := 5) (ai := 186) (vs := [.ref 0, .int l1]) (rest := []) rfl rfl (fun _ _ => rfl) (c_X11_makeReady l1 σ) (j_dd rfl hd) rfl (fun v2 σ1 => ?_)
  refine j_two (pT := 8) (pF := 11) (L1 := [some (.ref 0), some (.int l1), none, none, none]) (st1 := []) (fun o kT kF => ?_) (fun h1 => ?_) (fun h1 => ?_)
  · refine j_ifne (t := 11) (pc' := 8) rfl rfl rfl (fun h2 => ?_) (fun h2 => ?_)
    · exact kF h2
    · exact kT h2
  · refine j_bipush (pc' := 10) (x := (-2 : Int32)) rfl rfl rfl ?_
    exact j_ret rfl rfl rfl (fun _ h => h)
  · refine j_aload_n (pc' := 12) rfl rfl rfl ?_
    refine j_gfr (pc' := 15) (x := 30) rfl rfl j_a0 rfl rfl ?_
    refine j_aload_n (pc' := 16) rfl rfl rfl ?_
    refine j_gfr (pc' := 19) (x := 1) rfl rfl j_a0 rfl rfl ?_
    refine j_aload_n (pc' := 20) rfl rfl rfl ?_
    refine j_gfr (pc' := 23) (x := 22) rfl rfl j_a0 rfl rfl ?_
    refine j_aload_n (pc' := 24) rfl rfl rfl ?_
    refine j_gfr (pc' := 27) (x := 28) rfl rfl j_a0 rfl rfl ?_
    refine j_callRi (pc' := 30) (ai := 101) (vs := [.ref 30, .ref 1, .ref 22, .ref 28]) (rest := []) rfl rfl (fun _ _ => rfl) (c_X9_rashPoints  σ1) (j_dd rfl hd) rfl (fun v4 σ3 => ?_)
    refine j_istore_n (pc' := 31) (L' := [some (.ref 0), some (.int l1), some (.int v4), none, none]) rfl rfl rfl ?_
    refine j_aload_n (pc' := 32) rfl rfl rfl ?_
    refine j_gfr (pc' := 35) (x := 1) rfl rfl j_a0 rfl rfl ?_
    refine j_iload_n (pc' := 36) rfl rfl rfl ?_
    refine j_iconst (pc' := 37) (x := (1 : Int32)) rfl rfl rfl ?_
    refine j_callPi (pc' := 40) (ai := 24) (vs := [.ref 1, .int l1, .int (1 : Int32)]) (rest := []) rfl rfl (fun _ _ => rfl) (c_X2_trait l1 (1 : Int32) σ3) (j_dd rfl hd) rfl (fun v5 => ?_)
    refine j_istore_n (pc' := 41) (L' := [some (.ref 0), some (.int l1), some (.int v4), some (.int v5), none]) rfl rfl rfl ?_
    refine j_bipush (pc' := 43) (x := (20 : Int32)) rfl rfl rfl ?_
    refine j_istore (pc' := 45) (L' := [some (.ref 0), some (.int l1), some (.int v4), some (.int v5), some (.int (20 : Int32))]) rfl rfl rfl ?_
    refine j_wk [true, false, true, true, true] (L' := [some (.ref 0), none, some (.int v4), some (.int v5), some (.int (20 : Int32))]) rfl ?_
    exact (l_X11_line_45 hd τ v4 v5 j_F (20 : Int32) σ3)

noncomputable def p_X12_line_24 (l1 : Int32) (l2 : Int32) : Nat → Int32 → j_G → Option (Int32 × j_G)
  | 0, _, _ => none
  | n + 1, l3, σ =>
    if ¬ l3 < 0 then (j_b2 (f_X12_lookOf l1 l3 σ) fun v2 σ1 =>
    if ¬ v2 < l2 then (some (l3, σ1)) else (p_X12_line_24 l1 l2 n (l3 + (-1 : Int32)) σ1)) else (some ((-1 : Int32), σ))

noncomputable def f_X12_line (l1 : Int32) (σ : j_G) : Option (Int32 × j_G) :=
  j_b1 (f_X12_isPlayer l1 σ) fun v1 =>
  if v1 = 0 then (some ((-2 : Int32), σ)) else (j_b1 (f_X12_lay σ) fun σ2 =>
  j_b2 (f_X12_rashOf l1 σ2) fun v4 σ3 =>
  p_X12_line_24 l1 v4 j_F (20 : Int32) σ3)
theorem l_X12_line_24 {d : Nat} (hd : 6 ≤ d) (τ : j_G) (l1 : Int32) (l2 : Int32) : ∀ (n : Nat) (l3 : Int32) (σ : j_G), j_J false τ M_cX12_line d 24 [some (.ref 75), some (.int l1), some (.int l2), some (.int l3)] [] σ (p_X12_line_24 l1 l2 n l3 σ) j_Ri := by
  intro n
  induction n with
  | zero => intro l3 σ; exact j_none
  | succ n ih =>
    intro l3 σ
    unfold p_X12_line_24
    refine j_iload_n (pc' := 25) rfl rfl rfl ?_
    refine j_two (pT := 28) (pF := 46) (L1 := [some (.ref 75), some (.int l1), some (.int l2), some (.int l3)]) (st1 := []) (fun o kT kF => ?_) (fun h3 => ?_) (fun h3 => ?_)
    · refine j_iflt (t := 46) (pc' := 28) rfl rfl rfl (fun h4 => ?_) (fun h4 => ?_)
      · exact kF (fun z => z h4)
      · exact kT h4
    · refine j_aload_n (pc' := 29) rfl rfl rfl ?_
      refine j_iload_n (pc' := 30) rfl rfl rfl ?_
      refine j_iload_n (pc' := 31) rfl rfl rfl ?_
      refine j_callRi (pc' := 34) (ai := 315) (vs := [.ref 75, .int l1, .int l3]) (rest := []) rfl rfl (fun _ _ => rfl) (c_X12_lookOf l1 l3 σ) (j_dd rfl hd) rfl (fun v2 σ1 => ?_)
      refine j_iload_n (pc' := 35) rfl rfl rfl ?_
      refine j_two (pT := 38) (pF := 40) (L1 := [some (.ref 75), some (.int l1), some (.int l2), some (.int l3)]) (st1 := []) (fun o kT kF => ?_) (fun h1 => ?_) (fun h1 => ?_)
      · refine j_iclt (t := 40) (pc' := 38) rfl rfl rfl (fun h2 => ?_) (fun h2 => ?_)
        · exact kF (fun z => z h2)
        · exact kT h2
      · refine j_iload_n (pc' := 39) rfl rfl rfl ?_
        exact j_ret rfl rfl rfl (fun _ h => h)
      · refine j_iincx (pc' := 43) (y := (-1 : Int32)) (L' := [some (.ref 75), some (.int l1), some (.int l2), some (.int (l3 + (-1 : Int32)))]) rfl rfl rfl rfl rfl ?_
        refine j_goto (t := 24) rfl rfl ?_
        exact ih (l3 + (-1 : Int32)) σ1
    · refine j_iconst (pc' := 47) (x := (-1 : Int32)) rfl rfl rfl ?_
      exact j_ret rfl rfl rfl (fun _ h => h)

theorem c_X12_line (l1 : Int32) (σ : j_G) : j_K false 6 317 [.ref 75, .int l1] σ (f_X12_line l1 σ) j_Ri := by
  refine j_mkK (M := M_cX12_line) (L := [some (.ref 75), some (.int l1), none, none]) (m := 2) t_317 rfl (j_rcvO j_a75 rfl) rfl (fun d hd τ => ?_)
  unfold f_X12_line
  refine j_aload_n (pc' := 1) rfl rfl rfl ?_
  refine j_iload_n (pc' := 2) rfl rfl rfl ?_
  refine j_callPi (pc' := 5) (ai := 205) (vs := [.ref 75, .int l1]) (rest := []) rfl rfl (fun _ _ => rfl) (c_X12_isPlayer l1 σ) (j_dd rfl hd) rfl (fun v1 => ?_)
  refine j_two (pT := 8) (pF := 11) (L1 := [some (.ref 75), some (.int l1), none, none]) (st1 := []) (fun o kT kF => ?_) (fun h1 => ?_) (fun h1 => ?_)
  · refine j_ifne (t := 11) (pc' := 8) rfl rfl rfl (fun h2 => ?_) (fun h2 => ?_)
    · exact kF h2
    · exact kT h2
  · refine j_bipush (pc' := 10) (x := (-2 : Int32)) rfl rfl rfl ?_
    exact j_ret rfl rfl rfl (fun _ h => h)
  · refine j_aload_n (pc' := 12) rfl rfl rfl ?_
    refine j_callRv (pc' := 15) (ai := 237) (vs := [.ref 75]) (rest := []) rfl rfl (fun _ _ => rfl) (c_X12_lay  σ) (j_dd rfl hd) rfl (fun σ2 => ?_)
    refine j_aload_n (pc' := 16) rfl rfl rfl ?_
    refine j_iload_n (pc' := 17) rfl rfl rfl ?_
    refine j_callRi (pc' := 20) (ai := 313) (vs := [.ref 75, .int l1]) (rest := []) rfl rfl (fun _ _ => rfl) (c_X12_rashOf l1 σ2) (j_dd rfl hd) rfl (fun v4 σ3 => ?_)
    refine j_istore_n (pc' := 21) (L' := [some (.ref 75), some (.int l1), some (.int v4), none]) rfl rfl rfl ?_
    refine j_bipush (pc' := 23) (x := (20 : Int32)) rfl rfl rfl ?_
    refine j_istore_n (pc' := 24) (L' := [some (.ref 75), some (.int l1), some (.int v4), some (.int (20 : Int32))]) rfl rfl rfl ?_
    exact (l_X12_line_24 hd τ l1 v4 j_F (20 : Int32) σ3)

theorem c_X6_take_29_1 (l2 : Int32) (σ : j_G) : j_K true 1 64 [.ref 29, .ref 1, .int l2] σ (f_X6_take 29 l2 σ) j_Rv := by
  refine j_mkK (M := M_cX6_take) (L := [some (.ref 29), some (.ref 1), some (.int l2)]) (m := 0) t_64 rfl (j_rcvO j_a29 rfl) rfl (fun d hd τ => ?_)
  unfold f_X6_take
  refine j_aload_n (pc' := 1) rfl rfl rfl ?_
  refine j_aload_n (pc' := 2) rfl rfl rfl ?_
  refine j_iload_n (pc' := 3) rfl rfl rfl ?_
  refine j_iconst (pc' := 4) (x := (0 : Int32)) rfl rfl rfl ?_
  refine j_callPi (pc' := 7) (ai := 24) (vs := [.ref 1, .int l2, .int (0 : Int32)]) (rest := [.ref 29]) rfl rfl (fun _ _ => rfl) (c_X2_trait l2 (0 : Int32) σ) (j_dd rfl hd) rfl (fun v1 => ?_)
  refine j_pfi (pc' := 10) rfl rfl j_a29 rfl rfl (fun σ2 => ?_)
  refine j_aload_n (pc' := 11) rfl rfl rfl ?_
  refine j_aload_n (pc' := 12) rfl rfl rfl ?_
  refine j_iload_n (pc' := 13) rfl rfl rfl ?_
  refine j_iconst (pc' := 14) (x := (1 : Int32)) rfl rfl rfl ?_
  refine j_callPi (pc' := 17) (ai := 24) (vs := [.ref 1, .int l2, .int (1 : Int32)]) (rest := [.ref 29]) rfl rfl (fun _ _ => rfl) (c_X2_trait l2 (1 : Int32) σ2) (j_dd rfl hd) rfl (fun v3 => ?_)
  refine j_pfi (pc' := 20) rfl rfl j_a29 rfl rfl (fun σ4 => ?_)
  refine j_aload_n (pc' := 21) rfl rfl rfl ?_
  refine j_aload_n (pc' := 22) rfl rfl rfl ?_
  refine j_iload_n (pc' := 23) rfl rfl rfl ?_
  refine j_iconst (pc' := 24) (x := (2 : Int32)) rfl rfl rfl ?_
  refine j_callPi (pc' := 27) (ai := 24) (vs := [.ref 1, .int l2, .int (2 : Int32)]) (rest := [.ref 29]) rfl rfl (fun _ _ => rfl) (c_X2_trait l2 (2 : Int32) σ4) (j_dd rfl hd) rfl (fun v5 => ?_)
  refine j_pfi (pc' := 30) rfl rfl j_a29 rfl rfl (fun σ6 => ?_)
  refine j_aload_n (pc' := 31) rfl rfl rfl ?_
  refine j_aload_n (pc' := 32) rfl rfl rfl ?_
  refine j_iload_n (pc' := 33) rfl rfl rfl ?_
  refine j_iconst (pc' := 34) (x := (3 : Int32)) rfl rfl rfl ?_
  refine j_callPi (pc' := 37) (ai := 24) (vs := [.ref 1, .int l2, .int (3 : Int32)]) (rest := [.ref 29]) rfl rfl (fun _ _ => rfl) (c_X2_trait l2 (3 : Int32) σ6) (j_dd rfl hd) rfl (fun v7 => ?_)
  refine j_pfi (pc' := 40) rfl rfl j_a29 rfl rfl (fun σ8 => ?_)
  refine j_aload_n (pc' := 41) rfl rfl rfl ?_
  refine j_aload_n (pc' := 42) rfl rfl rfl ?_
  refine j_iload_n (pc' := 43) rfl rfl rfl ?_
  refine j_iconst (pc' := 44) (x := (4 : Int32)) rfl rfl rfl ?_
  refine j_callPi (pc' := 47) (ai := 24) (vs := [.ref 1, .int l2, .int (4 : Int32)]) (rest := [.ref 29]) rfl rfl (fun _ _ => rfl) (c_X2_trait l2 (4 : Int32) σ8) (j_dd rfl hd) rfl (fun v9 => ?_)
  refine j_pfi (pc' := 50) rfl rfl j_a29 rfl rfl (fun σ10 => ?_)
  exact j_ret rfl rfl rfl (fun _ h => h)

noncomputable def p_X4_goodHoles_4 (σ : j_G) : Nat → Int32 → Int32 → Option Int32
  | 0, _, _ => none
  | n + 1, l1, l2 =>
    if l2 < (σ.1 22 0) then (j_ix l2 60 (
    j_b1 (if (σ.1 25 (l2).toNatClampNeg) = 0 then (j_b1 (f_X4_holesOf l2 σ) fun v2 =>
    j_lt (l1 ||| v2) fun v3 =>
    some v3) else (some l1)) fun v1 =>
    p_X4_goodHoles_4 σ n v1 (l2 + (1 : Int32)))) else (some l1)

noncomputable def f_X4_goodHoles (σ : j_G) : Option Int32 :=
  j_b1 (p_X4_goodHoles_4 σ j_F (0 : Int32) (0 : Int32)) fun v1 =>
  some v1
theorem l_X4_goodHoles_4 {d : Nat} (hd : 2 ≤ d) (τ : j_G) (σ : j_G) : ∀ (n : Nat) (l1 : Int32) (l2 : Int32), j_J true τ M_cX4_goodHoles d 4 [some (.ref 22), some (.int l1), some (.int l2)] [] σ (p_X4_goodHoles_4 σ n l1 l2) (fun r Q => j_Tr true τ M_cX4_goodHoles d 35 [none, some (.int r), none] [] σ Q) := by
  intro n
  induction n with
  | zero => intro l1 l2; exact j_none
  | succ n ih =>
    intro l1 l2
    unfold p_X4_goodHoles_4
    refine j_iload_n (pc' := 5) rfl rfl rfl ?_
    refine j_aload_n (pc' := 6) rfl rfl rfl ?_
    refine j_gfi (pc' := 9) rfl rfl j_a22 rfl ?_
    refine j_two (pT := 12) (pF := 35) (L1 := [some (.ref 22), some (.int l1), some (.int l2)]) (st1 := []) (fun o kT kF => ?_) (fun h3 => ?_) (fun h3 => ?_)
    · refine j_icge (t := 35) (pc' := 12) rfl rfl rfl (fun h4 => ?_) (fun h4 => ?_)
      · exact kF h4
      · exact kT h4
    · refine j_aload_n (pc' := 13) rfl rfl rfl ?_
      refine j_gfr (pc' := 16) (x := 25) rfl rfl j_a22 rfl rfl ?_
      refine j_iload_n (pc' := 17) rfl rfl rfl ?_
      refine j_iald (pc' := 18) rfl rfl j_a25 ?_
      refine j_q1 (Φl := (fun r Q => j_Tr true τ M_cX4_goodHoles d 29 [some (.ref 22), some (.int r), some (.int l2)] [] σ Q)) ?_ (fun v1 => ?_)
      · refine j_two (pT := 21) (pF := 29) (L1 := [some (.ref 22), some (.int l1), some (.int l2)]) (st1 := []) (fun o kT kF => ?_) (fun h1 => ?_) (fun h1 => ?_)
        · refine j_ifne (t := 29) (pc' := 21) rfl rfl rfl (fun h2 => ?_) (fun h2 => ?_)
          · exact kF h2
          · exact kT h2
        · refine j_iload_n (pc' := 22) rfl rfl rfl ?_
          refine j_aload_n (pc' := 23) rfl rfl rfl ?_
          refine j_iload_n (pc' := 24) rfl rfl rfl ?_
          refine j_callPi (pc' := 27) (ai := 49) (vs := [.ref 22, .int l2]) (rest := [.int l1]) rfl rfl (fun _ _ => rfl) (c_X4_holesOf l2 σ) (j_dd rfl hd) rfl (fun v2 => ?_)
          refine j_ior (pc' := 28) rfl rfl ?_
          refine j_leti (fun v3 => ?_)
          refine j_istore_n (pc' := 29) (L' := [some (.ref 22), some (.int v3), some (.int l2)]) rfl rfl rfl ?_
          exact j_end (fun _ h => h)
        · exact j_end (fun _ h => h)
      show j_J true τ M_cX4_goodHoles d 29 [some (.ref 22), some (.int v1), some (.int l2)] [] σ _ _
      refine j_iincx (pc' := 32) (y := (1 : Int32)) (L' := [some (.ref 22), some (.int v1), some (.int (l2 + (1 : Int32)))]) rfl rfl rfl rfl rfl ?_
      refine j_goto (t := 4) rfl rfl ?_
      exact ih v1 (l2 + (1 : Int32))
    · refine j_wk [false, true, false] (L' := [none, some (.int l1), none]) rfl ?_
      exact j_end (fun _ h => h)

theorem c_X4_goodHoles (σ : j_G) : j_K true 2 50 [.ref 22] σ (f_X4_goodHoles σ) (j_Pi σ) := by
  refine j_mkK (M := M_cX4_goodHoles) (L := [some (.ref 22), none, none]) (m := 2) t_50 rfl (j_rcvO j_a22 rfl) rfl (fun d hd τ => ?_)
  unfold f_X4_goodHoles
  refine j_iconst (pc' := 1) (x := (0 : Int32)) rfl rfl rfl ?_
  refine j_istore_n (pc' := 2) (L' := [some (.ref 22), some (.int (0 : Int32)), none]) rfl rfl rfl ?_
  refine j_iconst (pc' := 3) (x := (0 : Int32)) rfl rfl rfl ?_
  refine j_istore_n (pc' := 4) (L' := [some (.ref 22), some (.int (0 : Int32)), some (.int (0 : Int32))]) rfl rfl rfl ?_
  refine j_q1 (l_X4_goodHoles_4 hd τ σ j_F (0 : Int32) (0 : Int32)) (fun v1 => ?_)
  show j_J true τ M_cX4_goodHoles d 35 [none, some (.int v1), none] [] σ _ _
  refine j_iload_n (pc' := 36) rfl rfl rfl ?_
  exact j_ret rfl rfl rfl (fun _ h => h)

noncomputable def p_X4_goodIn_4 (l1 : Int32) (σ : j_G) : Nat → Int32 → Int32 → Option Int32
  | 0, _, _ => none
  | n + 1, l2, l3 =>
    if l3 < (σ.1 22 0) then (j_ix l3 60 (
    j_b1 (if (σ.1 25 (l3).toNatClampNeg) = 0 then (j_b1 (f_X4_holesOf l3 σ) fun v2 =>
    j_lt (l2 + (f_J6_bitCount_0f7a4 (v2 &&& l1))) fun v3 =>
    some v3) else (some l2)) fun v1 =>
    p_X4_goodIn_4 l1 σ n v1 (l3 + (1 : Int32)))) else (some l2)

noncomputable def f_X4_goodIn (l1 : Int32) (σ : j_G) : Option Int32 :=
  j_b1 (p_X4_goodIn_4 l1 σ j_F (0 : Int32) (0 : Int32)) fun v1 =>
  some v1
theorem l_X4_goodIn_4 {d : Nat} (hd : 2 ≤ d) (τ : j_G) (l1 : Int32) (σ : j_G) : ∀ (n : Nat) (l2 : Int32) (l3 : Int32), j_J true τ M_cX4_goodIn d 4 [some (.ref 22), some (.int l1), some (.int l2), some (.int l3)] [] σ (p_X4_goodIn_4 l1 σ n l2 l3) (fun r Q => j_Tr true τ M_cX4_goodIn d 40 [none, none, some (.int r), none] [] σ Q) := by
  intro n
  induction n with
  | zero => intro l2 l3; exact j_none
  | succ n ih =>
    intro l2 l3
    unfold p_X4_goodIn_4
    refine j_iload_n (pc' := 5) rfl rfl rfl ?_
    refine j_aload_n (pc' := 6) rfl rfl rfl ?_
    refine j_gfi (pc' := 9) rfl rfl j_a22 rfl ?_
    refine j_two (pT := 12) (pF := 40) (L1 := [some (.ref 22), some (.int l1), some (.int l2), some (.int l3)]) (st1 := []) (fun o kT kF => ?_) (fun h3 => ?_) (fun h3 => ?_)
    · refine j_icge (t := 40) (pc' := 12) rfl rfl rfl (fun h4 => ?_) (fun h4 => ?_)
      · exact kF h4
      · exact kT h4
    · refine j_aload_n (pc' := 13) rfl rfl rfl ?_
      refine j_gfr (pc' := 16) (x := 25) rfl rfl j_a22 rfl rfl ?_
      refine j_iload_n (pc' := 17) rfl rfl rfl ?_
      refine j_iald (pc' := 18) rfl rfl j_a25 ?_
      refine j_q1 (Φl := (fun r Q => j_Tr true τ M_cX4_goodIn d 34 [some (.ref 22), some (.int l1), some (.int r), some (.int l3)] [] σ Q)) ?_ (fun v1 => ?_)
      · refine j_two (pT := 21) (pF := 34) (L1 := [some (.ref 22), some (.int l1), some (.int l2), some (.int l3)]) (st1 := []) (fun o kT kF => ?_) (fun h1 => ?_) (fun h1 => ?_)
        · refine j_ifne (t := 34) (pc' := 21) rfl rfl rfl (fun h2 => ?_) (fun h2 => ?_)
          · exact kF h2
          · exact kT h2
        · refine j_iload_n (pc' := 22) rfl rfl rfl ?_
          refine j_aload_n (pc' := 23) rfl rfl rfl ?_
          refine j_iload_n (pc' := 24) rfl rfl rfl ?_
          refine j_callPi (pc' := 27) (ai := 49) (vs := [.ref 22, .int l3]) (rest := [.int l2]) rfl rfl (fun _ _ => rfl) (c_X4_holesOf l3 σ) (j_dd rfl hd) rfl (fun v2 => ?_)
          refine j_iload_n (pc' := 28) rfl rfl rfl ?_
          refine j_iand (pc' := 29) rfl rfl ?_
          refine j_callTi (pc' := 32) (ai := 356) (vs := [.int (v2 &&& l1)]) (rest := [.int l2]) rfl rfl (fun _ _ => rfl) (c_J6_bitCount_0f7a4 (v2 &&& l1) σ) (j_dd rfl hd) rfl ?_
          refine j_iadd (pc' := 33) rfl rfl ?_
          refine j_leti (fun v3 => ?_)
          refine j_istore_n (pc' := 34) (L' := [some (.ref 22), some (.int l1), some (.int v3), some (.int l3)]) rfl rfl rfl ?_
          exact j_end (fun _ h => h)
        · exact j_end (fun _ h => h)
      show j_J true τ M_cX4_goodIn d 34 [some (.ref 22), some (.int l1), some (.int v1), some (.int l3)] [] σ _ _
      refine j_iincx (pc' := 37) (y := (1 : Int32)) (L' := [some (.ref 22), some (.int l1), some (.int v1), some (.int (l3 + (1 : Int32)))]) rfl rfl rfl rfl rfl ?_
      refine j_goto (t := 4) rfl rfl ?_
      exact ih v1 (l3 + (1 : Int32))
    · refine j_wk [false, false, true, false] (L' := [none, none, some (.int l2), none]) rfl ?_
      exact j_end (fun _ h => h)

theorem c_X4_goodIn (l1 : Int32) (σ : j_G) : j_K true 2 51 [.ref 22, .int l1] σ (f_X4_goodIn l1 σ) (j_Pi σ) := by
  refine j_mkK (M := M_cX4_goodIn) (L := [some (.ref 22), some (.int l1), none, none]) (m := 2) t_51 rfl (j_rcvO j_a22 rfl) rfl (fun d hd τ => ?_)
  unfold f_X4_goodIn
  refine j_iconst (pc' := 1) (x := (0 : Int32)) rfl rfl rfl ?_
  refine j_istore_n (pc' := 2) (L' := [some (.ref 22), some (.int l1), some (.int (0 : Int32)), none]) rfl rfl rfl ?_
  refine j_iconst (pc' := 3) (x := (0 : Int32)) rfl rfl rfl ?_
  refine j_istore_n (pc' := 4) (L' := [some (.ref 22), some (.int l1), some (.int (0 : Int32)), some (.int (0 : Int32))]) rfl rfl rfl ?_
  refine j_q1 (l_X4_goodIn_4 hd τ l1 σ j_F (0 : Int32) (0 : Int32)) (fun v1 => ?_)
  show j_J true τ M_cX4_goodIn d 40 [none, none, some (.int v1), none] [] σ _ _
  refine j_iload_n (pc' := 41) rfl rfl rfl ?_
  exact j_ret rfl rfl rfl (fun _ h => h)

theorem l_X9_begin_30_30_22_29 {d : Nat} (hd : 0 ≤ d) (τ : j_G) : ∀ (n : Nat) (l3 : Int32) (σ : j_G), j_J true τ M_cX9_begin d 30 [some (.ref 30), some (.ref 22), none, some (.int l3)] [] σ (p_X9_begin_30 22 31 32 n l3 σ) (fun r Q => j_Tr true τ M_cX9_begin d 58 [none, none, none, none] [] r Q) := by
  intro n
  induction n with
  | zero => intro l3 σ; exact j_none
  | succ n ih =>
    intro l3 σ
    unfold p_X9_begin_30
    refine j_iload_n (pc' := 31) rfl rfl rfl ?_
    refine j_aload_n (pc' := 32) rfl rfl rfl ?_
    refine j_gfi (pc' := 35) rfl rfl j_a22 rfl ?_
    refine j_two (pT := 38) (pF := 58) (L1 := [some (.ref 30), some (.ref 22), none, some (.int l3)]) (st1 := []) (fun o kT kF => ?_) (fun h1 => ?_) (fun h1 => ?_)
    · refine j_icge (t := 58) (pc' := 38) rfl rfl rfl (fun h2 => ?_) (fun h2 => ?_)
      · exact kF h2
      · exact kT h2
    · refine j_aload_n (pc' := 39) rfl rfl rfl ?_
      refine j_gfr (pc' := 42) (x := 31) rfl rfl j_a30 rfl rfl ?_
      refine j_iload_n (pc' := 43) rfl rfl rfl ?_
      refine j_iconst (pc' := 44) (x := (-1 : Int32)) rfl rfl rfl ?_
      refine j_iast (pc' := 45) rfl rfl j_a31 (fun σ1 => ?_)
      refine j_aload_n (pc' := 46) rfl rfl rfl ?_
      refine j_gfr (pc' := 49) (x := 32) rfl rfl j_a30 rfl rfl ?_
      refine j_iload_n (pc' := 50) rfl rfl rfl ?_
      refine j_iconst (pc' := 51) (x := (0 : Int32)) rfl rfl rfl ?_
      refine j_iast (pc' := 52) rfl rfl j_a32 (fun σ2 => ?_)
      refine j_iincx (pc' := 55) (y := (1 : Int32)) (L' := [some (.ref 30), some (.ref 22), none, some (.int (l3 + (1 : Int32)))]) rfl rfl rfl rfl rfl ?_
      refine j_goto (t := 30) rfl rfl ?_
      exact ih (l3 + (1 : Int32)) σ2
    · refine j_wk [false, false, true, false] (L' := [none, none, none, none]) rfl ?_
      exact j_end (fun _ h => h)

theorem c_X9_begin_30_22_29 (σ : j_G) : j_K true 0 102 [.ref 30, .ref 22, .ref 29] σ (f_X9_begin 30 29 22 31 32 σ) j_Rv := by
  refine j_mkK (M := M_cX9_begin) (L := [some (.ref 30), some (.ref 22), some (.ref 29), none]) (m := 1) t_102 rfl (j_rcvO j_a30 rfl) rfl (fun d hd τ => ?_)
  unfold f_X9_begin
  refine j_aload_n (pc' := 1) rfl rfl rfl ?_
  refine j_iconst (pc' := 2) (x := (0 : Int32)) rfl rfl rfl ?_
  refine j_pfi (pc' := 5) rfl rfl j_a30 rfl rfl (fun σ1 => ?_)
  refine j_aload_n (pc' := 6) rfl rfl rfl ?_
  refine j_iconst (pc' := 7) (x := (0 : Int32)) rfl rfl rfl ?_
  refine j_pfi (pc' := 10) rfl rfl j_a30 rfl rfl (fun σ2 => ?_)
  refine j_aload_n (pc' := 11) rfl rfl rfl ?_
  refine j_iconst (pc' := 12) (x := (0 : Int32)) rfl rfl rfl ?_
  refine j_pfi (pc' := 15) rfl rfl j_a30 rfl rfl (fun σ3 => ?_)
  refine j_aload_n (pc' := 16) rfl rfl rfl ?_
  refine j_iconst (pc' := 17) (x := (0 : Int32)) rfl rfl rfl ?_
  refine j_pfi (pc' := 20) rfl rfl j_a30 rfl rfl (fun σ4 => ?_)
  refine j_aload_n (pc' := 21) rfl rfl rfl ?_
  refine j_aload_n (pc' := 22) rfl rfl rfl ?_
  refine j_gfi (pc' := 25) rfl rfl j_a29 rfl ?_
  refine j_pfi (pc' := 28) rfl rfl j_a30 rfl rfl (fun σ5 => ?_)
  refine j_iconst (pc' := 29) (x := (0 : Int32)) rfl rfl rfl ?_
  refine j_istore_n (pc' := 30) (L' := [some (.ref 30), some (.ref 22), some (.ref 29), some (.int (0 : Int32))]) rfl rfl rfl ?_
  refine j_wk [true, true, false, true] (L' := [some (.ref 30), some (.ref 22), none, some (.int (0 : Int32))]) rfl ?_
  refine j_q1 (l_X9_begin_30_30_22_29 hd τ j_F (0 : Int32) σ5) (fun σ6 => ?_)
  show j_J true τ M_cX9_begin d 58 [none, none, none, none] [] σ6 _ _
  exact j_ret rfl rfl rfl (fun _ h => h)

theorem c_X6_awareOf_29_22 (l2 : Int32) (σ : j_G) : j_K true 1 66 [.ref 29, .ref 22, .int l2] σ (f_X6_awareOf 26 29 l2 σ) (j_Pi σ) := by
  refine j_mkK (M := M_cX6_awareOf) (L := [some (.ref 29), some (.ref 22), some (.int l2), none]) (m := 1) t_66 rfl (j_rcvO j_a29 rfl) rfl (fun d hd τ => ?_)
  unfold f_X6_awareOf
  refine j_aload_n (pc' := 1) rfl rfl rfl ?_
  refine j_iload_n (pc' := 2) rfl rfl rfl ?_
  refine j_callTi (pc' := 5) (ai := 41) (vs := [.ref 22, .int l2]) (rest := []) rfl rfl (fun _ _ => rfl) (c_X4_has l2 σ) (j_dd rfl hd) rfl ?_
  refine j_two (pT := 8) (pF := 10) (L1 := [some (.ref 29), some (.ref 22), some (.int l2), none]) (st1 := []) (fun o kT kF => ?_) (fun h5 => ?_) (fun h5 => ?_)
  · refine j_ifne (t := 10) (pc' := 8) rfl rfl rfl (fun h6 => ?_) (fun h6 => ?_)
    · exact kF h6
    · exact kT h6
  · refine j_iconst (pc' := 9) (x := (-1 : Int32)) rfl rfl rfl ?_
    exact j_ret rfl rfl rfl (fun _ h => h)
  · refine j_aload_n (pc' := 11) rfl rfl rfl ?_
    refine j_gfr (pc' := 14) (x := 26) rfl rfl j_a22 rfl rfl ?_
    refine j_iload_n (pc' := 15) rfl rfl rfl ?_
    refine j_iald (pc' := 16) rfl rfl j_a26 ?_
    refine j_aload_n (pc' := 17) rfl rfl rfl ?_
    refine j_gfi (pc' := 20) rfl rfl j_a29 rfl ?_
    refine j_iadd (pc' := 21) rfl rfl ?_
    refine j_leti (fun v1 => ?_)
    refine j_istore_n (pc' := 22) (L' := [some (.ref 29), some (.ref 22), some (.int l2), some (.int v1)]) rfl rfl rfl ?_
    refine j_aload_n (pc' := 23) rfl rfl rfl ?_
    refine j_gfi (pc' := 26) rfl rfl j_a29 rfl ?_
    refine j_two (pT := 29) (pF := 31) (L1 := [some (.ref 29), some (.ref 22), some (.int l2), some (.int v1)]) (st1 := []) (fun o kT kF => ?_) (fun h3 => ?_) (fun h3 => ?_)
    · refine j_ifgt (t := 31) (pc' := 29) rfl rfl rfl (fun h4 => ?_) (fun h4 => ?_)
      · exact kF (fun z => z h4)
      · exact kT h4
    · refine j_iload_n (pc' := 30) rfl rfl rfl ?_
      exact j_ret rfl rfl rfl (fun _ h => h)
    · refine j_iload_n (pc' := 32) rfl rfl rfl ?_
      refine j_aload_n (pc' := 33) rfl rfl rfl ?_
      refine j_iload_n (pc' := 34) rfl rfl rfl ?_
      refine j_aload_n (pc' := 35) rfl rfl rfl ?_
      refine j_gfi (pc' := 38) rfl rfl j_a29 rfl ?_
      refine j_isub (pc' := 39) rfl rfl ?_
      refine j_callTi (pc' := 42) (ai := 41) (vs := [.ref 22, .int (l2 - (σ.1 29 3))]) (rest := [.int v1]) rfl rfl (fun _ _ => rfl) (c_X4_has (l2 - (σ.1 29 3)) σ) (j_dd rfl hd) rfl ?_
      refine j_q1 (Φl := (fun r Q => j_Tr true τ M_cX6_awareOf d 60 [none, none, none, none] [.int r, .int v1] σ Q)) ?_ (fun v2 => ?_)
      · refine j_two (pT := 45) (pF := 59) (L1 := [some (.ref 29), some (.ref 22), some (.int l2), some (.int v1)]) (st1 := [.int v1]) (fun o kT kF => ?_) (fun h1 => ?_) (fun h1 => ?_)
        · refine j_ifeq (t := 59) (pc' := 45) rfl rfl rfl (fun h2 => ?_) (fun h2 => ?_)
          · exact kF (fun z => z h2)
          · exact kT h2
        · refine j_aload_n (pc' := 46) rfl rfl rfl ?_
          refine j_gfr (pc' := 49) (x := 26) rfl rfl j_a22 rfl rfl ?_
          refine j_iload_n (pc' := 50) rfl rfl rfl ?_
          refine j_aload_n (pc' := 51) rfl rfl rfl ?_
          refine j_gfi (pc' := 54) rfl rfl j_a29 rfl ?_
          refine j_isub (pc' := 55) rfl rfl ?_
          refine j_iald (pc' := 56) rfl rfl j_a26 ?_
          refine j_goto (t := 60) rfl rfl ?_
          refine j_wk [false, false, false, false] (L' := [none, none, none, none]) rfl ?_
          exact j_end (fun _ h => h)
        · refine j_iconst (pc' := 60) (x := (0 : Int32)) rfl rfl rfl ?_
          refine j_wk [false, false, false, false] (L' := [none, none, none, none]) rfl ?_
          exact j_end (fun _ h => h)
      show j_J true τ M_cX6_awareOf d 60 [none, none, none, none] [.int v2, .int v1] σ _ _
      refine j_min (pc' := 63) rfl rfl rfl ?_
      exact j_ret rfl rfl rfl (fun _ h => h)

theorem c_X6_paceIn_29 (l1 : Int32) (σ : j_G) : j_K true 0 65 [.ref 29, .int l1] σ (f_X6_paceIn 29 l1 σ) (j_Pi σ) := by
  refine j_mkK (M := M_cX6_paceIn) (L := [some (.ref 29), some (.int l1)]) (m := 0) t_65 rfl (j_rcvO j_a29 rfl) rfl (fun d hd τ => ?_)
  unfold f_X6_paceIn
  refine j_aload_n (pc' := 1) rfl rfl rfl ?_
  refine j_gfi (pc' := 4) rfl rfl j_a29 rfl ?_
  refine j_two (pT := 7) (pF := 21) (L1 := [some (.ref 29), some (.int l1)]) (st1 := []) (fun o kT kF => ?_) (fun h1 => ?_) (fun h1 => ?_)
  · refine j_ifle (t := 21) (pc' := 7) rfl rfl rfl (fun h2 => ?_) (fun h2 => ?_)
    · exact kF h2
    · exact kT h2
  · refine j_aload_n (pc' := 8) rfl rfl rfl ?_
    refine j_gfi (pc' := 11) rfl rfl j_a29 rfl ?_
    refine j_iload_n (pc' := 12) rfl rfl rfl ?_
    refine j_aload_n (pc' := 13) rfl rfl rfl ?_
    refine j_gfi (pc' := 16) rfl rfl j_a29 rfl ?_
    refine j_idiv (pc' := 17) rfl rfl ?_
    refine j_iadd (pc' := 18) rfl rfl ?_
    refine j_goto (t := 25) rfl rfl ?_
    exact j_ret rfl rfl rfl (fun _ h => h)
  · refine j_aload_n (pc' := 22) rfl rfl rfl ?_
    refine j_gfi (pc' := 25) rfl rfl j_a29 rfl ?_
    exact j_ret rfl rfl rfl (fun _ h => h)

theorem c_X6_there_29_1 (l2 : Int32) (l3 : Int32) (l4 : Int32) (σ : j_G) : j_K true 1 67 [.ref 29, .ref 1, .int l2, .int l3, .int l4] σ (f_X6_there 29 l2 l3 l4 σ) (j_Pi σ) := by
  refine j_mkK (M := M_cX6_there) (L := [some (.ref 29), some (.ref 1), some (.int l2), some (.int l3), some (.int l4)]) (m := 0) t_67 rfl (j_rcvO j_a29 rfl) rfl (fun d hd τ => ?_)
  unfold f_X6_there
  refine j_iload (pc' := 2) rfl rfl rfl ?_
  refine j_aload_n (pc' := 3) rfl rfl rfl ?_
  refine j_iload_n (pc' := 4) rfl rfl rfl ?_
  refine j_iload_n (pc' := 5) rfl rfl rfl ?_
  refine j_callPi (pc' := 8) (ai := 18) (vs := [.ref 1, .int l2, .int l3]) (rest := [.int l4]) rfl rfl (fun _ _ => rfl) (c_X2_apart l2 l3 σ) (j_dd rfl hd) rfl (fun v1 => ?_)
  refine j_aload_n (pc' := 9) rfl rfl rfl ?_
  refine j_iload (pc' := 11) rfl rfl rfl ?_
  refine j_callPi (pc' := 14) (ai := 65) (vs := [.ref 29, .int l4]) (rest := [.int v1, .int l4]) rfl rfl (fun _ _ => rfl) (c_X6_paceIn_29 l4 σ) (j_dd rfl hd) rfl (fun v2 => ?_)
  refine j_imul (pc' := 15) rfl rfl ?_
  refine j_iadd (pc' := 16) rfl rfl ?_
  exact j_ret rfl rfl rfl (fun _ h => h)

theorem c_X9_strike_30_1_22_29 (l4 : Int32) (l5 : Int32) (σ : j_G) : j_K true 2 105 [.ref 30, .ref 1, .ref 22, .ref 29, .int l4, .int l5] σ (f_X9_strike 30 26 29 33 34 31 32 l4 l5 σ) j_Ri := by
  refine j_mkK (M := M_cX9_strike) (L := [some (.ref 30), some (.ref 1), some (.ref 22), some (.ref 29), some (.int l4), some (.int l5), none, none]) (m := 2) t_105 rfl (j_rcvO j_a30 rfl) rfl (fun d hd τ => ?_)
  unfold f_X9_strike
  refine j_aload_n (pc' := 1) rfl rfl rfl ?_
  refine j_gfi (pc' := 4) rfl rfl j_a30 rfl ?_
  refine j_aload_n (pc' := 5) rfl rfl rfl ?_
  refine j_aload_n (pc' := 6) rfl rfl rfl ?_
  refine j_iload (pc' := 8) rfl rfl rfl ?_
  refine j_callPi (pc' := 11) (ai := 66) (vs := [.ref 29, .ref 22, .int l4]) (rest := [.int (σ.1 30 8)]) rfl rfl (fun _ _ => rfl) (c_X6_awareOf_29_22 l4 σ) (j_dd rfl hd) rfl (fun v1 => ?_)
  refine j_max (pc' := 14) rfl rfl rfl ?_
  refine j_leti (fun v2 => ?_)
  refine j_istore (pc' := 16) (L' := [some (.ref 30), some (.ref 1), some (.ref 22), some (.ref 29), some (.int l4), some (.int l5), some (.int v2), none]) rfl rfl rfl ?_
  refine j_aload_n (pc' := 17) rfl rfl rfl ?_
  refine j_iload (pc' := 19) rfl rfl rfl ?_
  refine j_aload_n (pc' := 20) rfl rfl rfl ?_
  refine j_aload_n (pc' := 21) rfl rfl rfl ?_
  refine j_aload_n (pc' := 22) rfl rfl rfl ?_
  refine j_gfi (pc' := 25) rfl rfl j_a30 rfl ?_
  refine j_iload (pc' := 27) rfl rfl rfl ?_
  refine j_iload (pc' := 29) rfl rfl rfl ?_
  refine j_callPi (pc' := 32) (ai := 67) (vs := [.ref 29, .ref 1, .int (σ.1 30 7), .int l5, .int v2]) (rest := [.int l4, .ref 22]) rfl rfl (fun _ _ => rfl) (c_X6_there_29_1 (σ.1 30 7) l5 v2 σ) (j_dd rfl hd) rfl (fun v3 => ?_)
  refine j_callPi (pc' := 35) (ai := 52) (vs := [.ref 22, .int l4, .int v3]) (rest := []) rfl rfl (fun _ _ => rfl) (c_X4_strike l4 v3 σ) (j_dd rfl hd) rfl (fun v4 => ?_)
  refine j_istore (pc' := 37) (L' := [some (.ref 30), some (.ref 1), some (.ref 22), some (.ref 29), some (.int l4), some (.int l5), some (.int v2), some (.int v4)]) rfl rfl rfl ?_
  refine j_iload (pc' := 39) rfl rfl rfl ?_
  refine j_iconst (pc' := 40) (x := (-1 : Int32)) rfl rfl rfl ?_
  refine j_two (pT := 55) (pF := 57) (L1 := [some (.ref 30), some (.ref 1), some (.ref 22), some (.ref 29), some (.int l4), some (.int l5), some (.int v2), some (.int v4)]) (st1 := []) (fun o kT kF => ?_) (fun h1 => ?_) (fun h1 => ?_)
  · refine j_iceq (t := 55) (pc' := 43) rfl rfl rfl (fun h2 => ?_) (fun h2 => ?_)
    · exact kT (Or.inl h2)
    · refine j_aload_n (pc' := 44) rfl rfl rfl ?_
      refine j_gfi (pc' := 47) rfl rfl j_a30 rfl ?_
      refine j_aload_n (pc' := 48) rfl rfl rfl ?_
      refine j_gfr (pc' := 51) (x := 33) rfl rfl j_a30 rfl rfl ?_
      refine j_alen (pc' := 52) (v := (120 : Int32)) rfl rfl j_a33 rfl ?_
      refine j_iclt (t := 57) (pc' := 55) rfl rfl rfl (fun h3 => ?_) (fun h3 => ?_)
      · exact kF (fun z => z.elim h2 (fun z => z h3))
      · exact kT (Or.inr (h3))
  · refine j_iconst (pc' := 56) (x := (0 : Int32)) rfl rfl rfl ?_
    exact j_ret rfl rfl rfl (fun _ h => h)
  · refine j_aload_n (pc' := 58) rfl rfl rfl ?_
    refine j_gfr (pc' := 61) (x := 33) rfl rfl j_a30 rfl rfl ?_
    refine j_aload_n (pc' := 62) rfl rfl rfl ?_
    refine j_gfi (pc' := 65) rfl rfl j_a30 rfl ?_
    refine j_iload (pc' := 67) rfl rfl rfl ?_
    refine j_iast (pc' := 68) rfl rfl j_a33 (fun σ5 => ?_)
    refine j_aload_n (pc' := 69) rfl rfl rfl ?_
    refine j_gfr (pc' := 72) (x := 34) rfl rfl j_a30 rfl rfl ?_
    refine j_aload_n (pc' := 73) rfl rfl rfl ?_
    refine j_gfi (pc' := 76) rfl rfl j_a30 rfl ?_
    refine j_iload (pc' := 78) rfl rfl rfl ?_
    refine j_iast (pc' := 79) rfl rfl j_a34 (fun σ6 => ?_)
    refine j_aload_n (pc' := 80) rfl rfl rfl ?_
    refine j_dup (pc' := 81) rfl rfl rfl ?_
    refine j_gfi (pc' := 84) rfl rfl j_a30 rfl ?_
    refine j_iconst (pc' := 85) (x := (1 : Int32)) rfl rfl rfl ?_
    refine j_iadd (pc' := 86) rfl rfl ?_
    refine j_pfi (pc' := 89) rfl rfl j_a30 rfl rfl (fun σ7 => ?_)
    refine j_aload_n (pc' := 90) rfl rfl rfl ?_
    refine j_gfr (pc' := 93) (x := 31) rfl rfl j_a30 rfl rfl ?_
    refine j_iload (pc' := 95) rfl rfl rfl ?_
    refine j_iload (pc' := 97) rfl rfl rfl ?_
    refine j_iast (pc' := 98) rfl rfl j_a31 (fun σ8 => ?_)
    refine j_aload_n (pc' := 99) rfl rfl rfl ?_
    refine j_gfr (pc' := 102) (x := 32) rfl rfl j_a30 rfl rfl ?_
    refine j_iload (pc' := 104) rfl rfl rfl ?_
    refine j_dup2 (pc' := 105) rfl rfl rfl rfl ?_
    refine j_iald (pc' := 106) rfl rfl j_a32 ?_
    refine j_iconst (pc' := 107) (x := (1 : Int32)) rfl rfl rfl ?_
    refine j_iadd (pc' := 108) rfl rfl ?_
    refine j_iast (pc' := 109) rfl rfl j_a32 (fun σ9 => ?_)
    refine j_aload_n (pc' := 110) rfl rfl rfl ?_
    refine j_dup (pc' := 111) rfl rfl rfl ?_
    refine j_gfi (pc' := 114) rfl rfl j_a30 rfl ?_
    refine j_aload_n (pc' := 115) rfl rfl rfl ?_
    refine j_aload_n (pc' := 116) rfl rfl rfl ?_
    refine j_gfi (pc' := 119) rfl rfl j_a30 rfl ?_
    refine j_iload (pc' := 121) rfl rfl rfl ?_
    refine j_callPi (pc' := 124) (ai := 18) (vs := [.ref 1, .int (σ9.1 30 7), .int l5]) (rest := [.int (σ9.1 30 1), .ref 30]) rfl rfl (fun _ _ => rfl) (c_X2_apart (σ9.1 30 7) l5 σ9) (j_dd rfl hd) rfl (fun v10 => ?_)
    refine j_iadd (pc' := 125) rfl rfl ?_
    refine j_pfi (pc' := 128) rfl rfl j_a30 rfl rfl (fun σ11 => ?_)
    refine j_aload_n (pc' := 129) rfl rfl rfl ?_
    refine j_iload (pc' := 131) rfl rfl rfl ?_
    refine j_pfi (pc' := 134) rfl rfl j_a30 rfl rfl (fun σ12 => ?_)
    refine j_aload_n (pc' := 135) rfl rfl rfl ?_
    refine j_iload (pc' := 137) rfl rfl rfl ?_
    refine j_iconst (pc' := 138) (x := (1 : Int32)) rfl rfl rfl ?_
    refine j_iadd (pc' := 139) rfl rfl ?_
    refine j_pfi (pc' := 142) rfl rfl j_a30 rfl rfl (fun σ13 => ?_)
    refine j_iconst (pc' := 143) (x := (1 : Int32)) rfl rfl rfl ?_
    exact j_ret rfl rfl rfl (fun _ h => h)

theorem c_X9_goFor_30_1_22_29 (l4 : Int32) (l5 : Int32) (σ : j_G) : j_K true 3 103 [.ref 30, .ref 1, .ref 22, .ref 29, .int l4, .int l5] σ (f_X9_goFor 23 24 30 26 29 33 34 31 32 l4 l5 σ) j_Rv := by
  refine j_mkK (M := M_cX9_goFor) (L := [some (.ref 30), some (.ref 1), some (.ref 22), some (.ref 29), some (.int l4), some (.int l5), none, none, none, none, none]) (m := 5) t_103 rfl (j_rcvO j_a30 rfl) rfl (fun d hd τ => ?_)
  unfold f_X9_goFor
  refine j_aload_n (pc' := 1) rfl rfl rfl ?_
  refine j_gfr (pc' := 4) (x := 23) rfl rfl j_a22 rfl rfl ?_
  refine j_iload (pc' := 6) rfl rfl rfl ?_
  refine j_iald (pc' := 7) rfl rfl j_a23 ?_
  refine j_iload (pc' := 9) rfl rfl rfl ?_
  refine j_callTi (pc' := 12) (ai := 104) (vs := [.int (σ.1 23 (l4).toNatClampNeg), .int l5]) (rest := []) rfl rfl (fun _ _ => rfl) (c_X9_among (σ.1 23 (l4).toNatClampNeg) l5 σ) (j_dd rfl hd) rfl ?_
  refine j_leti (fun v1 => ?_)
  refine j_istore (pc' := 14) (L' := [some (.ref 30), some (.ref 1), some (.ref 22), some (.ref 29), some (.int l4), some (.int l5), some (.int v1), none, none, none, none]) rfl rfl rfl ?_
  refine j_aload_n (pc' := 15) rfl rfl rfl ?_
  refine j_gfr (pc' := 18) (x := 24) rfl rfl j_a22 rfl rfl ?_
  refine j_iload (pc' := 20) rfl rfl rfl ?_
  refine j_iald (pc' := 21) rfl rfl j_a24 ?_
  refine j_iload (pc' := 23) rfl rfl rfl ?_
  refine j_callTi (pc' := 26) (ai := 104) (vs := [.int (σ.1 24 (l4).toNatClampNeg), .int l5]) (rest := []) rfl rfl (fun _ _ => rfl) (c_X9_among (σ.1 24 (l4).toNatClampNeg) l5 σ) (j_dd rfl hd) rfl ?_
  refine j_leti (fun v2 => ?_)
  refine j_istore (pc' := 28) (L' := [some (.ref 30), some (.ref 1), some (.ref 22), some (.ref 29), some (.int l4), some (.int l5), some (.int v1), some (.int v2), none, none, none]) rfl rfl rfl ?_
  refine j_iload (pc' := 30) rfl rfl rfl ?_
  refine j_iconst (pc' := 31) (x := (-1 : Int32)) rfl rfl rfl ?_
  refine j_q1 (Φl := (fun r Q => j_Tr true τ M_cX9_goFor d 68 [some (.ref 30), some (.ref 1), some (.ref 22), some (.ref 29), some (.int l4), none, some (.int v1), some (.int v2), none, none, none] [.int r] σ Q)) ?_ (fun v3 => ?_)
  · refine j_two (pT := 34) (pF := 63) (L1 := [some (.ref 30), some (.ref 1), some (.ref 22), some (.ref 29), some (.int l4), some (.int l5), some (.int v1), some (.int v2), none, none, none]) (st1 := []) (fun o kT kF => ?_) (fun h5 => ?_) (fun h5 => ?_)
    · refine j_iceq (t := 63) (pc' := 34) rfl rfl rfl (fun h6 => ?_) (fun h6 => ?_)
      · exact kF (fun z => z h6)
      · exact kT h6
    · refine j_iload (pc' := 36) rfl rfl rfl ?_
      refine j_iconst (pc' := 37) (x := (-1 : Int32)) rfl rfl rfl ?_
      refine j_jn (P := (fun k => j_J true τ M_cX9_goFor d 67 [some (.ref 30), some (.ref 1), some (.ref 22), some (.ref 29), some (.int l4), none, some (.int v1), some (.int v2), none, none, none] [] σ (k ) (fun r Q => j_Tr true τ M_cX9_goFor d 68 [some (.ref 30), some (.ref 1), some (.ref 22), some (.ref 29), some (.int l4), none, some (.int v1), some (.int v2), none, none, none] [.int r] σ Q))) ?_ (fun k4 k4_h => ?_)
      · refine j_iconst (pc' := 68) (x := (0 : Int32)) rfl rfl rfl ?_
        exact j_end (fun _ h => h)
      · refine j_two (pT := 40) (pF := 67) (L1 := [some (.ref 30), some (.ref 1), some (.ref 22), some (.ref 29), some (.int l4), some (.int l5), some (.int v1), some (.int v2), none, none, none]) (st1 := []) (fun o kT kF => ?_) (fun h3 => ?_) (fun h3 => ?_)
        · refine j_iceq (t := 67) (pc' := 40) rfl rfl rfl (fun h4 => ?_) (fun h4 => ?_)
          · exact kF (fun z => z h4)
          · exact kT h4
        · refine j_aload_n (pc' := 41) rfl rfl rfl ?_
          refine j_aload_n (pc' := 42) rfl rfl rfl ?_
          refine j_gfi (pc' := 45) rfl rfl j_a30 rfl ?_
          refine j_iload (pc' := 47) rfl rfl rfl ?_
          refine j_callPi (pc' := 50) (ai := 18) (vs := [.ref 1, .int (σ.1 30 7), .int v2]) (rest := []) rfl rfl (fun _ _ => rfl) (c_X2_apart (σ.1 30 7) v2 σ) (j_dd rfl hd) rfl (fun v5 => ?_)
          refine j_aload_n (pc' := 51) rfl rfl rfl ?_
          refine j_aload_n (pc' := 52) rfl rfl rfl ?_
          refine j_gfi (pc' := 55) rfl rfl j_a30 rfl ?_
          refine j_iload (pc' := 57) rfl rfl rfl ?_
          refine j_callPi (pc' := 60) (ai := 18) (vs := [.ref 1, .int (σ.1 30 7), .int v1]) (rest := [.int v5]) rfl rfl (fun _ _ => rfl) (c_X2_apart (σ.1 30 7) v1 σ) (j_dd rfl hd) rfl (fun v6 => ?_)
          refine j_two (pT := 63) (pF := 67) (L1 := [some (.ref 30), some (.ref 1), some (.ref 22), some (.ref 29), some (.int l4), some (.int l5), some (.int v1), some (.int v2), none, none, none]) (st1 := []) (fun o kT kF => ?_) (fun h1 => ?_) (fun h1 => ?_)
          · refine j_icge (t := 67) (pc' := 63) rfl rfl rfl (fun h2 => ?_) (fun h2 => ?_)
            · exact kF h2
            · exact kT h2
          · refine j_iconst (pc' := 64) (x := (1 : Int32)) rfl rfl rfl ?_
            refine j_goto (t := 68) rfl rfl ?_
            refine j_wk [true, true, true, true, true, false, true, true, true, true, true] (L' := [some (.ref 30), some (.ref 1), some (.ref 22), some (.ref 29), some (.int l4), none, some (.int v1), some (.int v2), none, none, none]) rfl ?_
            exact j_end (fun _ h => h)
          · refine j_wk [true, true, true, true, true, false, true, true, true, true, true] (L' := [some (.ref 30), some (.ref 1), some (.ref 22), some (.ref 29), some (.int l4), none, some (.int v1), some (.int v2), none, none, none]) rfl ?_
            exact k4_h 
        · refine j_wk [true, true, true, true, true, false, true, true, true, true, true] (L' := [some (.ref 30), some (.ref 1), some (.ref 22), some (.ref 29), some (.int l4), none, some (.int v1), some (.int v2), none, none, none]) rfl ?_
          exact k4_h 
    · refine j_iconst (pc' := 64) (x := (1 : Int32)) rfl rfl rfl ?_
      refine j_goto (t := 68) rfl rfl ?_
      refine j_wk [true, true, true, true, true, false, true, true, true, true, true] (L' := [some (.ref 30), some (.ref 1), some (.ref 22), some (.ref 29), some (.int l4), none, some (.int v1), some (.int v2), none, none, none]) rfl ?_
      exact j_end (fun _ h => h)
  show j_J true τ M_cX9_goFor d 68 [some (.ref 30), some (.ref 1), some (.ref 22), some (.ref 29), some (.int l4), none, some (.int v1), some (.int v2), none, none, none] [.int v3] σ _ _
  refine j_istore (pc' := 70) (L' := [some (.ref 30), some (.ref 1), some (.ref 22), some (.ref 29), some (.int l4), none, some (.int v1), some (.int v2), some (.int v3), none, none]) rfl rfl rfl ?_
  refine j_iload (pc' := 72) rfl rfl rfl ?_
  refine j_ql (Φl := (fun r Q => j_Tr true τ M_cX9_goFor d 82 [some (.ref 30), some (.ref 1), some (.ref 22), some (.ref 29), some (.int l4), none, some (.int v1), some (.int v2), some (.int v3), none, none] [.int r] σ Q)) ?_ (fun v7 => ?_)
  · refine j_twoT (pT := 75) (pF := 80) (L1 := [some (.ref 30), some (.ref 1), some (.ref 22), some (.ref 29), some (.int l4), none, some (.int v1), some (.int v2), some (.int v3), none, none]) (st1 := []) (fun o kT kF => ?_) (fun h7 => ?_) (fun h7 => ?_)
    · refine j_ifeq (t := 80) (pc' := 75) rfl rfl rfl (fun h8 => ?_) (fun h8 => ?_)
      · exact kF (fun z => z h8)
      · exact kT h8
    · refine j_iload (pc' := 77) rfl rfl rfl ?_
      refine j_goto (t := 82) rfl rfl ?_
      exact j_end (fun _ h => h)
    · refine j_iload (pc' := 82) rfl rfl rfl ?_
      exact j_end (fun _ h => h)
  show j_J true τ M_cX9_goFor d 82 [some (.ref 30), some (.ref 1), some (.ref 22), some (.ref 29), some (.int l4), none, some (.int v1), some (.int v2), some (.int v3), none, none] [.int v7] σ _ _
  refine j_istore (pc' := 84) (L' := [some (.ref 30), some (.ref 1), some (.ref 22), some (.ref 29), some (.int l4), none, some (.int v1), some (.int v2), some (.int v3), some (.int v7), none]) rfl rfl rfl ?_
  refine j_iload (pc' := 86) rfl rfl rfl ?_
  refine j_ql (Φl := (fun r Q => j_Tr true τ M_cX9_goFor d 96 [some (.ref 30), some (.ref 1), some (.ref 22), some (.ref 29), some (.int l4), none, none, none, none, some (.int v7), none] [.int r] σ Q)) ?_ (fun v8 => ?_)
  · refine j_twoT (pT := 89) (pF := 94) (L1 := [some (.ref 30), some (.ref 1), some (.ref 22), some (.ref 29), some (.int l4), none, some (.int v1), some (.int v2), some (.int v3), some (.int v7), none]) (st1 := []) (fun o kT kF => ?_) (fun h9 => ?_) (fun h9 => ?_)
    · refine j_ifeq (t := 94) (pc' := 89) rfl rfl rfl (fun h10 => ?_) (fun h10 => ?_)
      · exact kF (fun z => z h10)
      · exact kT h10
    · refine j_iload (pc' := 91) rfl rfl rfl ?_
      refine j_goto (t := 96) rfl rfl ?_
      refine j_wk [true, true, true, true, true, true, false, false, false, true, true] (L' := [some (.ref 30), some (.ref 1), some (.ref 22), some (.ref 29), some (.int l4), none, none, none, none, some (.int v7), none]) rfl ?_
      exact j_end (fun _ h => h)
    · refine j_iload (pc' := 96) rfl rfl rfl ?_
      refine j_wk [true, true, true, true, true, true, false, false, false, true, true] (L' := [some (.ref 30), some (.ref 1), some (.ref 22), some (.ref 29), some (.int l4), none, none, none, none, some (.int v7), none]) rfl ?_
      exact j_end (fun _ h => h)
  show j_J true τ M_cX9_goFor d 96 [some (.ref 30), some (.ref 1), some (.ref 22), some (.ref 29), some (.int l4), none, none, none, none, some (.int v7), none] [.int v8] σ _ _
  refine j_istore (pc' := 98) (L' := [some (.ref 30), some (.ref 1), some (.ref 22), some (.ref 29), some (.int l4), none, none, none, none, some (.int v7), some (.int v8)]) rfl rfl rfl ?_
  refine j_iload (pc' := 100) rfl rfl rfl ?_
  refine j_iconst (pc' := 101) (x := (-1 : Int32)) rfl rfl rfl ?_
  refine j_two (pT := 104) (pF := 136) (L1 := [some (.ref 30), some (.ref 1), some (.ref 22), some (.ref 29), some (.int l4), none, none, none, none, some (.int v7), some (.int v8)]) (st1 := []) (fun o kT kF => ?_) (fun h14 => ?_) (fun h14 => ?_)
  · refine j_iceq (t := 136) (pc' := 104) rfl rfl rfl (fun h15 => ?_) (fun h15 => ?_)
    · exact kF (fun z => z h15)
    · exact kT h15
  · refine j_aload_n (pc' := 105) rfl rfl rfl ?_
    refine j_aload_n (pc' := 106) rfl rfl rfl ?_
    refine j_aload_n (pc' := 107) rfl rfl rfl ?_
    refine j_aload_n (pc' := 108) rfl rfl rfl ?_
    refine j_iload (pc' := 110) rfl rfl rfl ?_
    refine j_iload (pc' := 112) rfl rfl rfl ?_
    refine j_callRi (pc' := 115) (ai := 105) (vs := [.ref 30, .ref 1, .ref 22, .ref 29, .int l4, .int v7]) (rest := []) rfl rfl (fun _ _ => rfl) (c_X9_strike_30_1_22_29 l4 v7 σ) (j_dd rfl hd) rfl (fun v10 σ9 => ?_)
    refine j_two (pT := 124) (pF := 136) (L1 := [some (.ref 30), some (.ref 1), some (.ref 22), some (.ref 29), some (.int l4), none, none, none, none, some (.int v7), some (.int v8)]) (st1 := []) (fun o kT kF => ?_) (fun h11 => ?_) (fun h11 => ?_)
    · refine j_ifeq (t := 136) (pc' := 118) rfl rfl rfl (fun h12 => ?_) (fun h12 => ?_)
      · exact kF (fun z => z.1 h12)
      · refine j_iload (pc' := 120) rfl rfl rfl ?_
        refine j_iconst (pc' := 121) (x := (-1 : Int32)) rfl rfl rfl ?_
        refine j_iceq (t := 136) (pc' := 124) rfl rfl rfl (fun h13 => ?_) (fun h13 => ?_)
        · exact kF (fun z => (fun z => z h13) z.2)
        · exact kT (⟨h12, h13⟩)
    · refine j_aload_n (pc' := 125) rfl rfl rfl ?_
      refine j_aload_n (pc' := 126) rfl rfl rfl ?_
      refine j_aload_n (pc' := 127) rfl rfl rfl ?_
      refine j_aload_n (pc' := 128) rfl rfl rfl ?_
      refine j_iload (pc' := 130) rfl rfl rfl ?_
      refine j_iload (pc' := 132) rfl rfl rfl ?_
      refine j_callRi (pc' := 135) (ai := 105) (vs := [.ref 30, .ref 1, .ref 22, .ref 29, .int l4, .int v8]) (rest := []) rfl rfl (fun _ _ => rfl) (c_X9_strike_30_1_22_29 l4 v8 σ9) (j_dd rfl hd) rfl (fun v12 σ11 => ?_)
      refine j_pop (pc' := 136) rfl rfl rfl ?_
      exact j_ret rfl rfl rfl (fun _ h => h)
    · exact j_ret rfl rfl rfl (fun _ h => h)
  · exact j_ret rfl rfl rfl (fun _ h => h)

theorem l_X9_good_9_30_1_22_29 {d : Nat} (hd : 4 ≤ d) (τ : j_G) (l4 : Int32) : ∀ (n : Nat) (l5 : Int32) (σ : j_G), j_J true τ M_cX9_good d 9 [some (.ref 30), some (.ref 1), some (.ref 22), some (.ref 29), some (.int l4), some (.int l5)] [] σ (p_X9_good_9 22 25 23 24 30 26 29 33 34 31 32 l4 n l5 σ) (fun r Q => j_Tr true τ M_cX9_good d 45 [some (.ref 30), none, none, none, none, none] [] r Q) := by
  intro n
  induction n with
  | zero => intro l5 σ; exact j_none
  | succ n ih =>
    intro l5 σ
    unfold p_X9_good_9
    refine j_iload (pc' := 11) rfl rfl rfl ?_
    refine j_aload_n (pc' := 12) rfl rfl rfl ?_
    refine j_gfi (pc' := 15) rfl rfl j_a22 rfl ?_
    refine j_two (pT := 18) (pF := 45) (L1 := [some (.ref 30), some (.ref 1), some (.ref 22), some (.ref 29), some (.int l4), some (.int l5)]) (st1 := []) (fun o kT kF => ?_) (fun h3 => ?_) (fun h3 => ?_)
    · refine j_icge (t := 45) (pc' := 18) rfl rfl rfl (fun h4 => ?_) (fun h4 => ?_)
      · exact kF h4
      · exact kT h4
    · refine j_aload_n (pc' := 19) rfl rfl rfl ?_
      refine j_gfr (pc' := 22) (x := 25) rfl rfl j_a22 rfl rfl ?_
      refine j_iload (pc' := 24) rfl rfl rfl ?_
      refine j_iald (pc' := 25) rfl rfl j_a25 ?_
      refine j_q1 (Φl := (fun r Q => j_Tr true τ M_cX9_good d 39 [some (.ref 30), some (.ref 1), some (.ref 22), some (.ref 29), some (.int l4), some (.int l5)] [] r Q)) ?_ (fun σ1 => ?_)
      · refine j_two (pT := 28) (pF := 39) (L1 := [some (.ref 30), some (.ref 1), some (.ref 22), some (.ref 29), some (.int l4), some (.int l5)]) (st1 := []) (fun o kT kF => ?_) (fun h1 => ?_) (fun h1 => ?_)
        · refine j_ifne (t := 39) (pc' := 28) rfl rfl rfl (fun h2 => ?_) (fun h2 => ?_)
          · exact kF h2
          · exact kT h2
        · refine j_aload_n (pc' := 29) rfl rfl rfl ?_
          refine j_aload_n (pc' := 30) rfl rfl rfl ?_
          refine j_aload_n (pc' := 31) rfl rfl rfl ?_
          refine j_aload_n (pc' := 32) rfl rfl rfl ?_
          refine j_iload (pc' := 34) rfl rfl rfl ?_
          refine j_iload (pc' := 36) rfl rfl rfl ?_
          refine j_callRv (pc' := 39) (ai := 103) (vs := [.ref 30, .ref 1, .ref 22, .ref 29, .int l5, .int l4]) (rest := []) rfl rfl (fun _ _ => rfl) (c_X9_goFor_30_1_22_29 l5 l4 σ) (j_dd rfl hd) rfl (fun σ2 => ?_)
          exact j_end (fun _ h => h)
        · exact j_end (fun _ h => h)
      show j_J true τ M_cX9_good d 39 [some (.ref 30), some (.ref 1), some (.ref 22), some (.ref 29), some (.int l4), some (.int l5)] [] σ1 _ _
      refine j_iincx (pc' := 42) (y := (1 : Int32)) (L' := [some (.ref 30), some (.ref 1), some (.ref 22), some (.ref 29), some (.int l4), some (.int (l5 + (1 : Int32)))]) rfl rfl rfl rfl rfl ?_
      refine j_goto (t := 9) rfl rfl ?_
      exact ih (l5 + (1 : Int32)) σ1
    · refine j_wk [true, false, false, false, false, false] (L' := [some (.ref 30), none, none, none, none, none]) rfl ?_
      exact j_end (fun _ h => h)

theorem c_X9_good_30_1_22_29 (l4 : Int32) (σ : j_G) : j_K true 4 100 [.ref 30, .ref 1, .ref 22, .ref 29, .int l4] σ (f_X9_good 30 29 22 31 32 25 23 24 26 33 34 l4 σ) j_Ri := by
  refine j_mkK (M := M_cX9_good) (L := [some (.ref 30), some (.ref 1), some (.ref 22), some (.ref 29), some (.int l4), none]) (m := 1) t_100 rfl (j_rcvO j_a30 rfl) rfl (fun d hd τ => ?_)
  unfold f_X9_good
  refine j_aload_n (pc' := 1) rfl rfl rfl ?_
  refine j_aload_n (pc' := 2) rfl rfl rfl ?_
  refine j_aload_n (pc' := 3) rfl rfl rfl ?_
  refine j_callRv (pc' := 6) (ai := 102) (vs := [.ref 30, .ref 22, .ref 29]) (rest := []) rfl rfl (fun _ _ => rfl) (c_X9_begin_30_22_29  σ) (j_dd rfl hd) rfl (fun σ1 => ?_)
  refine j_iconst (pc' := 7) (x := (0 : Int32)) rfl rfl rfl ?_
  refine j_istore (pc' := 9) (L' := [some (.ref 30), some (.ref 1), some (.ref 22), some (.ref 29), some (.int l4), some (.int (0 : Int32))]) rfl rfl rfl ?_
  refine j_q1 (l_X9_good_9_30_1_22_29 hd τ l4 j_F (0 : Int32) σ1) (fun σ2 => ?_)
  show j_J true τ M_cX9_good d 45 [some (.ref 30), none, none, none, none, none] [] σ2 _ _
  refine j_aload_n (pc' := 46) rfl rfl rfl ?_
  refine j_gfi (pc' := 49) rfl rfl j_a30 rfl ?_
  exact j_ret rfl rfl rfl (fun _ h => h)

noncomputable def p_X11_two_77 (l3 : Int32) (l4 : Int32) (l5 : Int32) : Nat → Int32 → Int32 → Int32 → j_G → Option (Int32 × Int32 × j_G)
  | 0, _, _, _, _ => none
  | n + 1, l6, l7, l8, σ =>
    if (¬ l4 < l8) ∧ (l6 < l5) then (j_b3 (if ¬ (l8 &&& (l4 ^^^ (-1 : Int32))) = 0 then (some (l6, l7, σ)) else (j_b2 (f_X9_good 30 28 22 31 32 25 23 24 26 33 34 l8 σ) fun v5 σ4 =>
    j_b1 (f_X4_goodIn (l4 &&& (l8 ^^^ (-1 : Int32))) σ4) fun v6 =>
    if l6 < (v5 + v6) then (j_b2 (f_X9_good 30 29 22 31 32 25 23 24 26 33 34 (l4 &&& (l8 ^^^ (-1 : Int32))) σ4) fun v8 σ7 =>
    j_lt (v5 + v8) fun v9 =>
    if l6 < v9 then (some (v9, l8, σ7)) else (some (l6, l7, σ7))) else (some (l6, l7, σ4)))) fun v1 v2 σ3 =>
    p_X11_two_77 l3 l4 l5 n v1 v2 (l8 + (1 : Int32)) σ3) else (some (l6, l7, σ))

noncomputable def f_X11_two (l1 : Int32) (l2 : Int32) (l3 : Int32) (σ : j_G) : Option (Int32 × j_G) :=
  if (¬ l3 < 0) ∧ ((¬ (1 : Int32) < l3) ∧ ((¬ l1 = l2) ∧ (¬ (f_X2_isPlayer l2 σ) = 0))) then (j_b2 (f_X11_makeReady l1 σ) fun v2 σ1 =>
  if v2 = 0 then (some ((-2 : Int32), σ1)) else (j_b1 (f_X6_take 29 l2 σ1) fun σ3 =>
  j_b1 (f_X4_goodHoles σ3) fun v4 =>
  j_b1 (f_X4_goodIn v4 σ3) fun v5 =>
  j_b3 (p_X11_two_77 l3 v4 v5 j_F (-1 : Int32) (0 : Int32) (0 : Int32) σ3) fun v6 v7 σ8 =>
  if l3 = 0 then (some (v6, σ8)) else (some (v7, σ8)))) else (some ((-2 : Int32), σ))
theorem l_X11_two_77 {d : Nat} (hd : 5 ≤ d) (τ : j_G) (l3 : Int32) (l4 : Int32) (l5 : Int32) : ∀ (n : Nat) (l6 : Int32) (l7 : Int32) (l8 : Int32) (σ : j_G), j_J true τ M_cX11_two d 77 [some (.ref 0), none, none, some (.int l3), some (.int l4), some (.int l5), some (.int l6), some (.int l7), some (.int l8), none] [] σ (p_X11_two_77 l3 l4 l5 n l6 l7 l8 σ) (fun r Q => j_Tr true τ M_cX11_two d 201 [none, none, none, some (.int l3), none, none, some (.int r.1), some (.int r.2.1), none, none] [] r.2.2 Q) := by
  intro n
  induction n with
  | zero => intro l6 l7 l8 σ; exact j_none
  | succ n ih =>
    intro l6 l7 l8 σ
    unfold p_X11_two_77
    refine j_iload (pc' := 79) rfl rfl rfl ?_
    refine j_iload (pc' := 81) rfl rfl rfl ?_
    refine j_two (pT := 91) (pF := 201) (L1 := [some (.ref 0), none, none, some (.int l3), some (.int l4), some (.int l5), some (.int l6), some (.int l7), some (.int l8), none]) (st1 := []) (fun o kT kF => ?_) (fun h7 => ?_) (fun h7 => ?_)
    · refine j_icgt (t := 201) (pc' := 84) rfl rfl rfl (fun h8 => ?_) (fun h8 => ?_)
      · exact kF (fun z => z.1 h8)
      · refine j_iload (pc' := 86) rfl rfl rfl ?_
        refine j_iload (pc' := 88) rfl rfl rfl ?_
        refine j_icge (t := 201) (pc' := 91) rfl rfl rfl (fun h9 => ?_) (fun h9 => ?_)
        · exact kF (fun z => (h9) z.2)
        · exact kT (⟨h8, h9⟩)
    · refine j_iload (pc' := 93) rfl rfl rfl ?_
      refine j_iload (pc' := 95) rfl rfl rfl ?_
      refine j_iconst (pc' := 96) (x := (-1 : Int32)) rfl rfl rfl ?_
      refine j_ixor (pc' := 97) rfl rfl ?_
      refine j_iand (pc' := 98) rfl rfl ?_
      refine j_q3 (Φl := (fun r Q => j_Tr true τ M_cX11_two d 195 [some (.ref 0), none, none, some (.int l3), some (.int l4), some (.int l5), some (.int r.1), some (.int r.2.1), some (.int l8), none] [] r.2.2 Q)) ?_ (fun v1 v2 σ3 => ?_)
      · refine j_two (pT := 101) (pF := 104) (L1 := [some (.ref 0), none, none, some (.int l3), some (.int l4), some (.int l5), some (.int l6), some (.int l7), some (.int l8), none]) (st1 := []) (fun o kT kF => ?_) (fun h5 => ?_) (fun h5 => ?_)
        · refine j_ifeq (t := 104) (pc' := 101) rfl rfl rfl (fun h6 => ?_) (fun h6 => ?_)
          · exact kF (fun z => z h6)
          · exact kT h6
        · refine j_goto (t := 195) rfl rfl ?_
          exact j_end (fun _ h => h)
        · refine j_aload_n (pc' := 105) rfl rfl rfl ?_
          refine j_gfr (pc' := 108) (x := 30) rfl rfl j_a0 rfl rfl ?_
          refine j_aload_n (pc' := 109) rfl rfl rfl ?_
          refine j_gfr (pc' := 112) (x := 1) rfl rfl j_a0 rfl rfl ?_
          refine j_aload_n (pc' := 113) rfl rfl rfl ?_
          refine j_gfr (pc' := 116) (x := 22) rfl rfl j_a0 rfl rfl ?_
          refine j_aload_n (pc' := 117) rfl rfl rfl ?_
          refine j_gfr (pc' := 120) (x := 28) rfl rfl j_a0 rfl rfl ?_
          refine j_iload (pc' := 122) rfl rfl rfl ?_
          refine j_callRi (pc' := 125) (ai := 100) (vs := [.ref 30, .ref 1, .ref 22, .ref 28, .int l8]) (rest := []) rfl rfl (fun _ _ => rfl) (c_X9_good_30_1_22_28 l8 σ) (j_dd rfl hd) rfl (fun v5 σ4 => ?_)
          refine j_istore (pc' := 127) (L' := [some (.ref 0), none, none, some (.int l3), some (.int l4), some (.int l5), some (.int l6), some (.int l7), some (.int l8), some (.int v5)]) rfl rfl rfl ?_
          refine j_iload (pc' := 129) rfl rfl rfl ?_
          refine j_aload_n (pc' := 130) rfl rfl rfl ?_
          refine j_gfr (pc' := 133) (x := 22) rfl rfl j_a0 rfl rfl ?_
          refine j_iload (pc' := 135) rfl rfl rfl ?_
          refine j_iload (pc' := 137) rfl rfl rfl ?_
          refine j_iconst (pc' := 138) (x := (-1 : Int32)) rfl rfl rfl ?_
          refine j_ixor (pc' := 139) rfl rfl ?_
          refine j_iand (pc' := 140) rfl rfl ?_
          refine j_callPi (pc' := 143) (ai := 51) (vs := [.ref 22, .int (l4 &&& (l8 ^^^ (-1 : Int32)))]) (rest := [.int v5]) rfl rfl (fun _ _ => rfl) (c_X4_goodIn (l4 &&& (l8 ^^^ (-1 : Int32))) σ4) (j_dd rfl hd) rfl (fun v6 => ?_)
          refine j_iadd (pc' := 144) rfl rfl ?_
          refine j_iload (pc' := 146) rfl rfl rfl ?_
          refine j_two (pT := 149) (pF := 195) (L1 := [some (.ref 0), none, none, some (.int l3), some (.int l4), some (.int l5), some (.int l6), some (.int l7), some (.int l8), some (.int v5)]) (st1 := []) (fun o kT kF => ?_) (fun h3 => ?_) (fun h3 => ?_)
          · refine j_icle (t := 195) (pc' := 149) rfl rfl rfl (fun h4 => ?_) (fun h4 => ?_)
            · exact kF h4
            · exact kT h4
          · refine j_iload (pc' := 151) rfl rfl rfl ?_
            refine j_aload_n (pc' := 152) rfl rfl rfl ?_
            refine j_gfr (pc' := 155) (x := 30) rfl rfl j_a0 rfl rfl ?_
            refine j_aload_n (pc' := 156) rfl rfl rfl ?_
            refine j_gfr (pc' := 159) (x := 1) rfl rfl j_a0 rfl rfl ?_
            refine j_aload_n (pc' := 160) rfl rfl rfl ?_
            refine j_gfr (pc' := 163) (x := 22) rfl rfl j_a0 rfl rfl ?_
            refine j_aload_n (pc' := 164) rfl rfl rfl ?_
            refine j_gfr (pc' := 167) (x := 29) rfl rfl j_a0 rfl rfl ?_
            refine j_iload (pc' := 169) rfl rfl rfl ?_
            refine j_iload (pc' := 171) rfl rfl rfl ?_
            refine j_iconst (pc' := 172) (x := (-1 : Int32)) rfl rfl rfl ?_
            refine j_ixor (pc' := 173) rfl rfl ?_
            refine j_iand (pc' := 174) rfl rfl ?_
            refine j_callRi (pc' := 177) (ai := 100) (vs := [.ref 30, .ref 1, .ref 22, .ref 29, .int (l4 &&& (l8 ^^^ (-1 : Int32)))]) (rest := [.int v5]) rfl rfl (fun _ _ => rfl) (c_X9_good_30_1_22_29 (l4 &&& (l8 ^^^ (-1 : Int32))) σ4) (j_dd rfl hd) rfl (fun v8 σ7 => ?_)
            refine j_iadd (pc' := 178) rfl rfl ?_
            refine j_leti (fun v9 => ?_)
            refine j_istore (pc' := 180) (L' := [some (.ref 0), none, none, some (.int l3), some (.int l4), some (.int l5), some (.int l6), some (.int l7), some (.int l8), some (.int v9)]) rfl rfl rfl ?_
            refine j_iload (pc' := 182) rfl rfl rfl ?_
            refine j_iload (pc' := 184) rfl rfl rfl ?_
            refine j_two (pT := 187) (pF := 195) (L1 := [some (.ref 0), none, none, some (.int l3), some (.int l4), some (.int l5), some (.int l6), some (.int l7), some (.int l8), some (.int v9)]) (st1 := []) (fun o kT kF => ?_) (fun h1 => ?_) (fun h1 => ?_)
            · refine j_icle (t := 195) (pc' := 187) rfl rfl rfl (fun h2 => ?_) (fun h2 => ?_)
              · exact kF h2
              · exact kT h2
            · refine j_iload (pc' := 189) rfl rfl rfl ?_
              refine j_istore (pc' := 191) (L' := [some (.ref 0), none, none, some (.int l3), some (.int l4), some (.int l5), some (.int v9), some (.int l7), some (.int l8), some (.int v9)]) rfl rfl rfl ?_
              refine j_iload (pc' := 193) rfl rfl rfl ?_
              refine j_istore (pc' := 195) (L' := [some (.ref 0), none, none, some (.int l3), some (.int l4), some (.int l5), some (.int v9), some (.int l8), some (.int l8), some (.int v9)]) rfl rfl rfl ?_
              refine j_wk [true, true, true, true, true, true, true, true, true, false] (L' := [some (.ref 0), none, none, some (.int l3), some (.int l4), some (.int l5), some (.int v9), some (.int l8), some (.int l8), none]) rfl ?_
              exact j_end (fun _ h => h)
            · refine j_wk [true, true, true, true, true, true, true, true, true, false] (L' := [some (.ref 0), none, none, some (.int l3), some (.int l4), some (.int l5), some (.int l6), some (.int l7), some (.int l8), none]) rfl ?_
              exact j_end (fun _ h => h)
          · refine j_wk [true, true, true, true, true, true, true, true, true, false] (L' := [some (.ref 0), none, none, some (.int l3), some (.int l4), some (.int l5), some (.int l6), some (.int l7), some (.int l8), none]) rfl ?_
            exact j_end (fun _ h => h)
      show j_J true τ M_cX11_two d 195 [some (.ref 0), none, none, some (.int l3), some (.int l4), some (.int l5), some (.int v1), some (.int v2), some (.int l8), none] [] σ3 _ _
      refine j_iincx (pc' := 198) (y := (1 : Int32)) (L' := [some (.ref 0), none, none, some (.int l3), some (.int l4), some (.int l5), some (.int v1), some (.int v2), some (.int (l8 + (1 : Int32))), none]) rfl rfl rfl rfl rfl ?_
      refine j_goto (t := 77) rfl rfl ?_
      exact ih v1 v2 (l8 + (1 : Int32)) σ3
    · refine j_wk [false, true, true, true, false, false, true, true, false, true] (L' := [none, none, none, some (.int l3), none, none, some (.int l6), some (.int l7), none, none]) rfl ?_
      exact j_end (fun _ h => h)

theorem c_X11_two (l1 : Int32) (l2 : Int32) (l3 : Int32) (σ : j_G) : j_K true 5 159 [.ref 0, .int l1, .int l2, .int l3] σ (f_X11_two l1 l2 l3 σ) j_Ri := by
  refine j_mkK (M := M_cX11_two) (L := [some (.ref 0), some (.int l1), some (.int l2), some (.int l3), none, none, none, none, none, none]) (m := 6) t_159 rfl (j_rcvO j_a0 rfl) rfl (fun d hd τ => ?_)
  unfold f_X11_two
  refine j_iload_n (pc' := 1) rfl rfl rfl ?_
  refine j_two (pT := 25) (pF := 33) (L1 := [some (.ref 0), some (.int l1), some (.int l2), some (.int l3), none, none, none, none, none, none]) (st1 := []) (fun o kT kF => ?_) (fun h5 => ?_) (fun h5 => ?_)
  · refine j_iflt (t := 33) (pc' := 4) rfl rfl rfl (fun h6 => ?_) (fun h6 => ?_)
    · exact kF (fun z => z.1 h6)
    · refine j_iload_n (pc' := 5) rfl rfl rfl ?_
      refine j_iconst (pc' := 6) (x := (1 : Int32)) rfl rfl rfl ?_
      refine j_icgt (t := 33) (pc' := 9) rfl rfl rfl (fun h7 => ?_) (fun h7 => ?_)
      · exact kF (fun z => (fun z => z.1 h7) z.2)
      · refine j_iload_n (pc' := 10) rfl rfl rfl ?_
        refine j_iload_n (pc' := 11) rfl rfl rfl ?_
        refine j_iceq (t := 33) (pc' := 14) rfl rfl rfl (fun h8 => ?_) (fun h8 => ?_)
        · exact kF (fun z => (fun z => (fun z => z.1 h8) z.2) z.2)
        · refine j_aload_n (pc' := 15) rfl rfl rfl ?_
          refine j_gfr (pc' := 18) (x := 1) rfl rfl j_a0 rfl rfl ?_
          refine j_iload_n (pc' := 19) rfl rfl rfl ?_
          refine j_callTi (pc' := 22) (ai := 15) (vs := [.ref 1, .int l2]) (rest := []) rfl rfl (fun _ _ => rfl) (c_X2_isPlayer l2 σ) (j_dd rfl hd) rfl ?_
          refine j_ifeq (t := 33) (pc' := 25) rfl rfl rfl (fun h9 => ?_) (fun h9 => ?_)
          · exact kF (fun z => (fun z => (fun z => (fun z => z h9) z.2) z.2) z.2)
          · exact kT (⟨h6, ⟨h7, ⟨h8, h9⟩⟩⟩)
  · refine j_aload_n (pc' := 26) rfl rfl rfl ?_
    refine j_iload_n (pc' := 27) rfl rfl rfl ?_
    refine j_callRi (pc' := 30) (ai := 186) (vs := [.ref 0, .int l1]) (rest := []) rfl rfl (fun _ _ => rfl) (c_X11_makeReady l1 σ) (j_dd rfl hd) rfl (fun v2 σ1 => ?_)
    refine j_two (pT := 33) (pF := 36) (L1 := [some (.ref 0), some (.int l1), some (.int l2), some (.int l3), none, none, none, none, none, none]) (st1 := []) (fun o kT kF => ?_) (fun h3 => ?_) (fun h3 => ?_)
    · refine j_ifne (t := 36) (pc' := 33) rfl rfl rfl (fun h4 => ?_) (fun h4 => ?_)
      · exact kF h4
      · exact kT h4
    · refine j_bipush (pc' := 35) (x := (-2 : Int32)) rfl rfl rfl ?_
      exact j_ret rfl rfl rfl (fun _ h => h)
    · refine j_aload_n (pc' := 37) rfl rfl rfl ?_
      refine j_gfr (pc' := 40) (x := 29) rfl rfl j_a0 rfl rfl ?_
      refine j_aload_n (pc' := 41) rfl rfl rfl ?_
      refine j_gfr (pc' := 44) (x := 1) rfl rfl j_a0 rfl rfl ?_
      refine j_iload_n (pc' := 45) rfl rfl rfl ?_
      refine j_callRv (pc' := 48) (ai := 64) (vs := [.ref 29, .ref 1, .int l2]) (rest := []) rfl rfl (fun _ _ => rfl) (c_X6_take_29_1 l2 σ1) (j_dd rfl hd) rfl (fun σ3 => ?_)
      refine j_aload_n (pc' := 49) rfl rfl rfl ?_
      refine j_gfr (pc' := 52) (x := 22) rfl rfl j_a0 rfl rfl ?_
      refine j_callPi (pc' := 55) (ai := 50) (vs := [.ref 22]) (rest := []) rfl rfl (fun _ _ => rfl) (c_X4_goodHoles  σ3) (j_dd rfl hd) rfl (fun v4 => ?_)
      refine j_istore (pc' := 57) (L' := [some (.ref 0), some (.int l1), some (.int l2), some (.int l3), some (.int v4), none, none, none, none, none]) rfl rfl rfl ?_
      refine j_aload_n (pc' := 58) rfl rfl rfl ?_
      refine j_gfr (pc' := 61) (x := 22) rfl rfl j_a0 rfl rfl ?_
      refine j_iload (pc' := 63) rfl rfl rfl ?_
      refine j_callPi (pc' := 66) (ai := 51) (vs := [.ref 22, .int v4]) (rest := []) rfl rfl (fun _ _ => rfl) (c_X4_goodIn v4 σ3) (j_dd rfl hd) rfl (fun v5 => ?_)
      refine j_istore (pc' := 68) (L' := [some (.ref 0), some (.int l1), some (.int l2), some (.int l3), some (.int v4), some (.int v5), none, none, none, none]) rfl rfl rfl ?_
      refine j_iconst (pc' := 69) (x := (-1 : Int32)) rfl rfl rfl ?_
      refine j_istore (pc' := 71) (L' := [some (.ref 0), some (.int l1), some (.int l2), some (.int l3), some (.int v4), some (.int v5), some (.int (-1 : Int32)), none, none, none]) rfl rfl rfl ?_
      refine j_iconst (pc' := 72) (x := (0 : Int32)) rfl rfl rfl ?_
      refine j_istore (pc' := 74) (L' := [some (.ref 0), some (.int l1), some (.int l2), some (.int l3), some (.int v4), some (.int v5), some (.int (-1 : Int32)), some (.int (0 : Int32)), none, none]) rfl rfl rfl ?_
      refine j_iconst (pc' := 75) (x := (0 : Int32)) rfl rfl rfl ?_
      refine j_istore (pc' := 77) (L' := [some (.ref 0), some (.int l1), some (.int l2), some (.int l3), some (.int v4), some (.int v5), some (.int (-1 : Int32)), some (.int (0 : Int32)), some (.int (0 : Int32)), none]) rfl rfl rfl ?_
      refine j_wk [true, false, false, true, true, true, true, true, true, true] (L' := [some (.ref 0), none, none, some (.int l3), some (.int v4), some (.int v5), some (.int (-1 : Int32)), some (.int (0 : Int32)), some (.int (0 : Int32)), none]) rfl ?_
      refine j_q3 (l_X11_two_77 hd τ l3 v4 v5 j_F (-1 : Int32) (0 : Int32) (0 : Int32) σ3) (fun v6 v7 σ8 => ?_)
      show j_J true τ M_cX11_two d 201 [none, none, none, some (.int l3), none, none, some (.int v6), some (.int v7), none, none] [] σ8 _ _
      refine j_iload_n (pc' := 202) rfl rfl rfl ?_
      refine j_two (pT := 205) (pF := 210) (L1 := [none, none, none, some (.int l3), none, none, some (.int v6), some (.int v7), none, none]) (st1 := []) (fun o kT kF => ?_) (fun h1 => ?_) (fun h1 => ?_)
      · refine j_ifne (t := 210) (pc' := 205) rfl rfl rfl (fun h2 => ?_) (fun h2 => ?_)
        · exact kF h2
        · exact kT h2
      · refine j_iload (pc' := 207) rfl rfl rfl ?_
        refine j_goto (t := 212) rfl rfl ?_
        exact j_ret rfl rfl rfl (fun _ h => h)
      · refine j_iload (pc' := 212) rfl rfl rfl ?_
        exact j_ret rfl rfl rfl (fun _ h => h)
  · refine j_bipush (pc' := 35) (x := (-2 : Int32)) rfl rfl rfl ?_
    exact j_ret rfl rfl rfl (fun _ h => h)

noncomputable def f_X12_hitsOn (l1 : Int32) (l2 : Int32) (σ : j_G) : Option (Int32 × j_G) :=
  j_b1 (f_X12_asTold l1 σ) fun σ1 =>
  j_lt (j_si σ1 75 23 l2) fun σ2 =>
  j_b1 (f_X12_run σ2) fun σ3 =>
  some ((σ3.1 75 29), σ3)
theorem c_X12_hitsOn (l1 : Int32) (l2 : Int32) (σ : j_G) : j_K false 5 318 [.ref 75, .int l1, .int l2] σ (f_X12_hitsOn l1 l2 σ) j_Ri := by
  refine j_mkK (M := M_cX12_hitsOn) (L := [some (.ref 75), some (.int l1), some (.int l2)]) (m := 0) t_318 rfl (j_rcvO j_a75 rfl) rfl (fun d hd τ => ?_)
  unfold f_X12_hitsOn
  refine j_aload_n (pc' := 1) rfl rfl rfl ?_
  refine j_iload_n (pc' := 2) rfl rfl rfl ?_
  refine j_callRv (pc' := 5) (ai := 252) (vs := [.ref 75, .int l1]) (rest := []) rfl rfl (fun _ _ => rfl) (c_X12_asTold l1 σ) (j_dd rfl hd) rfl (fun σ1 => ?_)
  refine j_aload_n (pc' := 6) rfl rfl rfl ?_
  refine j_iload_n (pc' := 7) rfl rfl rfl ?_
  refine j_pfi (pc' := 10) rfl rfl j_a75 rfl rfl (fun σ2 => ?_)
  refine j_aload_n (pc' := 11) rfl rfl rfl ?_
  refine j_callRv (pc' := 14) (ai := 258) (vs := [.ref 75]) (rest := []) rfl rfl (fun _ _ => rfl) (c_X12_run  σ2) (j_dd rfl hd) rfl (fun σ3 => ?_)
  refine j_aload_n (pc' := 15) rfl rfl rfl ?_
  refine j_gfi (pc' := 18) rfl rfl j_a75 rfl ?_
  exact j_ret rfl rfl rfl (fun _ h => h)

noncomputable def p_X12_two_57 (l1 : Int32) (l2 : Int32) (l3 : Int32) (l4 : Int32) : Nat → Int32 → Int32 → Int32 → j_G → Option (Int32 × Int32 × j_G)
  | 0, _, _, _, _ => none
  | n + 1, l5, l6, l7, σ =>
    if ¬ l4 < l7 then (j_b2 (f_X12_hitsOn l1 l7 σ) fun v2 σ1 =>
    j_b2 (f_X12_hitsOn l2 (l4 &&& (l7 ^^^ (-1 : Int32))) σ1) fun v4 σ3 =>
    j_lt (v2 + v4) fun v5 =>
    j_lt (if ¬ l6 < v5 then ((l5, l6)) else ((l7, v5))) fun r8 =>
    p_X12_two_57 l1 l2 l3 l4 n (r8.1) (r8.2) (l7 + (1 : Int32)) σ3) else (some (l5, l6, σ))

noncomputable def f_X12_two (l1 : Int32) (l2 : Int32) (l3 : Int32) (σ : j_G) : Option (Int32 × j_G) :=
  j_b1 (f_X12_isPlayer l1 σ) fun v1 =>
  if ¬ v1 = 0 then (j_b1 (f_X12_isPlayer l2 σ) fun v2 =>
  if (v2 = 0) ∨ ((l1 = l2) ∨ ((f_X12_in (l3).toInt64 (0 : Int64) (1 : Int64)) = 0)) then (some ((-2 : Int32), σ)) else (j_b1 (f_X12_lay σ) fun σ3 =>
  j_b1 (f_X12_holes σ3) fun v4 =>
  j_lt (((1 : Int32) <<< (v4 &&& 31)) - (1 : Int32)) fun v5 =>
  j_b3 (p_X12_two_57 l1 l2 l3 v5 j_F (0 : Int32) (-1 : Int32) (0 : Int32) σ3) fun v6 v7 σ8 =>
  if l3 = 0 then (some (v7, σ8)) else (some (v6, σ8)))) else (some ((-2 : Int32), σ))
theorem l_X12_two_57 {d : Nat} (hd : 6 ≤ d) (τ : j_G) (l1 : Int32) (l2 : Int32) (l3 : Int32) (l4 : Int32) : ∀ (n : Nat) (l5 : Int32) (l6 : Int32) (l7 : Int32) (σ : j_G), j_J false τ M_cX12_two d 57 [some (.ref 75), some (.int l1), some (.int l2), some (.int l3), some (.int l4), some (.int l5), some (.int l6), some (.int l7), none] [] σ (p_X12_two_57 l1 l2 l3 l4 n l5 l6 l7 σ) (fun r Q => j_Tr false τ M_cX12_two d 110 [none, none, none, some (.int l3), none, some (.int r.1), some (.int r.2.1), none, none] [] r.2.2 Q) := by
  intro n
  induction n with
  | zero => intro l5 l6 l7 σ; exact j_none
  | succ n ih =>
    intro l5 l6 l7 σ
    unfold p_X12_two_57
    refine j_iload (pc' := 59) rfl rfl rfl ?_
    refine j_iload (pc' := 61) rfl rfl rfl ?_
    refine j_two (pT := 64) (pF := 110) (L1 := [some (.ref 75), some (.int l1), some (.int l2), some (.int l3), some (.int l4), some (.int l5), some (.int l6), some (.int l7), none]) (st1 := []) (fun o kT kF => ?_) (fun h3 => ?_) (fun h3 => ?_)
    · refine j_icgt (t := 110) (pc' := 64) rfl rfl rfl (fun h4 => ?_) (fun h4 => ?_)
      · exact kF (fun z => z h4)
      · exact kT h4
    · refine j_aload_n (pc' := 65) rfl rfl rfl ?_
      refine j_iload_n (pc' := 66) rfl rfl rfl ?_
      refine j_iload (pc' := 68) rfl rfl rfl ?_
      refine j_callRi (pc' := 71) (ai := 318) (vs := [.ref 75, .int l1, .int l7]) (rest := []) rfl rfl (fun _ _ => rfl) (c_X12_hitsOn l1 l7 σ) (j_dd rfl hd) rfl (fun v2 σ1 => ?_)
      refine j_aload_n (pc' := 72) rfl rfl rfl ?_
      refine j_iload_n (pc' := 73) rfl rfl rfl ?_
      refine j_iload (pc' := 75) rfl rfl rfl ?_
      refine j_iload (pc' := 77) rfl rfl rfl ?_
      refine j_iconst (pc' := 78) (x := (-1 : Int32)) rfl rfl rfl ?_
      refine j_ixor (pc' := 79) rfl rfl ?_
      refine j_iand (pc' := 80) rfl rfl ?_
      refine j_callRi (pc' := 83) (ai := 318) (vs := [.ref 75, .int l2, .int (l4 &&& (l7 ^^^ (-1 : Int32)))]) (rest := [.int v2]) rfl rfl (fun _ _ => rfl) (c_X12_hitsOn l2 (l4 &&& (l7 ^^^ (-1 : Int32))) σ1) (j_dd rfl hd) rfl (fun v4 σ3 => ?_)
      refine j_iadd (pc' := 84) rfl rfl ?_
      refine j_leti (fun v5 => ?_)
      refine j_istore (pc' := 86) (L' := [some (.ref 75), some (.int l1), some (.int l2), some (.int l3), some (.int l4), some (.int l5), some (.int l6), some (.int l7), some (.int v5)]) rfl rfl rfl ?_
      refine j_iload (pc' := 88) rfl rfl rfl ?_
      refine j_iload (pc' := 90) rfl rfl rfl ?_
      refine j_ql (Φl := (fun r Q => j_Tr false τ M_cX12_two d 104 [some (.ref 75), some (.int l1), some (.int l2), some (.int l3), some (.int l4), some (.int r.1), some (.int r.2), some (.int l7), none] [] σ3 Q)) ?_ (fun r8 => ?_)
      · refine j_twoT (pT := 93) (pF := 96) (L1 := [some (.ref 75), some (.int l1), some (.int l2), some (.int l3), some (.int l4), some (.int l5), some (.int l6), some (.int l7), some (.int v5)]) (st1 := []) (fun o kT kF => ?_) (fun h1 => ?_) (fun h1 => ?_)
        · refine j_icgt (t := 96) (pc' := 93) rfl rfl rfl (fun h2 => ?_) (fun h2 => ?_)
          · exact kF (fun z => z h2)
          · exact kT h2
        · refine j_goto (t := 104) rfl rfl ?_
          refine j_wk [true, true, true, true, true, true, true, true, false] (L' := [some (.ref 75), some (.int l1), some (.int l2), some (.int l3), some (.int l4), some (.int l5), some (.int l6), some (.int l7), none]) rfl ?_
          exact j_end (fun _ h => h)
        · refine j_iload (pc' := 98) rfl rfl rfl ?_
          refine j_istore (pc' := 100) (L' := [some (.ref 75), some (.int l1), some (.int l2), some (.int l3), some (.int l4), some (.int l5), some (.int v5), some (.int l7), some (.int v5)]) rfl rfl rfl ?_
          refine j_iload (pc' := 102) rfl rfl rfl ?_
          refine j_istore (pc' := 104) (L' := [some (.ref 75), some (.int l1), some (.int l2), some (.int l3), some (.int l4), some (.int l7), some (.int v5), some (.int l7), some (.int v5)]) rfl rfl rfl ?_
          refine j_wk [true, true, true, true, true, true, true, true, false] (L' := [some (.ref 75), some (.int l1), some (.int l2), some (.int l3), some (.int l4), some (.int l7), some (.int v5), some (.int l7), none]) rfl ?_
          exact j_end (fun _ h => h)
      show j_J false τ M_cX12_two d 104 [some (.ref 75), some (.int l1), some (.int l2), some (.int l3), some (.int l4), some (.int (r8.1)), some (.int (r8.2)), some (.int l7), none] [] σ3 _ _
      refine j_iincx (pc' := 107) (y := (1 : Int32)) (L' := [some (.ref 75), some (.int l1), some (.int l2), some (.int l3), some (.int l4), some (.int (r8.1)), some (.int (r8.2)), some (.int (l7 + (1 : Int32))), none]) rfl rfl rfl rfl rfl ?_
      refine j_goto (t := 57) rfl rfl ?_
      exact ih (r8.1) (r8.2) (l7 + (1 : Int32)) σ3
    · refine j_wk [false, false, false, true, false, true, true, false, true] (L' := [none, none, none, some (.int l3), none, some (.int l5), some (.int l6), none, none]) rfl ?_
      exact j_end (fun _ h => h)

theorem c_X12_two (l1 : Int32) (l2 : Int32) (l3 : Int32) (σ : j_G) : j_K false 6 319 [.ref 75, .int l1, .int l2, .int l3] σ (f_X12_two l1 l2 l3 σ) j_Ri := by
  refine j_mkK (M := M_cX12_two) (L := [some (.ref 75), some (.int l1), some (.int l2), some (.int l3), none, none, none, none, none]) (m := 5) t_319 rfl (j_rcvO j_a75 rfl) rfl (fun d hd τ => ?_)
  unfold f_X12_two
  refine j_aload_n (pc' := 1) rfl rfl rfl ?_
  refine j_iload_n (pc' := 2) rfl rfl rfl ?_
  refine j_callPi (pc' := 5) (ai := 205) (vs := [.ref 75, .int l1]) (rest := []) rfl rfl (fun _ _ => rfl) (c_X12_isPlayer l1 σ) (j_dd rfl hd) rfl (fun v1 => ?_)
  refine j_two (pT := 8) (pF := 31) (L1 := [some (.ref 75), some (.int l1), some (.int l2), some (.int l3), none, none, none, none, none]) (st1 := []) (fun o kT kF => ?_) (fun h7 => ?_) (fun h7 => ?_)
  · refine j_ifeq (t := 31) (pc' := 8) rfl rfl rfl (fun h8 => ?_) (fun h8 => ?_)
    · exact kF (fun z => z h8)
    · exact kT h8
  · refine j_aload_n (pc' := 9) rfl rfl rfl ?_
    refine j_iload_n (pc' := 10) rfl rfl rfl ?_
    refine j_callPi (pc' := 13) (ai := 205) (vs := [.ref 75, .int l2]) (rest := []) rfl rfl (fun _ _ => rfl) (c_X12_isPlayer l2 σ) (j_dd rfl hd) rfl (fun v2 => ?_)
    refine j_two (pT := 31) (pF := 34) (L1 := [some (.ref 75), some (.int l1), some (.int l2), some (.int l3), none, none, none, none, none]) (st1 := []) (fun o kT kF => ?_) (fun h3 => ?_) (fun h3 => ?_)
    · refine j_ifeq (t := 31) (pc' := 16) rfl rfl rfl (fun h4 => ?_) (fun h4 => ?_)
      · exact kT (Or.inl h4)
      · refine j_iload_n (pc' := 17) rfl rfl rfl ?_
        refine j_iload_n (pc' := 18) rfl rfl rfl ?_
        refine j_iceq (t := 31) (pc' := 21) rfl rfl rfl (fun h5 => ?_) (fun h5 => ?_)
        · exact kT (Or.inr (Or.inl h5))
        · refine j_iload_n (pc' := 22) rfl rfl rfl ?_
          refine j_i2l (pc' := 23) rfl rfl ?_
          refine j_lconst (pc' := 24) (x := (0 : Int64)) rfl rfl rfl ?_
          refine j_lconst (pc' := 25) (x := (1 : Int64)) rfl rfl rfl ?_
          refine j_callTi (pc' := 28) (ai := 196) (vs := [.long (l3).toInt64, .long (0 : Int64), .long (1 : Int64)]) (rest := []) rfl rfl (fun _ _ => rfl) (c_X12_in (l3).toInt64 (0 : Int64) (1 : Int64) σ) (j_dd rfl hd) rfl ?_
          refine j_ifne (t := 34) (pc' := 31) rfl rfl rfl (fun h6 => ?_) (fun h6 => ?_)
          · exact kF (fun z => z.elim h4 (fun z => z.elim h5 (h6)))
          · exact kT (Or.inr (Or.inr (h6)))
    · refine j_bipush (pc' := 33) (x := (-2 : Int32)) rfl rfl rfl ?_
      exact j_ret rfl rfl rfl (fun _ h => h)
    · refine j_aload_n (pc' := 35) rfl rfl rfl ?_
      refine j_callRv (pc' := 38) (ai := 237) (vs := [.ref 75]) (rest := []) rfl rfl (fun _ _ => rfl) (c_X12_lay  σ) (j_dd rfl hd) rfl (fun σ3 => ?_)
      refine j_iconst (pc' := 39) (x := (1 : Int32)) rfl rfl rfl ?_
      refine j_aload_n (pc' := 40) rfl rfl rfl ?_
      refine j_callPi (pc' := 43) (ai := 200) (vs := [.ref 75]) (rest := [.int (1 : Int32)]) rfl rfl (fun _ _ => rfl) (c_X12_holes  σ3) (j_dd rfl hd) rfl (fun v4 => ?_)
      refine j_ishl (pc' := 44) rfl rfl ?_
      refine j_iconst (pc' := 45) (x := (1 : Int32)) rfl rfl rfl ?_
      refine j_isub (pc' := 46) rfl rfl ?_
      refine j_leti (fun v5 => ?_)
      refine j_istore (pc' := 48) (L' := [some (.ref 75), some (.int l1), some (.int l2), some (.int l3), some (.int v5), none, none, none, none]) rfl rfl rfl ?_
      refine j_iconst (pc' := 49) (x := (0 : Int32)) rfl rfl rfl ?_
      refine j_istore (pc' := 51) (L' := [some (.ref 75), some (.int l1), some (.int l2), some (.int l3), some (.int v5), some (.int (0 : Int32)), none, none, none]) rfl rfl rfl ?_
      refine j_iconst (pc' := 52) (x := (-1 : Int32)) rfl rfl rfl ?_
      refine j_istore (pc' := 54) (L' := [some (.ref 75), some (.int l1), some (.int l2), some (.int l3), some (.int v5), some (.int (0 : Int32)), some (.int (-1 : Int32)), none, none]) rfl rfl rfl ?_
      refine j_iconst (pc' := 55) (x := (0 : Int32)) rfl rfl rfl ?_
      refine j_istore (pc' := 57) (L' := [some (.ref 75), some (.int l1), some (.int l2), some (.int l3), some (.int v5), some (.int (0 : Int32)), some (.int (-1 : Int32)), some (.int (0 : Int32)), none]) rfl rfl rfl ?_
      refine j_q3 (l_X12_two_57 hd τ l1 l2 l3 v5 j_F (0 : Int32) (-1 : Int32) (0 : Int32) σ3) (fun v6 v7 σ8 => ?_)
      show j_J false τ M_cX12_two d 110 [none, none, none, some (.int l3), none, some (.int v6), some (.int v7), none, none] [] σ8 _ _
      refine j_iload_n (pc' := 111) rfl rfl rfl ?_
      refine j_two (pT := 114) (pF := 119) (L1 := [none, none, none, some (.int l3), none, some (.int v6), some (.int v7), none, none]) (st1 := []) (fun o kT kF => ?_) (fun h1 => ?_) (fun h1 => ?_)
      · refine j_ifne (t := 119) (pc' := 114) rfl rfl rfl (fun h2 => ?_) (fun h2 => ?_)
        · exact kF h2
        · exact kT h2
      · refine j_iload (pc' := 116) rfl rfl rfl ?_
        refine j_goto (t := 121) rfl rfl ?_
        exact j_ret rfl rfl rfl (fun _ h => h)
      · refine j_iload (pc' := 121) rfl rfl rfl ?_
        exact j_ret rfl rfl rfl (fun _ h => h)
  · refine j_bipush (pc' := 33) (x := (-2 : Int32)) rfl rfl rfl ?_
    exact j_ret rfl rfl rfl (fun _ h => h)

noncomputable def f_X11_ticketsOfRun (σ : j_G) : Option Int32 :=
  if 0 < (σ.1 1 9) then (if (σ.1 1 9) = 0 then none else (
  some (((10 : Int32) * (σ.1 30 0)) / (σ.1 1 9)))) else (some (0 : Int32))
theorem c_X11_ticketsOfRun (σ : j_G) : j_K true 0 191 [.ref 0] σ (f_X11_ticketsOfRun σ) (j_Pi σ) := by
  refine j_mkK (M := M_cX11_ticketsOfRun) (L := [some (.ref 0)]) (m := 0) t_191 rfl (j_rcvO j_a0 rfl) rfl (fun d hd τ => ?_)
  unfold f_X11_ticketsOfRun
  refine j_aload_n (pc' := 1) rfl rfl rfl ?_
  refine j_gfr (pc' := 4) (x := 1) rfl rfl j_a0 rfl rfl ?_
  refine j_gfi (pc' := 7) rfl rfl j_a1 rfl ?_
  refine j_two (pT := 10) (pF := 31) (L1 := [some (.ref 0)]) (st1 := []) (fun o kT kF => ?_) (fun h1 => ?_) (fun h1 => ?_)
  · refine j_ifle (t := 31) (pc' := 10) rfl rfl rfl (fun h2 => ?_) (fun h2 => ?_)
    · exact kF h2
    · exact kT h2
  · refine j_bipush (pc' := 12) (x := (10 : Int32)) rfl rfl rfl ?_
    refine j_aload_n (pc' := 13) rfl rfl rfl ?_
    refine j_gfr (pc' := 16) (x := 30) rfl rfl j_a0 rfl rfl ?_
    refine j_gfi (pc' := 19) rfl rfl j_a30 rfl ?_
    refine j_imul (pc' := 20) rfl rfl ?_
    refine j_aload_n (pc' := 21) rfl rfl rfl ?_
    refine j_gfr (pc' := 24) (x := 1) rfl rfl j_a0 rfl rfl ?_
    refine j_gfi (pc' := 27) rfl rfl j_a1 rfl ?_
    refine j_idiv (pc' := 28) rfl rfl ?_
    refine j_goto (t := 32) rfl rfl ?_
    exact j_ret rfl rfl rfl (fun _ h => h)
  · refine j_iconst (pc' := 32) (x := (0 : Int32)) rfl rfl rfl ?_
    exact j_ret rfl rfl rfl (fun _ h => h)

noncomputable def f_X11_tickets (l1 : Int32) (σ : j_G) : Option (Int32 × j_G) :=
  j_b2 (f_X11_runOf l1 σ) fun v2 σ1 =>
  if ¬ v2 = 0 then (j_b1 (f_X11_ticketsOfRun σ1) fun v3 =>
  some (v3, σ1)) else (some ((-2 : Int32), σ1))
theorem c_X11_tickets (l1 : Int32) (σ : j_G) : j_K true 6 160 [.ref 0, .int l1] σ (f_X11_tickets l1 σ) j_Ri := by
  refine j_mkK (M := M_cX11_tickets) (L := [some (.ref 0), some (.int l1)]) (m := 0) t_160 rfl (j_rcvO j_a0 rfl) rfl (fun d hd τ => ?_)
  unfold f_X11_tickets
  refine j_aload_n (pc' := 1) rfl rfl rfl ?_
  refine j_iload_n (pc' := 2) rfl rfl rfl ?_
  refine j_callRi (pc' := 5) (ai := 187) (vs := [.ref 0, .int l1]) (rest := []) rfl rfl (fun _ _ => rfl) (c_X11_runOf l1 σ) (j_dd rfl hd) rfl (fun v2 σ1 => ?_)
  refine j_two (pT := 8) (pF := 15) (L1 := [some (.ref 0), some (.int l1)]) (st1 := []) (fun o kT kF => ?_) (fun h1 => ?_) (fun h1 => ?_)
  · refine j_ifeq (t := 15) (pc' := 8) rfl rfl rfl (fun h2 => ?_) (fun h2 => ?_)
    · exact kF (fun z => z h2)
    · exact kT h2
  · refine j_aload_n (pc' := 9) rfl rfl rfl ?_
    refine j_callPi (pc' := 12) (ai := 191) (vs := [.ref 0]) (rest := []) rfl rfl (fun _ _ => rfl) (c_X11_ticketsOfRun  σ1) (j_dd rfl hd) rfl (fun v3 => ?_)
    refine j_goto (t := 17) rfl rfl ?_
    exact j_ret rfl rfl rfl (fun _ h => h)
  · refine j_bipush (pc' := 17) (x := (-2 : Int32)) rfl rfl rfl ?_
    exact j_ret rfl rfl rfl (fun _ h => h)

noncomputable def f_X12_ticketsOf (l1 : Int32) (σ : j_G) : Option (Int32 × j_G) :=
  j_b1 (f_X12_runAsTold l1 σ) fun σ1 =>
  j_ix (11 : Int32) 116 (
  if (σ1.1 76 ((11 : Int32)).toNatClampNeg) = 0 then none else (
  some ((((10 : Int32) * (σ1.1 75 29)) / (σ1.1 76 ((11 : Int32)).toNatClampNeg)), σ1)))
theorem c_X12_ticketsOf (l1 : Int32) (σ : j_G) : j_K false 6 320 [.ref 75, .int l1] σ (f_X12_ticketsOf l1 σ) j_Ri := by
  refine j_mkK (M := M_cX12_ticketsOf) (L := [some (.ref 75), some (.int l1)]) (m := 0) t_320 rfl (j_rcvO j_a75 rfl) rfl (fun d hd τ => ?_)
  unfold f_X12_ticketsOf
  refine j_aload_n (pc' := 1) rfl rfl rfl ?_
  refine j_iload_n (pc' := 2) rfl rfl rfl ?_
  refine j_callRv (pc' := 5) (ai := 259) (vs := [.ref 75, .int l1]) (rest := []) rfl rfl (fun _ _ => rfl) (c_X12_runAsTold l1 σ) (j_dd rfl hd) rfl (fun σ1 => ?_)
  refine j_bipush (pc' := 7) (x := (10 : Int32)) rfl rfl rfl ?_
  refine j_aload_n (pc' := 8) rfl rfl rfl ?_
  refine j_gfi (pc' := 11) rfl rfl j_a75 rfl ?_
  refine j_imul (pc' := 12) rfl rfl ?_
  refine j_aload_n (pc' := 13) rfl rfl rfl ?_
  refine j_gfr (pc' := 16) (x := 76) rfl rfl j_a75 rfl rfl ?_
  refine j_bipush (pc' := 18) (x := (11 : Int32)) rfl rfl rfl ?_
  refine j_iald (pc' := 19) rfl rfl j_a76 ?_
  refine j_idiv (pc' := 20) rfl rfl ?_
  exact j_ret rfl rfl rfl (fun _ h => h)

noncomputable def f_X12_tickets (l1 : Int32) (σ : j_G) : Option (Int32 × j_G) :=
  j_b1 (f_X12_isPlayer l1 σ) fun v1 =>
  if ¬ v1 = 0 then (j_b2 (f_X12_ticketsOf l1 σ) fun v3 σ2 =>
  some (v3, σ2)) else (some ((-2 : Int32), σ))
theorem c_X12_tickets (l1 : Int32) (σ : j_G) : j_K false 7 321 [.ref 75, .int l1] σ (f_X12_tickets l1 σ) j_Ri := by
  refine j_mkK (M := M_cX12_tickets) (L := [some (.ref 75), some (.int l1)]) (m := 0) t_321 rfl (j_rcvO j_a75 rfl) rfl (fun d hd τ => ?_)
  unfold f_X12_tickets
  refine j_aload_n (pc' := 1) rfl rfl rfl ?_
  refine j_iload_n (pc' := 2) rfl rfl rfl ?_
  refine j_callPi (pc' := 5) (ai := 205) (vs := [.ref 75, .int l1]) (rest := []) rfl rfl (fun _ _ => rfl) (c_X12_isPlayer l1 σ) (j_dd rfl hd) rfl (fun v1 => ?_)
  refine j_two (pT := 8) (pF := 16) (L1 := [some (.ref 75), some (.int l1)]) (st1 := []) (fun o kT kF => ?_) (fun h1 => ?_) (fun h1 => ?_)
  · refine j_ifeq (t := 16) (pc' := 8) rfl rfl rfl (fun h2 => ?_) (fun h2 => ?_)
    · exact kF (fun z => z h2)
    · exact kT h2
  · refine j_aload_n (pc' := 9) rfl rfl rfl ?_
    refine j_iload_n (pc' := 10) rfl rfl rfl ?_
    refine j_callRi (pc' := 13) (ai := 320) (vs := [.ref 75, .int l1]) (rest := []) rfl rfl (fun _ _ => rfl) (c_X12_ticketsOf l1 σ) (j_dd rfl hd) rfl (fun v3 σ2 => ?_)
    refine j_goto (t := 18) rfl rfl ?_
    exact j_ret rfl rfl rfl (fun _ h => h)
  · refine j_bipush (pc' := 18) (x := (-2 : Int32)) rfl rfl rfl ?_
    exact j_ret rfl rfl rfl (fun _ h => h)

noncomputable def f_X11_prize (l1 : Int32) (σ : j_G) : Option (Int32 × j_G) :=
  j_b2 (f_X11_runOf l1 σ) fun v2 σ1 =>
  if v2 = 0 then (some ((-2 : Int32), σ1)) else (j_b1 (f_X11_ticketsOfRun σ1) fun v3 =>
  if 0 < v3 then (if v3 = 0 then none else (
  some (((((σ1.1 1 8) + v3) - (1 : Int32)) / v3), σ1))) else (some ((-1 : Int32), σ1)))
theorem c_X11_prize (l1 : Int32) (σ : j_G) : j_K true 6 161 [.ref 0, .int l1] σ (f_X11_prize l1 σ) j_Ri := by
  refine j_mkK (M := M_cX11_prize) (L := [some (.ref 0), some (.int l1), none]) (m := 1) t_161 rfl (j_rcvO j_a0 rfl) rfl (fun d hd τ => ?_)
  unfold f_X11_prize
  refine j_aload_n (pc' := 1) rfl rfl rfl ?_
  refine j_iload_n (pc' := 2) rfl rfl rfl ?_
  refine j_callRi (pc' := 5) (ai := 187) (vs := [.ref 0, .int l1]) (rest := []) rfl rfl (fun _ _ => rfl) (c_X11_runOf l1 σ) (j_dd rfl hd) rfl (fun v2 σ1 => ?_)
  refine j_two (pT := 8) (pF := 11) (L1 := [some (.ref 0), some (.int l1), none]) (st1 := []) (fun o kT kF => ?_) (fun h3 => ?_) (fun h3 => ?_)
  · refine j_ifne (t := 11) (pc' := 8) rfl rfl rfl (fun h4 => ?_) (fun h4 => ?_)
    · exact kF h4
    · exact kT h4
  · refine j_bipush (pc' := 10) (x := (-2 : Int32)) rfl rfl rfl ?_
    exact j_ret rfl rfl rfl (fun _ h => h)
  · refine j_aload_n (pc' := 12) rfl rfl rfl ?_
    refine j_callPi (pc' := 15) (ai := 191) (vs := [.ref 0]) (rest := []) rfl rfl (fun _ _ => rfl) (c_X11_ticketsOfRun  σ1) (j_dd rfl hd) rfl (fun v3 => ?_)
    refine j_istore_n (pc' := 16) (L' := [some (.ref 0), some (.int l1), some (.int v3)]) rfl rfl rfl ?_
    refine j_iload_n (pc' := 17) rfl rfl rfl ?_
    refine j_two (pT := 20) (pF := 36) (L1 := [some (.ref 0), some (.int l1), some (.int v3)]) (st1 := []) (fun o kT kF => ?_) (fun h1 => ?_) (fun h1 => ?_)
    · refine j_ifle (t := 36) (pc' := 20) rfl rfl rfl (fun h2 => ?_) (fun h2 => ?_)
      · exact kF h2
      · exact kT h2
    · refine j_aload_n (pc' := 21) rfl rfl rfl ?_
      refine j_gfr (pc' := 24) (x := 1) rfl rfl j_a0 rfl rfl ?_
      refine j_gfi (pc' := 27) rfl rfl j_a1 rfl ?_
      refine j_iload_n (pc' := 28) rfl rfl rfl ?_
      refine j_iadd (pc' := 29) rfl rfl ?_
      refine j_iconst (pc' := 30) (x := (1 : Int32)) rfl rfl rfl ?_
      refine j_isub (pc' := 31) rfl rfl ?_
      refine j_iload_n (pc' := 32) rfl rfl rfl ?_
      refine j_idiv (pc' := 33) rfl rfl ?_
      refine j_goto (t := 37) rfl rfl ?_
      exact j_ret rfl rfl rfl (fun _ h => h)
    · refine j_iconst (pc' := 37) (x := (-1 : Int32)) rfl rfl rfl ?_
      exact j_ret rfl rfl rfl (fun _ h => h)

noncomputable def f_X12_prize (l1 : Int32) (σ : j_G) : Option (Int32 × j_G) :=
  j_b1 (f_X12_isPlayer l1 σ) fun v1 =>
  if v1 = 0 then (some ((-2 : Int32), σ)) else (j_b2 (f_X12_ticketsOf l1 σ) fun v3 σ2 =>
  if v3 = 0 then (some ((-1 : Int32), σ2)) else (j_ix (10 : Int32) 116 (
  if v3 = 0 then none else (
  some (((((σ2.1 76 ((10 : Int32)).toNatClampNeg) + v3) - (1 : Int32)) / v3), σ2)))))
theorem c_X12_prize (l1 : Int32) (σ : j_G) : j_K false 7 322 [.ref 75, .int l1] σ (f_X12_prize l1 σ) j_Ri := by
  refine j_mkK (M := M_cX12_prize) (L := [some (.ref 75), some (.int l1), none]) (m := 1) t_322 rfl (j_rcvO j_a75 rfl) rfl (fun d hd τ => ?_)
  unfold f_X12_prize
  refine j_aload_n (pc' := 1) rfl rfl rfl ?_
  refine j_iload_n (pc' := 2) rfl rfl rfl ?_
  refine j_callPi (pc' := 5) (ai := 205) (vs := [.ref 75, .int l1]) (rest := []) rfl rfl (fun _ _ => rfl) (c_X12_isPlayer l1 σ) (j_dd rfl hd) rfl (fun v1 => ?_)
  refine j_two (pT := 8) (pF := 11) (L1 := [some (.ref 75), some (.int l1), none]) (st1 := []) (fun o kT kF => ?_) (fun h3 => ?_) (fun h3 => ?_)
  · refine j_ifne (t := 11) (pc' := 8) rfl rfl rfl (fun h4 => ?_) (fun h4 => ?_)
    · exact kF h4
    · exact kT h4
  · refine j_bipush (pc' := 10) (x := (-2 : Int32)) rfl rfl rfl ?_
    exact j_ret rfl rfl rfl (fun _ h => h)
  · refine j_aload_n (pc' := 12) rfl rfl rfl ?_
    refine j_iload_n (pc' := 13) rfl rfl rfl ?_
    refine j_callRi (pc' := 16) (ai := 320) (vs := [.ref 75, .int l1]) (rest := []) rfl rfl (fun _ _ => rfl) (c_X12_ticketsOf l1 σ) (j_dd rfl hd) rfl (fun v3 σ2 => ?_)
    refine j_istore_n (pc' := 17) (L' := [some (.ref 75), some (.int l1), some (.int v3)]) rfl rfl rfl ?_
    refine j_iload_n (pc' := 18) rfl rfl rfl ?_
    refine j_two (pT := 21) (pF := 25) (L1 := [some (.ref 75), some (.int l1), some (.int v3)]) (st1 := []) (fun o kT kF => ?_) (fun h1 => ?_) (fun h1 => ?_)
    · refine j_ifne (t := 25) (pc' := 21) rfl rfl rfl (fun h2 => ?_) (fun h2 => ?_)
      · exact kF h2
      · exact kT h2
    · refine j_iconst (pc' := 22) (x := (-1 : Int32)) rfl rfl rfl ?_
      refine j_goto (t := 38) rfl rfl ?_
      exact j_ret rfl rfl rfl (fun _ h => h)
    · refine j_aload_n (pc' := 26) rfl rfl rfl ?_
      refine j_gfr (pc' := 29) (x := 76) rfl rfl j_a75 rfl rfl ?_
      refine j_bipush (pc' := 31) (x := (10 : Int32)) rfl rfl rfl ?_
      refine j_iald (pc' := 32) rfl rfl j_a76 ?_
      refine j_iload_n (pc' := 33) rfl rfl rfl ?_
      refine j_iadd (pc' := 34) rfl rfl ?_
      refine j_iconst (pc' := 35) (x := (1 : Int32)) rfl rfl rfl ?_
      refine j_isub (pc' := 36) rfl rfl ?_
      refine j_iload_n (pc' := 37) rfl rfl rfl ?_
      refine j_idiv (pc' := 38) rfl rfl ?_
      exact j_ret rfl rfl rfl (fun _ h => h)

noncomputable def f_X11_whyNoBlows (l1 : Int32) (σ : j_G) : Option (Int32 × j_G) :=
  if ((f_X11_isSlot l1) = 0) ∨ ((f_X2_isTold σ) = 0) then (some ((-2 : Int32), σ)) else (if l1 = 0 then (if (f_X8_isMade 67 σ) = 0 then (some ((-6 : Int32), σ)) else (if (2 : Int32) = 0 then none else (
  if ((σ.1 67 0) - (σ.1 67 0) / (2 : Int32) * (2 : Int32)) = 0 then (j_b1 (f_X8_isBelow 67 68 (f_X2_holes 1 σ) (σ.1 1 4) σ) fun v1 =>
  if v1 = 0 then (some ((-2 : Int32), σ)) else (j_b1 (f_X4_deal (σ.1 5 1) σ) fun σ2 =>
  some ((0 : Int32), σ2))) else (some ((-2 : Int32), σ))))) else
  if l1 = 1 then (if (f_X8_isMade 69 σ) = 0 then (some ((-6 : Int32), σ)) else (if (2 : Int32) = 0 then none else (
  if ((σ.1 69 0) - (σ.1 69 0) / (2 : Int32) * (2 : Int32)) = 0 then (j_b1 (f_X8_isBelow 69 70 (f_X2_holes 1 σ) (σ.1 1 4) σ) fun v3 =>
  if v3 = 0 then (some ((-2 : Int32), σ)) else (j_b1 (f_X4_deal (σ.1 5 1) σ) fun σ4 =>
  some ((0 : Int32), σ4))) else (some ((-2 : Int32), σ))))) else
  if l1 = 2 then (if (f_X8_isMade 71 σ) = 0 then (some ((-6 : Int32), σ)) else (if (2 : Int32) = 0 then none else (
  if ((σ.1 71 0) - (σ.1 71 0) / (2 : Int32) * (2 : Int32)) = 0 then (j_b1 (f_X8_isBelow 71 72 (f_X2_holes 1 σ) (σ.1 1 4) σ) fun v5 =>
  if v5 = 0 then (some ((-2 : Int32), σ)) else (j_b1 (f_X4_deal (σ.1 5 1) σ) fun σ6 =>
  some ((0 : Int32), σ6))) else (some ((-2 : Int32), σ))))) else
  if l1 = 3 then (if (f_X8_isMade 73 σ) = 0 then (some ((-6 : Int32), σ)) else (if (2 : Int32) = 0 then none else (
  if ((σ.1 73 0) - (σ.1 73 0) / (2 : Int32) * (2 : Int32)) = 0 then (j_b1 (f_X8_isBelow 73 74 (f_X2_holes 1 σ) (σ.1 1 4) σ) fun v7 =>
  if v7 = 0 then (some ((-2 : Int32), σ)) else (j_b1 (f_X4_deal (σ.1 5 1) σ) fun σ8 =>
  some ((0 : Int32), σ8))) else (some ((-2 : Int32), σ))))) else
  none)
theorem c_X11_whyNoBlows (l1 : Int32) (σ : j_G) : j_K true 3 194 [.ref 0, .int l1] σ (f_X11_whyNoBlows l1 σ) j_Ri := by
  refine j_mkK (M := M_cX11_whyNoBlows) (L := [some (.ref 0), some (.int l1), none]) (m := 1) t_194 rfl (j_rcvO j_a0 rfl) rfl (fun d hd τ => ?_)
  unfold f_X11_whyNoBlows
  refine j_iload_n (pc' := 1) rfl rfl rfl ?_
  refine j_callTi (pc' := 4) (ai := 182) (vs := [.int l1]) (rest := []) rfl rfl (fun _ _ => rfl) (c_X11_isSlot l1 σ) (j_dd rfl hd) rfl ?_
  refine j_two (pT := 17) (pF := 20) (L1 := [some (.ref 0), some (.int l1), none]) (st1 := []) (fun o kT kF => ?_) (fun h29 => ?_) (fun h29 => ?_)
  · refine j_ifeq (t := 17) (pc' := 7) rfl rfl rfl (fun h30 => ?_) (fun h30 => ?_)
    · exact kT (Or.inl h30)
    · refine j_aload_n (pc' := 8) rfl rfl rfl ?_
      refine j_gfr (pc' := 11) (x := 1) rfl rfl j_a0 rfl rfl ?_
      refine j_callTi (pc' := 14) (ai := 11) (vs := [.ref 1]) (rest := []) rfl rfl (fun _ _ => rfl) (c_X2_isTold  σ) (j_dd rfl hd) rfl ?_
      refine j_ifne (t := 20) (pc' := 17) rfl rfl rfl (fun h31 => ?_) (fun h31 => ?_)
      · exact kF (fun z => z.elim h30 (h31))
      · exact kT (Or.inr (h31))
  · refine j_bipush (pc' := 19) (x := (-2 : Int32)) rfl rfl rfl ?_
    exact j_ret rfl rfl rfl (fun _ h => h)
  · refine j_aload_n (pc' := 21) rfl rfl rfl ?_
    refine j_gfr (pc' := 24) (x := 42) rfl rfl j_a0 rfl rfl ?_
    refine j_iload_n (pc' := 25) rfl rfl rfl ?_
    refine j_spl (k := (0 : Int32)) (fun h1 => ?_) (fun h1 => ?_)
    · subst h1
      refine j_aald (pc' := 26) (r := 67) rfl rfl j_a42 (by decide) rfl ?_
      refine j_astore_n (pc' := 27) (L' := [some (.ref 0), some (.int (0 : Int32)), some (.ref 67)]) rfl rfl rfl ?_
      refine j_aload_n (pc' := 28) rfl rfl rfl ?_
      refine j_callTi (pc' := 31) (ai := 91) (vs := [.ref 67]) (rest := []) rfl rfl (fun _ _ => rfl) (c_X8_isMade_67  σ) (j_dd rfl hd) rfl ?_
      refine j_two (pT := 34) (pF := 37) (L1 := [some (.ref 0), some (.int (0 : Int32)), some (.ref 67)]) (st1 := []) (fun o kT kF => ?_) (fun h6 => ?_) (fun h6 => ?_)
      · refine j_ifne (t := 37) (pc' := 34) rfl rfl rfl (fun h7 => ?_) (fun h7 => ?_)
        · exact kF h7
        · exact kT h7
      · refine j_bipush (pc' := 36) (x := (-6 : Int32)) rfl rfl rfl ?_
        exact j_ret rfl rfl rfl (fun _ h => h)
      · refine j_aload_n (pc' := 38) rfl rfl rfl ?_
        refine j_gfi (pc' := 41) rfl rfl j_a67 rfl ?_
        refine j_iconst (pc' := 42) (x := (2 : Int32)) rfl rfl rfl ?_
        refine j_irem (pc' := 43) rfl rfl ?_
        refine j_two (pT := 46) (pF := 67) (L1 := [some (.ref 0), some (.int (0 : Int32)), some (.ref 67)]) (st1 := []) (fun o kT kF => ?_) (fun h4 => ?_) (fun h4 => ?_)
        · refine j_ifne (t := 67) (pc' := 46) rfl rfl rfl (fun h5 => ?_) (fun h5 => ?_)
          · exact kF h5
          · exact kT h5
        · refine j_aload_n (pc' := 47) rfl rfl rfl ?_
          refine j_aload_n (pc' := 48) rfl rfl rfl ?_
          refine j_gfr (pc' := 51) (x := 1) rfl rfl j_a0 rfl rfl ?_
          refine j_callTi (pc' := 54) (ai := 12) (vs := [.ref 1]) (rest := [.ref 67]) rfl rfl (fun _ _ => rfl) (c_X2_holes_1  σ) (j_dd rfl hd) rfl ?_
          refine j_aload_n (pc' := 55) rfl rfl rfl ?_
          refine j_gfr (pc' := 58) (x := 1) rfl rfl j_a0 rfl rfl ?_
          refine j_gfi (pc' := 61) rfl rfl j_a1 rfl ?_
          refine j_callPi (pc' := 64) (ai := 95) (vs := [.ref 67, .int (f_X2_holes 1 σ), .int (σ.1 1 4)]) (rest := []) rfl rfl (fun _ _ => rfl) (c_X8_isBelow_67 (f_X2_holes 1 σ) (σ.1 1 4) σ) (j_dd rfl hd) rfl (fun v1 => ?_)
          refine j_two (pT := 67) (pF := 70) (L1 := [some (.ref 0), some (.int (0 : Int32)), some (.ref 67)]) (st1 := []) (fun o kT kF => ?_) (fun h2 => ?_) (fun h2 => ?_)
          · refine j_ifne (t := 70) (pc' := 67) rfl rfl rfl (fun h3 => ?_) (fun h3 => ?_)
            · exact kF h3
            · exact kT h3
          · refine j_bipush (pc' := 69) (x := (-2 : Int32)) rfl rfl rfl ?_
            exact j_ret rfl rfl rfl (fun _ h => h)
          · refine j_aload_n (pc' := 71) rfl rfl rfl ?_
            refine j_gfr (pc' := 74) (x := 22) rfl rfl j_a0 rfl rfl ?_
            refine j_aload_n (pc' := 75) rfl rfl rfl ?_
            refine j_gfr (pc' := 78) (x := 1) rfl rfl j_a0 rfl rfl ?_
            refine j_aload_n (pc' := 79) rfl rfl rfl ?_
            refine j_gfr (pc' := 82) (x := 1) rfl rfl j_a0 rfl rfl ?_
            refine j_gfr (pc' := 85) (x := 5) rfl rfl j_a1 rfl rfl ?_
            refine j_gfi (pc' := 88) rfl rfl j_a5 rfl ?_
            refine j_callRv (pc' := 91) (ai := 42) (vs := [.ref 22, .ref 1, .int (σ.1 5 1)]) (rest := []) rfl rfl (fun _ _ => rfl) (c_X4_deal (σ.1 5 1) σ) (j_dd rfl hd) rfl (fun σ2 => ?_)
            refine j_iconst (pc' := 92) (x := (0 : Int32)) rfl rfl rfl ?_
            exact j_ret rfl rfl rfl (fun _ h => h)
        · refine j_bipush (pc' := 69) (x := (-2 : Int32)) rfl rfl rfl ?_
          exact j_ret rfl rfl rfl (fun _ h => h)
    refine j_spl (k := (1 : Int32)) (fun h8 => ?_) (fun h8 => ?_)
    · subst h8
      refine j_aald (pc' := 26) (r := 69) rfl rfl j_a42 (by decide) rfl ?_
      refine j_astore_n (pc' := 27) (L' := [some (.ref 0), some (.int (1 : Int32)), some (.ref 69)]) rfl rfl rfl ?_
      refine j_aload_n (pc' := 28) rfl rfl rfl ?_
      refine j_callTi (pc' := 31) (ai := 91) (vs := [.ref 69]) (rest := []) rfl rfl (fun _ _ => rfl) (c_X8_isMade_69  σ) (j_dd rfl hd) rfl ?_
      refine j_two (pT := 34) (pF := 37) (L1 := [some (.ref 0), some (.int (1 : Int32)), some (.ref 69)]) (st1 := []) (fun o kT kF => ?_) (fun h13 => ?_) (fun h13 => ?_)
      · refine j_ifne (t := 37) (pc' := 34) rfl rfl rfl (fun h14 => ?_) (fun h14 => ?_)
        · exact kF h14
        · exact kT h14
      · refine j_bipush (pc' := 36) (x := (-6 : Int32)) rfl rfl rfl ?_
        exact j_ret rfl rfl rfl (fun _ h => h)
      · refine j_aload_n (pc' := 38) rfl rfl rfl ?_
        refine j_gfi (pc' := 41) rfl rfl j_a69 rfl ?_
        refine j_iconst (pc' := 42) (x := (2 : Int32)) rfl rfl rfl ?_
        refine j_irem (pc' := 43) rfl rfl ?_
        refine j_two (pT := 46) (pF := 67) (L1 := [some (.ref 0), some (.int (1 : Int32)), some (.ref 69)]) (st1 := []) (fun o kT kF => ?_) (fun h11 => ?_) (fun h11 => ?_)
        · refine j_ifne (t := 67) (pc' := 46) rfl rfl rfl (fun h12 => ?_) (fun h12 => ?_)
          · exact kF h12
          · exact kT h12
        · refine j_aload_n (pc' := 47) rfl rfl rfl ?_
          refine j_aload_n (pc' := 48) rfl rfl rfl ?_
          refine j_gfr (pc' := 51) (x := 1) rfl rfl j_a0 rfl rfl ?_
          refine j_callTi (pc' := 54) (ai := 12) (vs := [.ref 1]) (rest := [.ref 69]) rfl rfl (fun _ _ => rfl) (c_X2_holes_1  σ) (j_dd rfl hd) rfl ?_
          refine j_aload_n (pc' := 55) rfl rfl rfl ?_
          refine j_gfr (pc' := 58) (x := 1) rfl rfl j_a0 rfl rfl ?_
          refine j_gfi (pc' := 61) rfl rfl j_a1 rfl ?_
          refine j_callPi (pc' := 64) (ai := 95) (vs := [.ref 69, .int (f_X2_holes 1 σ), .int (σ.1 1 4)]) (rest := []) rfl rfl (fun _ _ => rfl) (c_X8_isBelow_69 (f_X2_holes 1 σ) (σ.1 1 4) σ) (j_dd rfl hd) rfl (fun v3 => ?_)
          refine j_two (pT := 67) (pF := 70) (L1 := [some (.ref 0), some (.int (1 : Int32)), some (.ref 69)]) (st1 := []) (fun o kT kF => ?_) (fun h9 => ?_) (fun h9 => ?_)
          · refine j_ifne (t := 70) (pc' := 67) rfl rfl rfl (fun h10 => ?_) (fun h10 => ?_)
            · exact kF h10
            · exact kT h10
          · refine j_bipush (pc' := 69) (x := (-2 : Int32)) rfl rfl rfl ?_
            exact j_ret rfl rfl rfl (fun _ h => h)
          · refine j_aload_n (pc' := 71) rfl rfl rfl ?_
            refine j_gfr (pc' := 74) (x := 22) rfl rfl j_a0 rfl rfl ?_
            refine j_aload_n (pc' := 75) rfl rfl rfl ?_
            refine j_gfr (pc' := 78) (x := 1) rfl rfl j_a0 rfl rfl ?_
            refine j_aload_n (pc' := 79) rfl rfl rfl ?_
            refine j_gfr (pc' := 82) (x := 1) rfl rfl j_a0 rfl rfl ?_
            refine j_gfr (pc' := 85) (x := 5) rfl rfl j_a1 rfl rfl ?_
            refine j_gfi (pc' := 88) rfl rfl j_a5 rfl ?_
            refine j_callRv (pc' := 91) (ai := 42) (vs := [.ref 22, .ref 1, .int (σ.1 5 1)]) (rest := []) rfl rfl (fun _ _ => rfl) (c_X4_deal (σ.1 5 1) σ) (j_dd rfl hd) rfl (fun σ4 => ?_)
            refine j_iconst (pc' := 92) (x := (0 : Int32)) rfl rfl rfl ?_
            exact j_ret rfl rfl rfl (fun _ h => h)
        · refine j_bipush (pc' := 69) (x := (-2 : Int32)) rfl rfl rfl ?_
          exact j_ret rfl rfl rfl (fun _ h => h)
    refine j_spl (k := (2 : Int32)) (fun h15 => ?_) (fun h15 => ?_)
    · subst h15
      refine j_aald (pc' := 26) (r := 71) rfl rfl j_a42 (by decide) rfl ?_
      refine j_astore_n (pc' := 27) (L' := [some (.ref 0), some (.int (2 : Int32)), some (.ref 71)]) rfl rfl rfl ?_
      refine j_aload_n (pc' := 28) rfl rfl rfl ?_
      refine j_callTi (pc' := 31) (ai := 91) (vs := [.ref 71]) (rest := []) rfl rfl (fun _ _ => rfl) (c_X8_isMade_71  σ) (j_dd rfl hd) rfl ?_
      refine j_two (pT := 34) (pF := 37) (L1 := [some (.ref 0), some (.int (2 : Int32)), some (.ref 71)]) (st1 := []) (fun o kT kF => ?_) (fun h20 => ?_) (fun h20 => ?_)
      · refine j_ifne (t := 37) (pc' := 34) rfl rfl rfl (fun h21 => ?_) (fun h21 => ?_)
        · exact kF h21
        · exact kT h21
      · refine j_bipush (pc' := 36) (x := (-6 : Int32)) rfl rfl rfl ?_
        exact j_ret rfl rfl rfl (fun _ h => h)
      · refine j_aload_n (pc' := 38) rfl rfl rfl ?_
        refine j_gfi (pc' := 41) rfl rfl j_a71 rfl ?_
        refine j_iconst (pc' := 42) (x := (2 : Int32)) rfl rfl rfl ?_
        refine j_irem (pc' := 43) rfl rfl ?_
        refine j_two (pT := 46) (pF := 67) (L1 := [some (.ref 0), some (.int (2 : Int32)), some (.ref 71)]) (st1 := []) (fun o kT kF => ?_) (fun h18 => ?_) (fun h18 => ?_)
        · refine j_ifne (t := 67) (pc' := 46) rfl rfl rfl (fun h19 => ?_) (fun h19 => ?_)
          · exact kF h19
          · exact kT h19
        · refine j_aload_n (pc' := 47) rfl rfl rfl ?_
          refine j_aload_n (pc' := 48) rfl rfl rfl ?_
          refine j_gfr (pc' := 51) (x := 1) rfl rfl j_a0 rfl rfl ?_
          refine j_callTi (pc' := 54) (ai := 12) (vs := [.ref 1]) (rest := [.ref 71]) rfl rfl (fun _ _ => rfl) (c_X2_holes_1  σ) (j_dd rfl hd) rfl ?_
          refine j_aload_n (pc' := 55) rfl rfl rfl ?_
          refine j_gfr (pc' := 58) (x := 1) rfl rfl j_a0 rfl rfl ?_
          refine j_gfi (pc' := 61) rfl rfl j_a1 rfl ?_
          refine j_callPi (pc' := 64) (ai := 95) (vs := [.ref 71, .int (f_X2_holes 1 σ), .int (σ.1 1 4)]) (rest := []) rfl rfl (fun _ _ => rfl) (c_X8_isBelow_71 (f_X2_holes 1 σ) (σ.1 1 4) σ) (j_dd rfl hd) rfl (fun v5 => ?_)
          refine j_two (pT := 67) (pF := 70) (L1 := [some (.ref 0), some (.int (2 : Int32)), some (.ref 71)]) (st1 := []) (fun o kT kF => ?_) (fun h16 => ?_) (fun h16 => ?_)
          · refine j_ifne (t := 70) (pc' := 67) rfl rfl rfl (fun h17 => ?_) (fun h17 => ?_)
            · exact kF h17
            · exact kT h17
          · refine j_bipush (pc' := 69) (x := (-2 : Int32)) rfl rfl rfl ?_
            exact j_ret rfl rfl rfl (fun _ h => h)
          · refine j_aload_n (pc' := 71) rfl rfl rfl ?_
            refine j_gfr (pc' := 74) (x := 22) rfl rfl j_a0 rfl rfl ?_
            refine j_aload_n (pc' := 75) rfl rfl rfl ?_
            refine j_gfr (pc' := 78) (x := 1) rfl rfl j_a0 rfl rfl ?_
            refine j_aload_n (pc' := 79) rfl rfl rfl ?_
            refine j_gfr (pc' := 82) (x := 1) rfl rfl j_a0 rfl rfl ?_
            refine j_gfr (pc' := 85) (x := 5) rfl rfl j_a1 rfl rfl ?_
            refine j_gfi (pc' := 88) rfl rfl j_a5 rfl ?_
            refine j_callRv (pc' := 91) (ai := 42) (vs := [.ref 22, .ref 1, .int (σ.1 5 1)]) (rest := []) rfl rfl (fun _ _ => rfl) (c_X4_deal (σ.1 5 1) σ) (j_dd rfl hd) rfl (fun σ6 => ?_)
            refine j_iconst (pc' := 92) (x := (0 : Int32)) rfl rfl rfl ?_
            exact j_ret rfl rfl rfl (fun _ h => h)
        · refine j_bipush (pc' := 69) (x := (-2 : Int32)) rfl rfl rfl ?_
          exact j_ret rfl rfl rfl (fun _ h => h)
    refine j_spl (k := (3 : Int32)) (fun h22 => ?_) (fun h22 => ?_)
    · subst h22
      refine j_aald (pc' := 26) (r := 73) rfl rfl j_a42 (by decide) rfl ?_
      refine j_astore_n (pc' := 27) (L' := [some (.ref 0), some (.int (3 : Int32)), some (.ref 73)]) rfl rfl rfl ?_
      refine j_aload_n (pc' := 28) rfl rfl rfl ?_
      refine j_callTi (pc' := 31) (ai := 91) (vs := [.ref 73]) (rest := []) rfl rfl (fun _ _ => rfl) (c_X8_isMade_73  σ) (j_dd rfl hd) rfl ?_
      refine j_two (pT := 34) (pF := 37) (L1 := [some (.ref 0), some (.int (3 : Int32)), some (.ref 73)]) (st1 := []) (fun o kT kF => ?_) (fun h27 => ?_) (fun h27 => ?_)
      · refine j_ifne (t := 37) (pc' := 34) rfl rfl rfl (fun h28 => ?_) (fun h28 => ?_)
        · exact kF h28
        · exact kT h28
      · refine j_bipush (pc' := 36) (x := (-6 : Int32)) rfl rfl rfl ?_
        exact j_ret rfl rfl rfl (fun _ h => h)
      · refine j_aload_n (pc' := 38) rfl rfl rfl ?_
        refine j_gfi (pc' := 41) rfl rfl j_a73 rfl ?_
        refine j_iconst (pc' := 42) (x := (2 : Int32)) rfl rfl rfl ?_
        refine j_irem (pc' := 43) rfl rfl ?_
        refine j_two (pT := 46) (pF := 67) (L1 := [some (.ref 0), some (.int (3 : Int32)), some (.ref 73)]) (st1 := []) (fun o kT kF => ?_) (fun h25 => ?_) (fun h25 => ?_)
        · refine j_ifne (t := 67) (pc' := 46) rfl rfl rfl (fun h26 => ?_) (fun h26 => ?_)
          · exact kF h26
          · exact kT h26
        · refine j_aload_n (pc' := 47) rfl rfl rfl ?_
          refine j_aload_n (pc' := 48) rfl rfl rfl ?_
          refine j_gfr (pc' := 51) (x := 1) rfl rfl j_a0 rfl rfl ?_
          refine j_callTi (pc' := 54) (ai := 12) (vs := [.ref 1]) (rest := [.ref 73]) rfl rfl (fun _ _ => rfl) (c_X2_holes_1  σ) (j_dd rfl hd) rfl ?_
          refine j_aload_n (pc' := 55) rfl rfl rfl ?_
          refine j_gfr (pc' := 58) (x := 1) rfl rfl j_a0 rfl rfl ?_
          refine j_gfi (pc' := 61) rfl rfl j_a1 rfl ?_
          refine j_callPi (pc' := 64) (ai := 95) (vs := [.ref 73, .int (f_X2_holes 1 σ), .int (σ.1 1 4)]) (rest := []) rfl rfl (fun _ _ => rfl) (c_X8_isBelow_73 (f_X2_holes 1 σ) (σ.1 1 4) σ) (j_dd rfl hd) rfl (fun v7 => ?_)
          refine j_two (pT := 67) (pF := 70) (L1 := [some (.ref 0), some (.int (3 : Int32)), some (.ref 73)]) (st1 := []) (fun o kT kF => ?_) (fun h23 => ?_) (fun h23 => ?_)
          · refine j_ifne (t := 70) (pc' := 67) rfl rfl rfl (fun h24 => ?_) (fun h24 => ?_)
            · exact kF h24
            · exact kT h24
          · refine j_bipush (pc' := 69) (x := (-2 : Int32)) rfl rfl rfl ?_
            exact j_ret rfl rfl rfl (fun _ h => h)
          · refine j_aload_n (pc' := 71) rfl rfl rfl ?_
            refine j_gfr (pc' := 74) (x := 22) rfl rfl j_a0 rfl rfl ?_
            refine j_aload_n (pc' := 75) rfl rfl rfl ?_
            refine j_gfr (pc' := 78) (x := 1) rfl rfl j_a0 rfl rfl ?_
            refine j_aload_n (pc' := 79) rfl rfl rfl ?_
            refine j_gfr (pc' := 82) (x := 1) rfl rfl j_a0 rfl rfl ?_
            refine j_gfr (pc' := 85) (x := 5) rfl rfl j_a1 rfl rfl ?_
            refine j_gfi (pc' := 88) rfl rfl j_a5 rfl ?_
            refine j_callRv (pc' := 91) (ai := 42) (vs := [.ref 22, .ref 1, .int (σ.1 5 1)]) (rest := []) rfl rfl (fun _ _ => rfl) (c_X4_deal (σ.1 5 1) σ) (j_dd rfl hd) rfl (fun σ8 => ?_)
            refine j_iconst (pc' := 92) (x := (0 : Int32)) rfl rfl rfl ?_
            exact j_ret rfl rfl rfl (fun _ h => h)
        · refine j_bipush (pc' := 69) (x := (-2 : Int32)) rfl rfl rfl ?_
          exact j_ret rfl rfl rfl (fun _ h => h)
    exact j_none

noncomputable def f_X1_judgeOne (l2 : Int32) (l3 : Int32) (l4 : Int32) (σ : j_G) : Option j_G :=
  j_b1 (f_X4_upIn l3 σ) fun v1 =>
  if ¬ (f_X4_has v1 σ) = 0 then (j_b1 (f_X4_holesOf v1 σ) fun v2 =>
  j_ix v1 60 (
  if ((v2 &&& ((σ.1 41 (v1).toNatClampNeg) ^^^ (-1 : Int32))) &&& ((1 : Int32) <<< (l2 &&& 31))) = 0 then (some σ) else (j_ix v1 60 (
  j_ix v1 60 (
  j_lt (j_si σ 41 (v1).toNatClampNeg ((σ.1 41 (v1).toNatClampNeg) ||| ((1 : Int32) <<< (l2 &&& 31)))) fun σ3 =>
  j_ix v1 60 (
  j_b1 (if (σ3.1 25 (v1).toNatClampNeg) = 0 then (j_lt (j_si σ3 40 0 ((σ3.1 40 0) + (1 : Int32))) fun σ5 =>
  some σ5) else (j_lt (j_si σ3 40 1 ((σ3.1 40 1) + (1 : Int32))) fun σ6 =>
  some σ6)) fun σ4 =>
  j_ix v1 60 (
  if (l3 - (σ4.1 26 (v1).toNatClampNeg)) < l4 then (j_lt (j_si σ4 40 2 ((σ4.1 40 2) + (1 : Int32))) fun σ7 =>
  some σ7) else (some σ4)))))))) else (some σ)
theorem c_X1_judgeOne (l2 : Int32) (l3 : Int32) (l4 : Int32) (σ : j_G) : j_K true 2 7 [.ref 40, .ref 22, .int l2, .int l3, .int l4] σ (f_X1_judgeOne l2 l3 l4 σ) j_Rv := by
  refine j_mkK (M := M_cX1_judgeOne) (L := [some (.ref 40), some (.ref 22), some (.int l2), some (.int l3), some (.int l4), none]) (m := 1) t_7 rfl (j_rcvO j_a40 rfl) rfl (fun d hd τ => ?_)
  unfold f_X1_judgeOne
  refine j_aload_n (pc' := 1) rfl rfl rfl ?_
  refine j_iload_n (pc' := 2) rfl rfl rfl ?_
  refine j_callPi (pc' := 5) (ai := 48) (vs := [.ref 22, .int l3]) (rest := []) rfl rfl (fun _ _ => rfl) (c_X4_upIn l3 σ) (j_dd rfl hd) rfl (fun v1 => ?_)
  refine j_istore (pc' := 7) (L' := [some (.ref 40), some (.ref 22), some (.int l2), some (.int l3), some (.int l4), some (.int v1)]) rfl rfl rfl ?_
  refine j_aload_n (pc' := 8) rfl rfl rfl ?_
  refine j_iload (pc' := 10) rfl rfl rfl ?_
  refine j_callTi (pc' := 13) (ai := 41) (vs := [.ref 22, .int v1]) (rest := []) rfl rfl (fun _ _ => rfl) (c_X4_has v1 σ) (j_dd rfl hd) rfl ?_
  refine j_two (pT := 16) (pF := 39) (L1 := [some (.ref 40), some (.ref 22), some (.int l2), some (.int l3), some (.int l4), some (.int v1)]) (st1 := []) (fun o kT kF => ?_) (fun h7 => ?_) (fun h7 => ?_)
  · refine j_ifeq (t := 39) (pc' := 16) rfl rfl rfl (fun h8 => ?_) (fun h8 => ?_)
    · exact kF (fun z => z h8)
    · exact kT h8
  · refine j_aload_n (pc' := 17) rfl rfl rfl ?_
    refine j_iload (pc' := 19) rfl rfl rfl ?_
    refine j_callPi (pc' := 22) (ai := 49) (vs := [.ref 22, .int v1]) (rest := []) rfl rfl (fun _ _ => rfl) (c_X4_holesOf v1 σ) (j_dd rfl hd) rfl (fun v2 => ?_)
    refine j_aload_n (pc' := 23) rfl rfl rfl ?_
    refine j_gfr (pc' := 26) (x := 41) rfl rfl j_a40 rfl rfl ?_
    refine j_iload (pc' := 28) rfl rfl rfl ?_
    refine j_iald (pc' := 29) rfl rfl j_a41 ?_
    refine j_iconst (pc' := 30) (x := (-1 : Int32)) rfl rfl rfl ?_
    refine j_ixor (pc' := 31) rfl rfl ?_
    refine j_iand (pc' := 32) rfl rfl ?_
    refine j_iconst (pc' := 33) (x := (1 : Int32)) rfl rfl rfl ?_
    refine j_iload_n (pc' := 34) rfl rfl rfl ?_
    refine j_ishl (pc' := 35) rfl rfl ?_
    refine j_iand (pc' := 36) rfl rfl ?_
    refine j_two (pT := 39) (pF := 40) (L1 := [some (.ref 40), some (.ref 22), some (.int l2), some (.int l3), some (.int l4), some (.int v1)]) (st1 := []) (fun o kT kF => ?_) (fun h5 => ?_) (fun h5 => ?_)
    · refine j_ifne (t := 40) (pc' := 39) rfl rfl rfl (fun h6 => ?_) (fun h6 => ?_)
      · exact kF h6
      · exact kT h6
    · exact j_ret rfl rfl rfl (fun _ h => h)
    · refine j_aload_n (pc' := 41) rfl rfl rfl ?_
      refine j_gfr (pc' := 44) (x := 41) rfl rfl j_a40 rfl rfl ?_
      refine j_iload (pc' := 46) rfl rfl rfl ?_
      refine j_dup2 (pc' := 47) rfl rfl rfl rfl ?_
      refine j_iald (pc' := 48) rfl rfl j_a41 ?_
      refine j_iconst (pc' := 49) (x := (1 : Int32)) rfl rfl rfl ?_
      refine j_iload_n (pc' := 50) rfl rfl rfl ?_
      refine j_ishl (pc' := 51) rfl rfl ?_
      refine j_ior (pc' := 52) rfl rfl ?_
      refine j_iast (pc' := 53) rfl rfl j_a41 (fun σ3 => ?_)
      refine j_aload_n (pc' := 54) rfl rfl rfl ?_
      refine j_gfr (pc' := 57) (x := 25) rfl rfl j_a22 rfl rfl ?_
      refine j_iload (pc' := 59) rfl rfl rfl ?_
      refine j_iald (pc' := 60) rfl rfl j_a25 ?_
      refine j_q1 (Φl := (fun r Q => j_Tr true τ M_cX1_judgeOne d 86 [some (.ref 40), some (.ref 22), none, some (.int l3), some (.int l4), some (.int v1)] [] r Q)) ?_ (fun σ4 => ?_)
      · refine j_two (pT := 63) (pF := 76) (L1 := [some (.ref 40), some (.ref 22), some (.int l2), some (.int l3), some (.int l4), some (.int v1)]) (st1 := []) (fun o kT kF => ?_) (fun h1 => ?_) (fun h1 => ?_)
        · refine j_ifne (t := 76) (pc' := 63) rfl rfl rfl (fun h2 => ?_) (fun h2 => ?_)
          · exact kF h2
          · exact kT h2
        · refine j_aload_n (pc' := 64) rfl rfl rfl ?_
          refine j_dup (pc' := 65) rfl rfl rfl ?_
          refine j_gfi (pc' := 68) rfl rfl j_a40 rfl ?_
          refine j_iconst (pc' := 69) (x := (1 : Int32)) rfl rfl rfl ?_
          refine j_iadd (pc' := 70) rfl rfl ?_
          refine j_pfi (pc' := 73) rfl rfl j_a40 rfl rfl (fun σ5 => ?_)
          refine j_goto (t := 86) rfl rfl ?_
          refine j_wk [true, true, false, true, true, true] (L' := [some (.ref 40), some (.ref 22), none, some (.int l3), some (.int l4), some (.int v1)]) rfl ?_
          exact j_end (fun _ h => h)
        · refine j_aload_n (pc' := 77) rfl rfl rfl ?_
          refine j_dup (pc' := 78) rfl rfl rfl ?_
          refine j_gfi (pc' := 81) rfl rfl j_a40 rfl ?_
          refine j_iconst (pc' := 82) (x := (1 : Int32)) rfl rfl rfl ?_
          refine j_iadd (pc' := 83) rfl rfl ?_
          refine j_pfi (pc' := 86) rfl rfl j_a40 rfl rfl (fun σ6 => ?_)
          refine j_wk [true, true, false, true, true, true] (L' := [some (.ref 40), some (.ref 22), none, some (.int l3), some (.int l4), some (.int v1)]) rfl ?_
          exact j_end (fun _ h => h)
      show j_J true τ M_cX1_judgeOne d 86 [some (.ref 40), some (.ref 22), none, some (.int l3), some (.int l4), some (.int v1)] [] σ4 _ _
      refine j_iload_n (pc' := 87) rfl rfl rfl ?_
      refine j_aload_n (pc' := 88) rfl rfl rfl ?_
      refine j_gfr (pc' := 91) (x := 26) rfl rfl j_a22 rfl rfl ?_
      refine j_iload (pc' := 93) rfl rfl rfl ?_
      refine j_iald (pc' := 94) rfl rfl j_a26 ?_
      refine j_isub (pc' := 95) rfl rfl ?_
      refine j_iload (pc' := 97) rfl rfl rfl ?_
      refine j_two (pT := 100) (pF := 110) (L1 := [some (.ref 40), some (.ref 22), none, some (.int l3), some (.int l4), some (.int v1)]) (st1 := []) (fun o kT kF => ?_) (fun h3 => ?_) (fun h3 => ?_)
      · refine j_icge (t := 110) (pc' := 100) rfl rfl rfl (fun h4 => ?_) (fun h4 => ?_)
        · exact kF h4
        · exact kT h4
      · refine j_aload_n (pc' := 101) rfl rfl rfl ?_
        refine j_dup (pc' := 102) rfl rfl rfl ?_
        refine j_gfi (pc' := 105) rfl rfl j_a40 rfl ?_
        refine j_iconst (pc' := 106) (x := (1 : Int32)) rfl rfl rfl ?_
        refine j_iadd (pc' := 107) rfl rfl ?_
        refine j_pfi (pc' := 110) rfl rfl j_a40 rfl rfl (fun σ7 => ?_)
        exact j_ret rfl rfl rfl (fun _ h => h)
      · exact j_ret rfl rfl rfl (fun _ h => h)
  · exact j_ret rfl rfl rfl (fun _ h => h)

noncomputable def p_X1_judge_18 (a1 : Nat) (a0_3 : Nat) (l3 : Int32) : Nat → Int32 → j_G → Option j_G
  | 0, _, _ => none
  | n + 1, l4, σ =>
    if l4 < (σ.1 a1 0) then (j_ix l4 60 (
    j_lt (j_si σ a0_3 (l4).toNatClampNeg (0 : Int32)) fun σ1 =>
    p_X1_judge_18 a1 a0_3 l3 n (l4 + (1 : Int32)) σ1)) else (some σ)

noncomputable def p_X1_judge_44 (a2 : Nat) (a2_2 : Nat) (l3 : Int32) : Nat → Int32 → j_G → Option j_G
  | 0, _, _ => none
  | n + 1, l4, σ =>
    if (l4 + (1 : Int32)) < (σ.1 a2 0) then (j_ix l4 60 (
    j_ix (l4 + (1 : Int32)) 60 (
    j_b1 (f_X1_judgeOne ((σ.2 a2_2 (l4).toNatClampNeg)).toInt32 ((σ.2 a2_2 ((l4 + (1 : Int32))).toNatClampNeg)).toInt32 l3 σ) fun σ1 =>
    p_X1_judge_44 a2 a2_2 l3 n (l4 + (2 : Int32)) σ1))) else (some σ)

noncomputable def f_X1_judge (a0 : Nat) (a1 : Nat) (a0_3 : Nat) (a2 : Nat) (a2_2 : Nat) (l3 : Int32) (σ : j_G) : Option j_G :=
  j_lt (j_si σ a0 0 (0 : Int32)) fun σ1 =>
  j_lt (j_si σ1 a0 1 (0 : Int32)) fun σ2 =>
  j_lt (j_si σ2 a0 2 (0 : Int32)) fun σ3 =>
  j_b1 (p_X1_judge_18 a1 a0_3 l3 j_F (0 : Int32) σ3) fun σ4 =>
  j_b1 (p_X1_judge_44 a2 a2_2 l3 j_F (0 : Int32) σ4) fun σ5 =>
  some σ5
theorem l_X1_judge_18_40_22_67 {d : Nat} (hd : 3 ≤ d) (τ : j_G) (l3 : Int32) : ∀ (n : Nat) (l4 : Int32) (σ : j_G), j_J true τ M_cX1_judge d 18 [some (.ref 40), some (.ref 22), some (.ref 67), some (.int l3), some (.int l4)] [] σ (p_X1_judge_18 22 41 l3 n l4 σ) (fun r Q => j_Tr true τ M_cX1_judge d 41 [some (.ref 40), some (.ref 22), some (.ref 67), some (.int l3), none] [] r Q) := by
  intro n
  induction n with
  | zero => intro l4 σ; exact j_none
  | succ n ih =>
    intro l4 σ
    unfold p_X1_judge_18
    refine j_iload (pc' := 20) rfl rfl rfl ?_
    refine j_aload_n (pc' := 21) rfl rfl rfl ?_
    refine j_gfi (pc' := 24) rfl rfl j_a22 rfl ?_
    refine j_two (pT := 27) (pF := 41) (L1 := [some (.ref 40), some (.ref 22), some (.ref 67), some (.int l3), some (.int l4)]) (st1 := []) (fun o kT kF => ?_) (fun h1 => ?_) (fun h1 => ?_)
    · refine j_icge (t := 41) (pc' := 27) rfl rfl rfl (fun h2 => ?_) (fun h2 => ?_)
      · exact kF h2
      · exact kT h2
    · refine j_aload_n (pc' := 28) rfl rfl rfl ?_
      refine j_gfr (pc' := 31) (x := 41) rfl rfl j_a40 rfl rfl ?_
      refine j_iload (pc' := 33) rfl rfl rfl ?_
      refine j_iconst (pc' := 34) (x := (0 : Int32)) rfl rfl rfl ?_
      refine j_iast (pc' := 35) rfl rfl j_a41 (fun σ1 => ?_)
      refine j_iincx (pc' := 38) (y := (1 : Int32)) (L' := [some (.ref 40), some (.ref 22), some (.ref 67), some (.int l3), some (.int (l4 + (1 : Int32)))]) rfl rfl rfl rfl rfl ?_
      refine j_goto (t := 18) rfl rfl ?_
      exact ih (l4 + (1 : Int32)) σ1
    · refine j_wk [true, true, true, true, false] (L' := [some (.ref 40), some (.ref 22), some (.ref 67), some (.int l3), none]) rfl ?_
      exact j_end (fun _ h => h)

theorem l_X1_judge_44_40_22_67 {d : Nat} (hd : 3 ≤ d) (τ : j_G) (l3 : Int32) : ∀ (n : Nat) (l4 : Int32) (σ : j_G), j_J true τ M_cX1_judge d 44 [some (.ref 40), some (.ref 22), some (.ref 67), some (.int l3), some (.int l4)] [] σ (p_X1_judge_44 67 68 l3 n l4 σ) (fun r Q => j_Tr true τ M_cX1_judge d 85 [none, none, none, none, none] [] r Q) := by
  intro n
  induction n with
  | zero => intro l4 σ; exact j_none
  | succ n ih =>
    intro l4 σ
    unfold p_X1_judge_44
    refine j_iload (pc' := 46) rfl rfl rfl ?_
    refine j_iconst (pc' := 47) (x := (1 : Int32)) rfl rfl rfl ?_
    refine j_iadd (pc' := 48) rfl rfl ?_
    refine j_aload_n (pc' := 49) rfl rfl rfl ?_
    refine j_gfi (pc' := 52) rfl rfl j_a67 rfl ?_
    refine j_two (pT := 55) (pF := 85) (L1 := [some (.ref 40), some (.ref 22), some (.ref 67), some (.int l3), some (.int l4)]) (st1 := []) (fun o kT kF => ?_) (fun h1 => ?_) (fun h1 => ?_)
    · refine j_icge (t := 85) (pc' := 55) rfl rfl rfl (fun h2 => ?_) (fun h2 => ?_)
      · exact kF h2
      · exact kT h2
    · refine j_aload_n (pc' := 56) rfl rfl rfl ?_
      refine j_aload_n (pc' := 57) rfl rfl rfl ?_
      refine j_aload_n (pc' := 58) rfl rfl rfl ?_
      refine j_gfr (pc' := 61) (x := 68) rfl rfl j_a67 rfl rfl ?_
      refine j_iload (pc' := 63) rfl rfl rfl ?_
      refine j_lald (pc' := 64) rfl rfl j_a68 ?_
      refine j_l2i (pc' := 65) rfl rfl ?_
      refine j_aload_n (pc' := 66) rfl rfl rfl ?_
      refine j_gfr (pc' := 69) (x := 68) rfl rfl j_a67 rfl rfl ?_
      refine j_iload (pc' := 71) rfl rfl rfl ?_
      refine j_iconst (pc' := 72) (x := (1 : Int32)) rfl rfl rfl ?_
      refine j_iadd (pc' := 73) rfl rfl ?_
      refine j_lald (pc' := 74) rfl rfl j_a68 ?_
      refine j_l2i (pc' := 75) rfl rfl ?_
      refine j_iload_n (pc' := 76) rfl rfl rfl ?_
      refine j_callRv (pc' := 79) (ai := 7) (vs := [.ref 40, .ref 22, .int ((σ.2 68 (l4).toNatClampNeg)).toInt32, .int ((σ.2 68 ((l4 + (1 : Int32))).toNatClampNeg)).toInt32, .int l3]) (rest := []) rfl rfl (fun _ _ => rfl) (c_X1_judgeOne ((σ.2 68 (l4).toNatClampNeg)).toInt32 ((σ.2 68 ((l4 + (1 : Int32))).toNatClampNeg)).toInt32 l3 σ) (j_dd rfl hd) rfl (fun σ1 => ?_)
      refine j_iincx (pc' := 82) (y := (2 : Int32)) (L' := [some (.ref 40), some (.ref 22), some (.ref 67), some (.int l3), some (.int (l4 + (2 : Int32)))]) rfl rfl rfl rfl rfl ?_
      refine j_goto (t := 44) rfl rfl ?_
      exact ih (l4 + (2 : Int32)) σ1
    · refine j_wk [false, false, false, false, false] (L' := [none, none, none, none, none]) rfl ?_
      exact j_end (fun _ h => h)

theorem c_X1_judge_40_22_67 (l3 : Int32) (σ : j_G) : j_K true 3 6 [.ref 40, .ref 22, .ref 67, .int l3] σ (f_X1_judge 40 22 41 67 68 l3 σ) j_Rv := by
  refine j_mkK (M := M_cX1_judge) (L := [some (.ref 40), some (.ref 22), some (.ref 67), some (.int l3), none]) (m := 1) t_6 rfl (j_rcvO j_a40 rfl) rfl (fun d hd τ => ?_)
  unfold f_X1_judge
  refine j_aload_n (pc' := 1) rfl rfl rfl ?_
  refine j_iconst (pc' := 2) (x := (0 : Int32)) rfl rfl rfl ?_
  refine j_pfi (pc' := 5) rfl rfl j_a40 rfl rfl (fun σ1 => ?_)
  refine j_aload_n (pc' := 6) rfl rfl rfl ?_
  refine j_iconst (pc' := 7) (x := (0 : Int32)) rfl rfl rfl ?_
  refine j_pfi (pc' := 10) rfl rfl j_a40 rfl rfl (fun σ2 => ?_)
  refine j_aload_n (pc' := 11) rfl rfl rfl ?_
  refine j_iconst (pc' := 12) (x := (0 : Int32)) rfl rfl rfl ?_
  refine j_pfi (pc' := 15) rfl rfl j_a40 rfl rfl (fun σ3 => ?_)
  refine j_iconst (pc' := 16) (x := (0 : Int32)) rfl rfl rfl ?_
  refine j_istore (pc' := 18) (L' := [some (.ref 40), some (.ref 22), some (.ref 67), some (.int l3), some (.int (0 : Int32))]) rfl rfl rfl ?_
  refine j_q1 (l_X1_judge_18_40_22_67 hd τ l3 j_F (0 : Int32) σ3) (fun σ4 => ?_)
  show j_J true τ M_cX1_judge d 41 [some (.ref 40), some (.ref 22), some (.ref 67), some (.int l3), none] [] σ4 _ _
  refine j_iconst (pc' := 42) (x := (0 : Int32)) rfl rfl rfl ?_
  refine j_istore (pc' := 44) (L' := [some (.ref 40), some (.ref 22), some (.ref 67), some (.int l3), some (.int (0 : Int32))]) rfl rfl rfl ?_
  refine j_q1 (l_X1_judge_44_40_22_67 hd τ l3 j_F (0 : Int32) σ4) (fun σ5 => ?_)
  show j_J true τ M_cX1_judge d 85 [none, none, none, none, none] [] σ5 _ _
  exact j_ret rfl rfl rfl (fun _ h => h)

theorem l_X1_judge_18_40_22_69 {d : Nat} (hd : 3 ≤ d) (τ : j_G) (l3 : Int32) : ∀ (n : Nat) (l4 : Int32) (σ : j_G), j_J true τ M_cX1_judge d 18 [some (.ref 40), some (.ref 22), some (.ref 69), some (.int l3), some (.int l4)] [] σ (p_X1_judge_18 22 41 l3 n l4 σ) (fun r Q => j_Tr true τ M_cX1_judge d 41 [some (.ref 40), some (.ref 22), some (.ref 69), some (.int l3), none] [] r Q) := by
  intro n
  induction n with
  | zero => intro l4 σ; exact j_none
  | succ n ih =>
    intro l4 σ
    unfold p_X1_judge_18
    refine j_iload (pc' := 20) rfl rfl rfl ?_
    refine j_aload_n (pc' := 21) rfl rfl rfl ?_
    refine j_gfi (pc' := 24) rfl rfl j_a22 rfl ?_
    refine j_two (pT := 27) (pF := 41) (L1 := [some (.ref 40), some (.ref 22), some (.ref 69), some (.int l3), some (.int l4)]) (st1 := []) (fun o kT kF => ?_) (fun h1 => ?_) (fun h1 => ?_)
    · refine j_icge (t := 41) (pc' := 27) rfl rfl rfl (fun h2 => ?_) (fun h2 => ?_)
      · exact kF h2
      · exact kT h2
    · refine j_aload_n (pc' := 28) rfl rfl rfl ?_
      refine j_gfr (pc' := 31) (x := 41) rfl rfl j_a40 rfl rfl ?_
      refine j_iload (pc' := 33) rfl rfl rfl ?_
      refine j_iconst (pc' := 34) (x := (0 : Int32)) rfl rfl rfl ?_
      refine j_iast (pc' := 35) rfl rfl j_a41 (fun σ1 => ?_)
      refine j_iincx (pc' := 38) (y := (1 : Int32)) (L' := [some (.ref 40), some (.ref 22), some (.ref 69), some (.int l3), some (.int (l4 + (1 : Int32)))]) rfl rfl rfl rfl rfl ?_
      refine j_goto (t := 18) rfl rfl ?_
      exact ih (l4 + (1 : Int32)) σ1
    · refine j_wk [true, true, true, true, false] (L' := [some (.ref 40), some (.ref 22), some (.ref 69), some (.int l3), none]) rfl ?_
      exact j_end (fun _ h => h)

theorem l_X1_judge_44_40_22_69 {d : Nat} (hd : 3 ≤ d) (τ : j_G) (l3 : Int32) : ∀ (n : Nat) (l4 : Int32) (σ : j_G), j_J true τ M_cX1_judge d 44 [some (.ref 40), some (.ref 22), some (.ref 69), some (.int l3), some (.int l4)] [] σ (p_X1_judge_44 69 70 l3 n l4 σ) (fun r Q => j_Tr true τ M_cX1_judge d 85 [none, none, none, none, none] [] r Q) := by
  intro n
  induction n with
  | zero => intro l4 σ; exact j_none
  | succ n ih =>
    intro l4 σ
    unfold p_X1_judge_44
    refine j_iload (pc' := 46) rfl rfl rfl ?_
    refine j_iconst (pc' := 47) (x := (1 : Int32)) rfl rfl rfl ?_
    refine j_iadd (pc' := 48) rfl rfl ?_
    refine j_aload_n (pc' := 49) rfl rfl rfl ?_
    refine j_gfi (pc' := 52) rfl rfl j_a69 rfl ?_
    refine j_two (pT := 55) (pF := 85) (L1 := [some (.ref 40), some (.ref 22), some (.ref 69), some (.int l3), some (.int l4)]) (st1 := []) (fun o kT kF => ?_) (fun h1 => ?_) (fun h1 => ?_)
    · refine j_icge (t := 85) (pc' := 55) rfl rfl rfl (fun h2 => ?_) (fun h2 => ?_)
      · exact kF h2
      · exact kT h2
    · refine j_aload_n (pc' := 56) rfl rfl rfl ?_
      refine j_aload_n (pc' := 57) rfl rfl rfl ?_
      refine j_aload_n (pc' := 58) rfl rfl rfl ?_
      refine j_gfr (pc' := 61) (x := 70) rfl rfl j_a69 rfl rfl ?_
      refine j_iload (pc' := 63) rfl rfl rfl ?_
      refine j_lald (pc' := 64) rfl rfl j_a70 ?_
      refine j_l2i (pc' := 65) rfl rfl ?_
      refine j_aload_n (pc' := 66) rfl rfl rfl ?_
      refine j_gfr (pc' := 69) (x := 70) rfl rfl j_a69 rfl rfl ?_
      refine j_iload (pc' := 71) rfl rfl rfl ?_
      refine j_iconst (pc' := 72) (x := (1 : Int32)) rfl rfl rfl ?_
      refine j_iadd (pc' := 73) rfl rfl ?_
      refine j_lald (pc' := 74) rfl rfl j_a70 ?_
      refine j_l2i (pc' := 75) rfl rfl ?_
      refine j_iload_n (pc' := 76) rfl rfl rfl ?_
      refine j_callRv (pc' := 79) (ai := 7) (vs := [.ref 40, .ref 22, .int ((σ.2 70 (l4).toNatClampNeg)).toInt32, .int ((σ.2 70 ((l4 + (1 : Int32))).toNatClampNeg)).toInt32, .int l3]) (rest := []) rfl rfl (fun _ _ => rfl) (c_X1_judgeOne ((σ.2 70 (l4).toNatClampNeg)).toInt32 ((σ.2 70 ((l4 + (1 : Int32))).toNatClampNeg)).toInt32 l3 σ) (j_dd rfl hd) rfl (fun σ1 => ?_)
      refine j_iincx (pc' := 82) (y := (2 : Int32)) (L' := [some (.ref 40), some (.ref 22), some (.ref 69), some (.int l3), some (.int (l4 + (2 : Int32)))]) rfl rfl rfl rfl rfl ?_
      refine j_goto (t := 44) rfl rfl ?_
      exact ih (l4 + (2 : Int32)) σ1
    · refine j_wk [false, false, false, false, false] (L' := [none, none, none, none, none]) rfl ?_
      exact j_end (fun _ h => h)

theorem c_X1_judge_40_22_69 (l3 : Int32) (σ : j_G) : j_K true 3 6 [.ref 40, .ref 22, .ref 69, .int l3] σ (f_X1_judge 40 22 41 69 70 l3 σ) j_Rv := by
  refine j_mkK (M := M_cX1_judge) (L := [some (.ref 40), some (.ref 22), some (.ref 69), some (.int l3), none]) (m := 1) t_6 rfl (j_rcvO j_a40 rfl) rfl (fun d hd τ => ?_)
  unfold f_X1_judge
  refine j_aload_n (pc' := 1) rfl rfl rfl ?_
  refine j_iconst (pc' := 2) (x := (0 : Int32)) rfl rfl rfl ?_
  refine j_pfi (pc' := 5) rfl rfl j_a40 rfl rfl (fun σ1 => ?_)
  refine j_aload_n (pc' := 6) rfl rfl rfl ?_
  refine j_iconst (pc' := 7) (x := (0 : Int32)) rfl rfl rfl ?_
  refine j_pfi (pc' := 10) rfl rfl j_a40 rfl rfl (fun σ2 => ?_)
  refine j_aload_n (pc' := 11) rfl rfl rfl ?_
  refine j_iconst (pc' := 12) (x := (0 : Int32)) rfl rfl rfl ?_
  refine j_pfi (pc' := 15) rfl rfl j_a40 rfl rfl (fun σ3 => ?_)
  refine j_iconst (pc' := 16) (x := (0 : Int32)) rfl rfl rfl ?_
  refine j_istore (pc' := 18) (L' := [some (.ref 40), some (.ref 22), some (.ref 69), some (.int l3), some (.int (0 : Int32))]) rfl rfl rfl ?_
  refine j_q1 (l_X1_judge_18_40_22_69 hd τ l3 j_F (0 : Int32) σ3) (fun σ4 => ?_)
  show j_J true τ M_cX1_judge d 41 [some (.ref 40), some (.ref 22), some (.ref 69), some (.int l3), none] [] σ4 _ _
  refine j_iconst (pc' := 42) (x := (0 : Int32)) rfl rfl rfl ?_
  refine j_istore (pc' := 44) (L' := [some (.ref 40), some (.ref 22), some (.ref 69), some (.int l3), some (.int (0 : Int32))]) rfl rfl rfl ?_
  refine j_q1 (l_X1_judge_44_40_22_69 hd τ l3 j_F (0 : Int32) σ4) (fun σ5 => ?_)
  show j_J true τ M_cX1_judge d 85 [none, none, none, none, none] [] σ5 _ _
  exact j_ret rfl rfl rfl (fun _ h => h)

theorem l_X1_judge_18_40_22_71 {d : Nat} (hd : 3 ≤ d) (τ : j_G) (l3 : Int32) : ∀ (n : Nat) (l4 : Int32) (σ : j_G), j_J true τ M_cX1_judge d 18 [some (.ref 40), some (.ref 22), some (.ref 71), some (.int l3), some (.int l4)] [] σ (p_X1_judge_18 22 41 l3 n l4 σ) (fun r Q => j_Tr true τ M_cX1_judge d 41 [some (.ref 40), some (.ref 22), some (.ref 71), some (.int l3), none] [] r Q) := by
  intro n
  induction n with
  | zero => intro l4 σ; exact j_none
  | succ n ih =>
    intro l4 σ
    unfold p_X1_judge_18
    refine j_iload (pc' := 20) rfl rfl rfl ?_
    refine j_aload_n (pc' := 21) rfl rfl rfl ?_
    refine j_gfi (pc' := 24) rfl rfl j_a22 rfl ?_
    refine j_two (pT := 27) (pF := 41) (L1 := [some (.ref 40), some (.ref 22), some (.ref 71), some (.int l3), some (.int l4)]) (st1 := []) (fun o kT kF => ?_) (fun h1 => ?_) (fun h1 => ?_)
    · refine j_icge (t := 41) (pc' := 27) rfl rfl rfl (fun h2 => ?_) (fun h2 => ?_)
      · exact kF h2
      · exact kT h2
    · refine j_aload_n (pc' := 28) rfl rfl rfl ?_
      refine j_gfr (pc' := 31) (x := 41) rfl rfl j_a40 rfl rfl ?_
      refine j_iload (pc' := 33) rfl rfl rfl ?_
      refine j_iconst (pc' := 34) (x := (0 : Int32)) rfl rfl rfl ?_
      refine j_iast (pc' := 35) rfl rfl j_a41 (fun σ1 => ?_)
      refine j_iincx (pc' := 38) (y := (1 : Int32)) (L' := [some (.ref 40), some (.ref 22), some (.ref 71), some (.int l3), some (.int (l4 + (1 : Int32)))]) rfl rfl rfl rfl rfl ?_
      refine j_goto (t := 18) rfl rfl ?_
      exact ih (l4 + (1 : Int32)) σ1
    · refine j_wk [true, true, true, true, false] (L' := [some (.ref 40), some (.ref 22), some (.ref 71), some (.int l3), none]) rfl ?_
      exact j_end (fun _ h => h)

theorem l_X1_judge_44_40_22_71 {d : Nat} (hd : 3 ≤ d) (τ : j_G) (l3 : Int32) : ∀ (n : Nat) (l4 : Int32) (σ : j_G), j_J true τ M_cX1_judge d 44 [some (.ref 40), some (.ref 22), some (.ref 71), some (.int l3), some (.int l4)] [] σ (p_X1_judge_44 71 72 l3 n l4 σ) (fun r Q => j_Tr true τ M_cX1_judge d 85 [none, none, none, none, none] [] r Q) := by
  intro n
  induction n with
  | zero => intro l4 σ; exact j_none
  | succ n ih =>
    intro l4 σ
    unfold p_X1_judge_44
    refine j_iload (pc' := 46) rfl rfl rfl ?_
    refine j_iconst (pc' := 47) (x := (1 : Int32)) rfl rfl rfl ?_
    refine j_iadd (pc' := 48) rfl rfl ?_
    refine j_aload_n (pc' := 49) rfl rfl rfl ?_
    refine j_gfi (pc' := 52) rfl rfl j_a71 rfl ?_
    refine j_two (pT := 55) (pF := 85) (L1 := [some (.ref 40), some (.ref 22), some (.ref 71), some (.int l3), some (.int l4)]) (st1 := []) (fun o kT kF => ?_) (fun h1 => ?_) (fun h1 => ?_)
    · refine j_icge (t := 85) (pc' := 55) rfl rfl rfl (fun h2 => ?_) (fun h2 => ?_)
      · exact kF h2
      · exact kT h2
    · refine j_aload_n (pc' := 56) rfl rfl rfl ?_
      refine j_aload_n (pc' := 57) rfl rfl rfl ?_
      refine j_aload_n (pc' := 58) rfl rfl rfl ?_
      refine j_gfr (pc' := 61) (x := 72) rfl rfl j_a71 rfl rfl ?_
      refine j_iload (pc' := 63) rfl rfl rfl ?_
      refine j_lald (pc' := 64) rfl rfl j_a72 ?_
      refine j_l2i (pc' := 65) rfl rfl ?_
      refine j_aload_n (pc' := 66) rfl rfl rfl ?_
      refine j_gfr (pc' := 69) (x := 72) rfl rfl j_a71 rfl rfl ?_
      refine j_iload (pc' := 71) rfl rfl rfl ?_
      refine j_iconst (pc' := 72) (x := (1 : Int32)) rfl rfl rfl ?_
      refine j_iadd (pc' := 73) rfl rfl ?_
      refine j_lald (pc' := 74) rfl rfl j_a72 ?_
      refine j_l2i (pc' := 75) rfl rfl ?_
      refine j_iload_n (pc' := 76) rfl rfl rfl ?_
      refine j_callRv (pc' := 79) (ai := 7) (vs := [.ref 40, .ref 22, .int ((σ.2 72 (l4).toNatClampNeg)).toInt32, .int ((σ.2 72 ((l4 + (1 : Int32))).toNatClampNeg)).toInt32, .int l3]) (rest := []) rfl rfl (fun _ _ => rfl) (c_X1_judgeOne ((σ.2 72 (l4).toNatClampNeg)).toInt32 ((σ.2 72 ((l4 + (1 : Int32))).toNatClampNeg)).toInt32 l3 σ) (j_dd rfl hd) rfl (fun σ1 => ?_)
      refine j_iincx (pc' := 82) (y := (2 : Int32)) (L' := [some (.ref 40), some (.ref 22), some (.ref 71), some (.int l3), some (.int (l4 + (2 : Int32)))]) rfl rfl rfl rfl rfl ?_
      refine j_goto (t := 44) rfl rfl ?_
      exact ih (l4 + (2 : Int32)) σ1
    · refine j_wk [false, false, false, false, false] (L' := [none, none, none, none, none]) rfl ?_
      exact j_end (fun _ h => h)

theorem c_X1_judge_40_22_71 (l3 : Int32) (σ : j_G) : j_K true 3 6 [.ref 40, .ref 22, .ref 71, .int l3] σ (f_X1_judge 40 22 41 71 72 l3 σ) j_Rv := by
  refine j_mkK (M := M_cX1_judge) (L := [some (.ref 40), some (.ref 22), some (.ref 71), some (.int l3), none]) (m := 1) t_6 rfl (j_rcvO j_a40 rfl) rfl (fun d hd τ => ?_)
  unfold f_X1_judge
  refine j_aload_n (pc' := 1) rfl rfl rfl ?_
  refine j_iconst (pc' := 2) (x := (0 : Int32)) rfl rfl rfl ?_
  refine j_pfi (pc' := 5) rfl rfl j_a40 rfl rfl (fun σ1 => ?_)
  refine j_aload_n (pc' := 6) rfl rfl rfl ?_
  refine j_iconst (pc' := 7) (x := (0 : Int32)) rfl rfl rfl ?_
  refine j_pfi (pc' := 10) rfl rfl j_a40 rfl rfl (fun σ2 => ?_)
  refine j_aload_n (pc' := 11) rfl rfl rfl ?_
  refine j_iconst (pc' := 12) (x := (0 : Int32)) rfl rfl rfl ?_
  refine j_pfi (pc' := 15) rfl rfl j_a40 rfl rfl (fun σ3 => ?_)
  refine j_iconst (pc' := 16) (x := (0 : Int32)) rfl rfl rfl ?_
  refine j_istore (pc' := 18) (L' := [some (.ref 40), some (.ref 22), some (.ref 71), some (.int l3), some (.int (0 : Int32))]) rfl rfl rfl ?_
  refine j_q1 (l_X1_judge_18_40_22_71 hd τ l3 j_F (0 : Int32) σ3) (fun σ4 => ?_)
  show j_J true τ M_cX1_judge d 41 [some (.ref 40), some (.ref 22), some (.ref 71), some (.int l3), none] [] σ4 _ _
  refine j_iconst (pc' := 42) (x := (0 : Int32)) rfl rfl rfl ?_
  refine j_istore (pc' := 44) (L' := [some (.ref 40), some (.ref 22), some (.ref 71), some (.int l3), some (.int (0 : Int32))]) rfl rfl rfl ?_
  refine j_q1 (l_X1_judge_44_40_22_71 hd τ l3 j_F (0 : Int32) σ4) (fun σ5 => ?_)
  show j_J true τ M_cX1_judge d 85 [none, none, none, none, none] [] σ5 _ _
  exact j_ret rfl rfl rfl (fun _ h => h)

theorem l_X1_judge_18_40_22_73 {d : Nat} (hd : 3 ≤ d) (τ : j_G) (l3 : Int32) : ∀ (n : Nat) (l4 : Int32) (σ : j_G), j_J true τ M_cX1_judge d 18 [some (.ref 40), some (.ref 22), some (.ref 73), some (.int l3), some (.int l4)] [] σ (p_X1_judge_18 22 41 l3 n l4 σ) (fun r Q => j_Tr true τ M_cX1_judge d 41 [some (.ref 40), some (.ref 22), some (.ref 73), some (.int l3), none] [] r Q) := by
  intro n
  induction n with
  | zero => intro l4 σ; exact j_none
  | succ n ih =>
    intro l4 σ
    unfold p_X1_judge_18
    refine j_iload (pc' := 20) rfl rfl rfl ?_
    refine j_aload_n (pc' := 21) rfl rfl rfl ?_
    refine j_gfi (pc' := 24) rfl rfl j_a22 rfl ?_
    refine j_two (pT := 27) (pF := 41) (L1 := [some (.ref 40), some (.ref 22), some (.ref 73), some (.int l3), some (.int l4)]) (st1 := []) (fun o kT kF => ?_) (fun h1 => ?_) (fun h1 => ?_)
    · refine j_icge (t := 41) (pc' := 27) rfl rfl rfl (fun h2 => ?_) (fun h2 => ?_)
      · exact kF h2
      · exact kT h2
    · refine j_aload_n (pc' := 28) rfl rfl rfl ?_
      refine j_gfr (pc' := 31) (x := 41) rfl rfl j_a40 rfl rfl ?_
      refine j_iload (pc' := 33) rfl rfl rfl ?_
      refine j_iconst (pc' := 34) (x := (0 : Int32)) rfl rfl rfl ?_
      refine j_iast (pc' := 35) rfl rfl j_a41 (fun σ1 => ?_)
      refine j_iincx (pc' := 38) (y := (1 : Int32)) (L' := [some (.ref 40), some (.ref 22), some (.ref 73), some (.int l3), some (.int (l4 + (1 : Int32)))]) rfl rfl rfl rfl rfl ?_
      refine j_goto (t := 18) rfl rfl ?_
      exact ih (l4 + (1 : Int32)) σ1
    · refine j_wk [true, true, true, true, false] (L' := [some (.ref 40), some (.ref 22), some (.ref 73), some (.int l3), none]) rfl ?_
      exact j_end (fun _ h => h)

theorem l_X1_judge_44_40_22_73 {d : Nat} (hd : 3 ≤ d) (τ : j_G) (l3 : Int32) : ∀ (n : Nat) (l4 : Int32) (σ : j_G), j_J true τ M_cX1_judge d 44 [some (.ref 40), some (.ref 22), some (.ref 73), some (.int l3), some (.int l4)] [] σ (p_X1_judge_44 73 74 l3 n l4 σ) (fun r Q => j_Tr true τ M_cX1_judge d 85 [none, none, none, none, none] [] r Q) := by
  intro n
  induction n with
  | zero => intro l4 σ; exact j_none
  | succ n ih =>
    intro l4 σ
    unfold p_X1_judge_44
    refine j_iload (pc' := 46) rfl rfl rfl ?_
    refine j_iconst (pc' := 47) (x := (1 : Int32)) rfl rfl rfl ?_
    refine j_iadd (pc' := 48) rfl rfl ?_
    refine j_aload_n (pc' := 49) rfl rfl rfl ?_
    refine j_gfi (pc' := 52) rfl rfl j_a73 rfl ?_
    refine j_two (pT := 55) (pF := 85) (L1 := [some (.ref 40), some (.ref 22), some (.ref 73), some (.int l3), some (.int l4)]) (st1 := []) (fun o kT kF => ?_) (fun h1 => ?_) (fun h1 => ?_)
    · refine j_icge (t := 85) (pc' := 55) rfl rfl rfl (fun h2 => ?_) (fun h2 => ?_)
      · exact kF h2
      · exact kT h2
    · refine j_aload_n (pc' := 56) rfl rfl rfl ?_
      refine j_aload_n (pc' := 57) rfl rfl rfl ?_
      refine j_aload_n (pc' := 58) rfl rfl rfl ?_
      refine j_gfr (pc' := 61) (x := 74) rfl rfl j_a73 rfl rfl ?_
      refine j_iload (pc' := 63) rfl rfl rfl ?_
      refine j_lald (pc' := 64) rfl rfl j_a74 ?_
      refine j_l2i (pc' := 65) rfl rfl ?_
      refine j_aload_n (pc' := 66) rfl rfl rfl ?_
      refine j_gfr (pc' := 69) (x := 74) rfl rfl j_a73 rfl rfl ?_
      refine j_iload (pc' := 71) rfl rfl rfl ?_
      refine j_iconst (pc' := 72) (x := (1 : Int32)) rfl rfl rfl ?_
      refine j_iadd (pc' := 73) rfl rfl ?_
      refine j_lald (pc' := 74) rfl rfl j_a74 ?_
      refine j_l2i (pc' := 75) rfl rfl ?_
      refine j_iload_n (pc' := 76) rfl rfl rfl ?_
      refine j_callRv (pc' := 79) (ai := 7) (vs := [.ref 40, .ref 22, .int ((σ.2 74 (l4).toNatClampNeg)).toInt32, .int ((σ.2 74 ((l4 + (1 : Int32))).toNatClampNeg)).toInt32, .int l3]) (rest := []) rfl rfl (fun _ _ => rfl) (c_X1_judgeOne ((σ.2 74 (l4).toNatClampNeg)).toInt32 ((σ.2 74 ((l4 + (1 : Int32))).toNatClampNeg)).toInt32 l3 σ) (j_dd rfl hd) rfl (fun σ1 => ?_)
      refine j_iincx (pc' := 82) (y := (2 : Int32)) (L' := [some (.ref 40), some (.ref 22), some (.ref 73), some (.int l3), some (.int (l4 + (2 : Int32)))]) rfl rfl rfl rfl rfl ?_
      refine j_goto (t := 44) rfl rfl ?_
      exact ih (l4 + (2 : Int32)) σ1
    · refine j_wk [false, false, false, false, false] (L' := [none, none, none, none, none]) rfl ?_
      exact j_end (fun _ h => h)

theorem c_X1_judge_40_22_73 (l3 : Int32) (σ : j_G) : j_K true 3 6 [.ref 40, .ref 22, .ref 73, .int l3] σ (f_X1_judge 40 22 41 73 74 l3 σ) j_Rv := by
  refine j_mkK (M := M_cX1_judge) (L := [some (.ref 40), some (.ref 22), some (.ref 73), some (.int l3), none]) (m := 1) t_6 rfl (j_rcvO j_a40 rfl) rfl (fun d hd τ => ?_)
  unfold f_X1_judge
  refine j_aload_n (pc' := 1) rfl rfl rfl ?_
  refine j_iconst (pc' := 2) (x := (0 : Int32)) rfl rfl rfl ?_
  refine j_pfi (pc' := 5) rfl rfl j_a40 rfl rfl (fun σ1 => ?_)
  refine j_aload_n (pc' := 6) rfl rfl rfl ?_
  refine j_iconst (pc' := 7) (x := (0 : Int32)) rfl rfl rfl ?_
  refine j_pfi (pc' := 10) rfl rfl j_a40 rfl rfl (fun σ2 => ?_)
  refine j_aload_n (pc' := 11) rfl rfl rfl ?_
  refine j_iconst (pc' := 12) (x := (0 : Int32)) rfl rfl rfl ?_
  refine j_pfi (pc' := 15) rfl rfl j_a40 rfl rfl (fun σ3 => ?_)
  refine j_iconst (pc' := 16) (x := (0 : Int32)) rfl rfl rfl ?_
  refine j_istore (pc' := 18) (L' := [some (.ref 40), some (.ref 22), some (.ref 73), some (.int l3), some (.int (0 : Int32))]) rfl rfl rfl ?_
  refine j_q1 (l_X1_judge_18_40_22_73 hd τ l3 j_F (0 : Int32) σ3) (fun σ4 => ?_)
  show j_J true τ M_cX1_judge d 41 [some (.ref 40), some (.ref 22), some (.ref 73), some (.int l3), none] [] σ4 _ _
  refine j_iconst (pc' := 42) (x := (0 : Int32)) rfl rfl rfl ?_
  refine j_istore (pc' := 44) (L' := [some (.ref 40), some (.ref 22), some (.ref 73), some (.int l3), some (.int (0 : Int32))]) rfl rfl rfl ?_
  refine j_q1 (l_X1_judge_44_40_22_73 hd τ l3 j_F (0 : Int32) σ4) (fun σ5 => ?_)
  show j_J true τ M_cX1_judge d 85 [none, none, none, none, none] [] σ5 _ _
  exact j_ret rfl rfl rfl (fun _ h => h)

noncomputable def f_X11_counted (l1 : Int32) (σ : j_G) : Option (Int32 × j_G) :=
  j_b2 (f_X11_whyNoBlows l1 σ) fun v2 σ1 =>
  if ¬ v2 = 0 then (some (v2, σ1)) else (if l1 = 0 then (j_b1 (f_X1_judge 40 22 41 67 68 (0 : Int32) σ1) fun σ3 =>
  some ((σ3.1 40 0), σ3)) else
  if l1 = 1 then (j_b1 (f_X1_judge 40 22 41 69 70 (0 : Int32) σ1) fun σ4 =>
  some ((σ4.1 40 0), σ4)) else
  if l1 = 2 then (j_b1 (f_X1_judge 40 22 41 71 72 (0 : Int32) σ1) fun σ5 =>
  some ((σ5.1 40 0), σ5)) else
  if l1 = 3 then (j_b1 (f_X1_judge 40 22 41 73 74 (0 : Int32) σ1) fun σ6 =>
  some ((σ6.1 40 0), σ6)) else
  none)
theorem c_X11_counted (l1 : Int32) (σ : j_G) : j_K true 4 162 [.ref 0, .int l1] σ (f_X11_counted l1 σ) j_Ri := by
  refine j_mkK (M := M_cX11_counted) (L := [some (.ref 0), some (.int l1), none]) (m := 1) t_162 rfl (j_rcvO j_a0 rfl) rfl (fun d hd τ => ?_)
  unfold f_X11_counted
  refine j_aload_n (pc' := 1) rfl rfl rfl ?_
  refine j_iload_n (pc' := 2) rfl rfl rfl ?_
  refine j_callRi (pc' := 5) (ai := 194) (vs := [.ref 0, .int l1]) (rest := []) rfl rfl (fun _ _ => rfl) (c_X11_whyNoBlows l1 σ) (j_dd rfl hd) rfl (fun v2 σ1 => ?_)
  refine j_istore_n (pc' := 6) (L' := [some (.ref 0), some (.int l1), some (.int v2)]) rfl rfl rfl ?_
  refine j_iload_n (pc' := 7) rfl rfl rfl ?_
  refine j_two (pT := 10) (pF := 12) (L1 := [some (.ref 0), some (.int l1), some (.int v2)]) (st1 := []) (fun o kT kF => ?_) (fun h5 => ?_) (fun h5 => ?_)
  · refine j_ifeq (t := 12) (pc' := 10) rfl rfl rfl (fun h6 => ?_) (fun h6 => ?_)
    · exact kF (fun z => z h6)
    · exact kT h6
  · refine j_iload_n (pc' := 11) rfl rfl rfl ?_
    exact j_ret rfl rfl rfl (fun _ h => h)
  · refine j_aload_n (pc' := 13) rfl rfl rfl ?_
    refine j_gfr (pc' := 16) (x := 40) rfl rfl j_a0 rfl rfl ?_
    refine j_aload_n (pc' := 17) rfl rfl rfl ?_
    refine j_gfr (pc' := 20) (x := 22) rfl rfl j_a0 rfl rfl ?_
    refine j_aload_n (pc' := 21) rfl rfl rfl ?_
    refine j_gfr (pc' := 24) (x := 42) rfl rfl j_a0 rfl rfl ?_
    refine j_iload_n (pc' := 25) rfl rfl rfl ?_
    refine j_spl (k := (0 : Int32)) (fun h1 => ?_) (fun h1 => ?_)
    · subst h1
      refine j_aald (pc' := 26) (r := 67) rfl rfl j_a42 (by decide) rfl ?_
      refine j_iconst (pc' := 27) (x := (0 : Int32)) rfl rfl rfl ?_
      refine j_callRv (pc' := 30) (ai := 6) (vs := [.ref 40, .ref 22, .ref 67, .int (0 : Int32)]) (rest := []) rfl rfl (fun _ _ => rfl) (c_X1_judge_40_22_67 (0 : Int32) σ1) (j_dd rfl hd) rfl (fun σ3 => ?_)
      refine j_aload_n (pc' := 31) rfl rfl rfl ?_
      refine j_gfr (pc' := 34) (x := 40) rfl rfl j_a0 rfl rfl ?_
      refine j_gfi (pc' := 37) rfl rfl j_a40 rfl ?_
      exact j_ret rfl rfl rfl (fun _ h => h)
    refine j_spl (k := (1 : Int32)) (fun h2 => ?_) (fun h2 => ?_)
    · subst h2
      refine j_aald (pc' := 26) (r := 69) rfl rfl j_a42 (by decide) rfl ?_
      refine j_iconst (pc' := 27) (x := (0 : Int32)) rfl rfl rfl ?_
      refine j_callRv (pc' := 30) (ai := 6) (vs := [.ref 40, .ref 22, .ref 69, .int (0 : Int32)]) (rest := []) rfl rfl (fun _ _ => rfl) (c_X1_judge_40_22_69 (0 : Int32) σ1) (j_dd rfl hd) rfl (fun σ4 => ?_)
      refine j_aload_n (pc' := 31) rfl rfl rfl ?_
      refine j_gfr (pc' := 34) (x := 40) rfl rfl j_a0 rfl rfl ?_
      refine j_gfi (pc' := 37) rfl rfl j_a40 rfl ?_
      exact j_ret rfl rfl rfl (fun _ h => h)
    refine j_spl (k := (2 : Int32)) (fun h3 => ?_) (fun h3 => ?_)
    · subst h3
      refine j_aald (pc' := 26) (r := 71) rfl rfl j_a42 (by decide) rfl ?_
      refine j_iconst (pc' := 27) (x := (0 : Int32)) rfl rfl rfl ?_
      refine j_callRv (pc' := 30) (ai := 6) (vs := [.ref 40, .ref 22, .ref 71, .int (0 : Int32)]) (rest := []) rfl rfl (fun _ _ => rfl) (c_X1_judge_40_22_71 (0 : Int32) σ1) (j_dd rfl hd) rfl (fun σ5 => ?_)
      refine j_aload_n (pc' := 31) rfl rfl rfl ?_
      refine j_gfr (pc' := 34) (x := 40) rfl rfl j_a0 rfl rfl ?_
      refine j_gfi (pc' := 37) rfl rfl j_a40 rfl ?_
      exact j_ret rfl rfl rfl (fun _ h => h)
    refine j_spl (k := (3 : Int32)) (fun h4 => ?_) (fun h4 => ?_)
    · subst h4
      refine j_aald (pc' := 26) (r := 73) rfl rfl j_a42 (by decide) rfl ?_
      refine j_iconst (pc' := 27) (x := (0 : Int32)) rfl rfl rfl ?_
      refine j_callRv (pc' := 30) (ai := 6) (vs := [.ref 40, .ref 22, .ref 73, .int (0 : Int32)]) (rest := []) rfl rfl (fun _ _ => rfl) (c_X1_judge_40_22_73 (0 : Int32) σ1) (j_dd rfl hd) rfl (fun σ6 => ?_)
      refine j_aload_n (pc' := 31) rfl rfl rfl ?_
      refine j_gfr (pc' := 34) (x := 40) rfl rfl j_a0 rfl rfl ?_
      refine j_gfi (pc' := 37) rfl rfl j_a40 rfl ?_
      exact j_ret rfl rfl rfl (fun _ h => h)
    exact j_none

noncomputable def p_X12_asksBlows_46 (l1 : Int32) (σ : j_G) : Nat → Int32 → Option Int32
  | 0, _ => none
  | n + 1, l2 =>
    j_ix l1 4 (
    if l2 < (σ.1 94 (l1).toNatClampNeg) then (j_b1 (f_X12_numberAt l1 l2 σ) fun v1 =>
    j_b1 (f_X12_isHole v1 σ) fun v2 =>
    if ¬ v2 = 0 then (j_b1 (f_X12_numberAt l1 (l2 + (1 : Int32)) σ) fun v3 =>
    j_b1 (f_X12_isTick v3 σ) fun v4 =>
    if v4 = 0 then (some (-2 : Int32)) else (p_X12_asksBlows_46 l1 σ n (l2 + (2 : Int32)))) else (some (-2 : Int32))) else (some (0 : Int32)))

noncomputable def f_X12_asksBlows (l1 : Int32) (σ : j_G) : Option Int32 :=
  if ¬ (f_X12_isSlot l1) = 0 then (j_b1 (f_X12_isBoard σ) fun v1 =>
  if v1 = 0 then (some (-2 : Int32)) else (j_ix l1 4 (
  if (σ.1 94 (l1).toNatClampNeg) = (-1 : Int32) then (some (-6 : Int32)) else (j_ix l1 4 (
  if (2 : Int32) = 0 then none else (
  if ¬ ((σ.1 94 (l1).toNatClampNeg) - (σ.1 94 (l1).toNatClampNeg) / (2 : Int32) * (2 : Int32)) = 0 then (some (-2 : Int32)) else (p_X12_asksBlows_46 l1 σ j_F (0 : Int32)))))))) else (some (-2 : Int32))
theorem l_X12_asksBlows_46 {d : Nat} (hd : 2 ≤ d) (τ : j_G) (l1 : Int32) (σ : j_G) : ∀ (n : Nat) (l2 : Int32), j_J false τ M_cX12_asksBlows d 46 [some (.ref 75), some (.int l1), some (.int l2)] [] σ (p_X12_asksBlows_46 l1 σ n l2) (j_Pi σ) := by
  intro n
  induction n with
  | zero => intro l2; exact j_none
  | succ n ih =>
    intro l2
    unfold p_X12_asksBlows_46
    refine j_iload_n (pc' := 47) rfl rfl rfl ?_
    refine j_aload_n (pc' := 48) rfl rfl rfl ?_
    refine j_gfr (pc' := 51) (x := 94) rfl rfl j_a75 rfl rfl ?_
    refine j_iload_n (pc' := 52) rfl rfl rfl ?_
    refine j_iald (pc' := 53) rfl rfl j_a94 ?_
    refine j_two (pT := 56) (pF := 93) (L1 := [some (.ref 75), some (.int l1), some (.int l2)]) (st1 := []) (fun o kT kF => ?_) (fun h5 => ?_) (fun h5 => ?_)
    · refine j_icge (t := 93) (pc' := 56) rfl rfl rfl (fun h6 => ?_) (fun h6 => ?_)
      · exact kF h6
      · exact kT h6
    · refine j_aload_n (pc' := 57) rfl rfl rfl ?_
      refine j_aload_n (pc' := 58) rfl rfl rfl ?_
      refine j_iload_n (pc' := 59) rfl rfl rfl ?_
      refine j_iload_n (pc' := 60) rfl rfl rfl ?_
      refine j_callPl (pc' := 63) (ai := 298) (vs := [.ref 75, .int l1, .int l2]) (rest := [.ref 75]) rfl rfl (fun _ _ => rfl) (c_X12_numberAt l1 l2 σ) (j_dd rfl hd) rfl (fun v1 => ?_)
      refine j_callPi (pc' := 66) (ai := 201) (vs := [.ref 75, .long v1]) (rest := []) rfl rfl (fun _ _ => rfl) (c_X12_isHole v1 σ) (j_dd rfl hd) rfl (fun v2 => ?_)
      refine j_two (pT := 69) (pF := 84) (L1 := [some (.ref 75), some (.int l1), some (.int l2)]) (st1 := []) (fun o kT kF => ?_) (fun h3 => ?_) (fun h3 => ?_)
      · refine j_ifeq (t := 84) (pc' := 69) rfl rfl rfl (fun h4 => ?_) (fun h4 => ?_)
        · exact kF (fun z => z h4)
        · exact kT h4
      · refine j_aload_n (pc' := 70) rfl rfl rfl ?_
        refine j_aload_n (pc' := 71) rfl rfl rfl ?_
        refine j_iload_n (pc' := 72) rfl rfl rfl ?_
        refine j_iload_n (pc' := 73) rfl rfl rfl ?_
        refine j_iconst (pc' := 74) (x := (1 : Int32)) rfl rfl rfl ?_
        refine j_iadd (pc' := 75) rfl rfl ?_
        refine j_callPl (pc' := 78) (ai := 298) (vs := [.ref 75, .int l1, .int (l2 + (1 : Int32))]) (rest := [.ref 75]) rfl rfl (fun _ _ => rfl) (c_X12_numberAt l1 (l2 + (1 : Int32)) σ) (j_dd rfl hd) rfl (fun v3 => ?_)
        refine j_callPi (pc' := 81) (ai := 203) (vs := [.ref 75, .long v3]) (rest := []) rfl rfl (fun _ _ => rfl) (c_X12_isTick v3 σ) (j_dd rfl hd) rfl (fun v4 => ?_)
        refine j_two (pT := 84) (pF := 87) (L1 := [some (.ref 75), some (.int l1), some (.int l2)]) (st1 := []) (fun o kT kF => ?_) (fun h1 => ?_) (fun h1 => ?_)
        · refine j_ifne (t := 87) (pc' := 84) rfl rfl rfl (fun h2 => ?_) (fun h2 => ?_)
          · exact kF h2
          · exact kT h2
        · refine j_bipush (pc' := 86) (x := (-2 : Int32)) rfl rfl rfl ?_
          exact j_ret rfl rfl rfl (fun _ h => h)
        · refine j_iincx (pc' := 90) (y := (2 : Int32)) (L' := [some (.ref 75), some (.int l1), some (.int (l2 + (2 : Int32)))]) rfl rfl rfl rfl rfl ?_
          refine j_goto (t := 46) rfl rfl ?_
          exact ih (l2 + (2 : Int32))
      · refine j_bipush (pc' := 86) (x := (-2 : Int32)) rfl rfl rfl ?_
        exact j_ret rfl rfl rfl (fun _ h => h)
    · refine j_iconst (pc' := 94) (x := (0 : Int32)) rfl rfl rfl ?_
      exact j_ret rfl rfl rfl (fun _ h => h)

theorem c_X12_asksBlows (l1 : Int32) (σ : j_G) : j_K false 2 323 [.ref 75, .int l1] σ (f_X12_asksBlows l1 σ) (j_Pi σ) := by
  refine j_mkK (M := M_cX12_asksBlows) (L := [some (.ref 75), some (.int l1), none]) (m := 1) t_323 rfl (j_rcvO j_a75 rfl) rfl (fun d hd τ => ?_)
  unfold f_X12_asksBlows
  refine j_iload_n (pc' := 1) rfl rfl rfl ?_
  refine j_callTi (pc' := 4) (ai := 351) (vs := [.int l1]) (rest := []) rfl rfl (fun _ _ => rfl) (c_X12_isSlot l1 σ) (j_dd rfl hd) rfl ?_
  refine j_two (pT := 7) (pF := 14) (L1 := [some (.ref 75), some (.int l1), none]) (st1 := []) (fun o kT kF => ?_) (fun h7 => ?_) (fun h7 => ?_)
  · refine j_ifeq (t := 14) (pc' := 7) rfl rfl rfl (fun h8 => ?_) (fun h8 => ?_)
    · exact kF (fun z => z h8)
    · exact kT h8
  · refine j_aload_n (pc' := 8) rfl rfl rfl ?_
    refine j_callPi (pc' := 11) (ai := 199) (vs := [.ref 75]) (rest := []) rfl rfl (fun _ _ => rfl) (c_X12_isBoard  σ) (j_dd rfl hd) rfl (fun v1 => ?_)
    refine j_two (pT := 14) (pF := 17) (L1 := [some (.ref 75), some (.int l1), none]) (st1 := []) (fun o kT kF => ?_) (fun h5 => ?_) (fun h5 => ?_)
    · refine j_ifne (t := 17) (pc' := 14) rfl rfl rfl (fun h6 => ?_) (fun h6 => ?_)
      · exact kF h6
      · exact kT h6
    · refine j_bipush (pc' := 16) (x := (-2 : Int32)) rfl rfl rfl ?_
      exact j_ret rfl rfl rfl (fun _ h => h)
    · refine j_aload_n (pc' := 18) rfl rfl rfl ?_
      refine j_gfr (pc' := 21) (x := 94) rfl rfl j_a75 rfl rfl ?_
      refine j_iload_n (pc' := 22) rfl rfl rfl ?_
      refine j_iald (pc' := 23) rfl rfl j_a94 ?_
      refine j_iconst (pc' := 24) (x := (-1 : Int32)) rfl rfl rfl ?_
      refine j_two (pT := 27) (pF := 30) (L1 := [some (.ref 75), some (.int l1), none]) (st1 := []) (fun o kT kF => ?_) (fun h3 => ?_) (fun h3 => ?_)
      · refine j_icne (t := 30) (pc' := 27) rfl rfl rfl (fun h4 => ?_) (fun h4 => ?_)
        · exact kF h4
        · exact kT h4
      · refine j_bipush (pc' := 29) (x := (-6 : Int32)) rfl rfl rfl ?_
        exact j_ret rfl rfl rfl (fun _ h => h)
      · refine j_aload_n (pc' := 31) rfl rfl rfl ?_
        refine j_gfr (pc' := 34) (x := 94) rfl rfl j_a75 rfl rfl ?_
        refine j_iload_n (pc' := 35) rfl rfl rfl ?_
        refine j_iald (pc' := 36) rfl rfl j_a94 ?_
        refine j_iconst (pc' := 37) (x := (2 : Int32)) rfl rfl rfl ?_
        refine j_irem (pc' := 38) rfl rfl ?_
        refine j_two (pT := 41) (pF := 44) (L1 := [some (.ref 75), some (.int l1), none]) (st1 := []) (fun o kT kF => ?_) (fun h1 => ?_) (fun h1 => ?_)
        · refine j_ifeq (t := 44) (pc' := 41) rfl rfl rfl (fun h2 => ?_) (fun h2 => ?_)
          · exact kF (fun z => z h2)
          · exact kT h2
        · refine j_bipush (pc' := 43) (x := (-2 : Int32)) rfl rfl rfl ?_
          exact j_ret rfl rfl rfl (fun _ h => h)
        · refine j_iconst (pc' := 45) (x := (0 : Int32)) rfl rfl rfl ?_
          refine j_istore_n (pc' := 46) (L' := [some (.ref 75), some (.int l1), some (.int (0 : Int32))]) rfl rfl rfl ?_
          exact (l_X12_asksBlows_46 hd τ l1 σ j_F (0 : Int32))
  · refine j_bipush (pc' := 16) (x := (-2 : Int32)) rfl rfl rfl ?_
    exact j_ret rfl rfl rfl (fun _ h => h)

noncomputable def p_X12_strike_3 (l1 : Int32) (l2 : Int32) (l3 : Int32) (σ : j_G) : Nat → Int32 → Option j_G
  | 0, _ => none
  | n + 1, l4 =>
    if l4 < (σ.1 75 18) then (j_b1 (f_X12_inGame l4 (0 : Int32) σ) fun v1 =>
    j_b1 (if v1 = l1 then (some (1 : Int32)) else (j_b1 (f_X12_inGame l4 (1 : Int32) σ) fun v3 =>
    if v3 = l1 then (some (2 : Int32)) else (some (0 : Int32)))) fun v2 =>
    j_lt (p_X12_strike_3 l1 l2 l3 σ n (l4 + (1 : Int32))) fun (k4 : Option j_G) =>
    if ¬ v2 = 0 then (j_ix l4 60 (
    j_ix l4 60 (
    if ¬ (f_X12_in (l2).toInt64 ((σ.1 83 (l4).toNatClampNeg)).toInt64 ((σ.1 84 (l4).toNatClampNeg)).toInt64) = 0 then (j_ix l4 60 (
    if ¬ ((σ.1 93 (l4).toNatClampNeg) &&& v2) = 0 then (k4) else (j_ix l4 60 (
    j_ix l4 60 (
    j_lt (j_si σ 93 (l4).toNatClampNeg ((σ.1 93 (l4).toNatClampNeg) ||| v2)) fun σ5 =>
    j_b1 (f_X12_inGame l4 (2 : Int32) σ5) fun v6 =>
    j_lt (j_si σ5 75 39 ((σ5.1 75 39) + ((1 : Int32) - v6))) fun σ7 =>
    j_b1 (f_X12_inGame l4 (2 : Int32) σ7) fun v8 =>
    j_lt (j_si σ7 75 40 ((σ7.1 75 40) + v8)) fun σ9 =>
    j_ix l4 60 (
    j_lt (if (l2 - (σ9.1 83 (l4).toNatClampNeg)) < l3 then ((1 : Int32)) else ((0 : Int32))) fun v10 =>
    j_lt (j_si σ9 75 41 ((σ9.1 75 41) + v10)) fun σ11 =>
    some σ11)))))) else (k4)))) else (k4)) else (some σ)

noncomputable def f_X12_strike (l1 : Int32) (l2 : Int32) (l3 : Int32) (σ : j_G) : Option j_G :=
  p_X12_strike_3 l1 l2 l3 σ j_F (0 : Int32)
theorem l_X12_strike_3 {d : Nat} (hd : 1 ≤ d) (τ : j_G) (l1 : Int32) (l2 : Int32) (l3 : Int32) (σ : j_G) : ∀ (n : Nat) (l4 : Int32), j_J false τ M_cX12_strike d 3 [some (.ref 75), some (.int l1), some (.int l2), some (.int l3), some (.int l4), none] [] σ (p_X12_strike_3 l1 l2 l3 σ n l4) j_Rv := by
  intro n
  induction n with
  | zero => intro l4; exact j_none
  | succ n ih =>
    intro l4
    unfold p_X12_strike_3
    refine j_iload (pc' := 5) rfl rfl rfl ?_
    refine j_aload_n (pc' := 6) rfl rfl rfl ?_
    refine j_gfi (pc' := 9) rfl rfl j_a75 rfl ?_
    refine j_two (pT := 12) (pF := 170) (L1 := [some (.ref 75), some (.int l1), some (.int l2), some (.int l3), some (.int l4), none]) (st1 := []) (fun o kT kF => ?_) (fun h13 => ?_) (fun h13 => ?_)
    · refine j_icge (t := 170) (pc' := 12) rfl rfl rfl (fun h14 => ?_) (fun h14 => ?_)
      · exact kF h14
      · exact kT h14
    · refine j_aload_n (pc' := 13) rfl rfl rfl ?_
      refine j_iload (pc' := 15) rfl rfl rfl ?_
      refine j_iconst (pc' := 16) (x := (0 : Int32)) rfl rfl rfl ?_
      refine j_callPi (pc' := 19) (ai := 238) (vs := [.ref 75, .int l4, .int (0 : Int32)]) (rest := []) rfl rfl (fun _ _ => rfl) (c_X12_inGame l4 (0 : Int32) σ) (j_dd rfl hd) rfl (fun v1 => ?_)
      refine j_iload_n (pc' := 20) rfl rfl rfl ?_
      refine j_q1 (Φl := (fun r Q => j_Tr false τ M_cX12_strike d 43 [some (.ref 75), some (.int l1), some (.int l2), some (.int l3), some (.int l4), none] [.int r] σ Q)) ?_ (fun v2 => ?_)
      · refine j_two (pT := 23) (pF := 27) (L1 := [some (.ref 75), some (.int l1), some (.int l2), some (.int l3), some (.int l4), none]) (st1 := []) (fun o kT kF => ?_) (fun h3 => ?_) (fun h3 => ?_)
        · refine j_icne (t := 27) (pc' := 23) rfl rfl rfl (fun h4 => ?_) (fun h4 => ?_)
          · exact kF h4
          · exact kT h4
        · refine j_iconst (pc' := 24) (x := (1 : Int32)) rfl rfl rfl ?_
          refine j_goto (t := 43) rfl rfl ?_
          exact j_end (fun _ h => h)
        · refine j_aload_n (pc' := 28) rfl rfl rfl ?_
          refine j_iload (pc' := 30) rfl rfl rfl ?_
          refine j_iconst (pc' := 31) (x := (1 : Int32)) rfl rfl rfl ?_
          refine j_callPi (pc' := 34) (ai := 238) (vs := [.ref 75, .int l4, .int (1 : Int32)]) (rest := []) rfl rfl (fun _ _ => rfl) (c_X12_inGame l4 (1 : Int32) σ) (j_dd rfl hd) rfl (fun v3 => ?_)
          refine j_iload_n (pc' := 35) rfl rfl rfl ?_
          refine j_two (pT := 38) (pF := 42) (L1 := [some (.ref 75), some (.int l1), some (.int l2), some (.int l3), some (.int l4), none]) (st1 := []) (fun o kT kF => ?_) (fun h1 => ?_) (fun h1 => ?_)
          · refine j_icne (t := 42) (pc' := 38) rfl rfl rfl (fun h2 => ?_) (fun h2 => ?_)
            · exact kF h2
            · exact kT h2
          · refine j_iconst (pc' := 39) (x := (2 : Int32)) rfl rfl rfl ?_
            refine j_goto (t := 43) rfl rfl ?_
            exact j_end (fun _ h => h)
          · refine j_iconst (pc' := 43) (x := (0 : Int32)) rfl rfl rfl ?_
            exact j_end (fun _ h => h)
      show j_J false τ M_cX12_strike d 43 [some (.ref 75), some (.int l1), some (.int l2), some (.int l3), some (.int l4), none] [.int v2] σ _ _
      refine j_istore (pc' := 45) (L' := [some (.ref 75), some (.int l1), some (.int l2), some (.int l3), some (.int l4), some (.int v2)]) rfl rfl rfl ?_
      refine j_iload (pc' := 47) rfl rfl rfl ?_
      refine j_jn (P := (fun k => j_J false τ M_cX12_strike d 164 [some (.ref 75), some (.int l1), some (.int l2), some (.int l3), some (.int l4), none] [] σ (k ) j_Rv)) ?_ (fun k4 k4_h => ?_)
      · refine j_iincx (pc' := 167) (y := (1 : Int32)) (L' := [some (.ref 75), some (.int l1), some (.int l2), some (.int l3), some (.int (l4 + (1 : Int32))), none]) rfl rfl rfl rfl rfl ?_
        refine j_goto (t := 3) rfl rfl ?_
        exact ih (l4 + (1 : Int32))
      · refine j_two (pT := 50) (pF := 164) (L1 := [some (.ref 75), some (.int l1), some (.int l2), some (.int l3), some (.int l4), some (.int v2)]) (st1 := []) (fun o kT kF => ?_) (fun h11 => ?_) (fun h11 => ?_)
        · refine j_ifeq (t := 164) (pc' := 50) rfl rfl rfl (fun h12 => ?_) (fun h12 => ?_)
          · exact kF (fun z => z h12)
          · exact kT h12
        · refine j_iload_n (pc' := 51) rfl rfl rfl ?_
          refine j_i2l (pc' := 52) rfl rfl ?_
          refine j_aload_n (pc' := 53) rfl rfl rfl ?_
          refine j_gfr (pc' := 56) (x := 83) rfl rfl j_a75 rfl rfl ?_
          refine j_iload (pc' := 58) rfl rfl rfl ?_
          refine j_iald (pc' := 59) rfl rfl j_a83 ?_
          refine j_i2l (pc' := 60) rfl rfl ?_
          refine j_aload_n (pc' := 61) rfl rfl rfl ?_
          refine j_gfr (pc' := 64) (x := 84) rfl rfl j_a75 rfl rfl ?_
          refine j_iload (pc' := 66) rfl rfl rfl ?_
          refine j_iald (pc' := 67) rfl rfl j_a84 ?_
          refine j_i2l (pc' := 68) rfl rfl ?_
          refine j_callTi (pc' := 71) (ai := 196) (vs := [.long (l2).toInt64, .long ((σ.1 83 (l4).toNatClampNeg)).toInt64, .long ((σ.1 84 (l4).toNatClampNeg)).toInt64]) (rest := []) rfl rfl (fun _ _ => rfl) (c_X12_in (l2).toInt64 ((σ.1 83 (l4).toNatClampNeg)).toInt64 ((σ.1 84 (l4).toNatClampNeg)).toInt64 σ) (j_dd rfl hd) rfl ?_
          refine j_two (pT := 74) (pF := 164) (L1 := [some (.ref 75), some (.int l1), some (.int l2), some (.int l3), some (.int l4), some (.int v2)]) (st1 := []) (fun o kT kF => ?_) (fun h9 => ?_) (fun h9 => ?_)
          · refine j_ifeq (t := 164) (pc' := 74) rfl rfl rfl (fun h10 => ?_) (fun h10 => ?_)
            · exact kF (fun z => z h10)
            · exact kT h10
          · refine j_aload_n (pc' := 75) rfl rfl rfl ?_
            refine j_gfr (pc' := 78) (x := 93) rfl rfl j_a75 rfl rfl ?_
            refine j_iload (pc' := 80) rfl rfl rfl ?_
            refine j_iald (pc' := 81) rfl rfl j_a93 ?_
            refine j_iload (pc' := 83) rfl rfl rfl ?_
            refine j_iand (pc' := 84) rfl rfl ?_
            refine j_two (pT := 87) (pF := 90) (L1 := [some (.ref 75), some (.int l1), some (.int l2), some (.int l3), some (.int l4), some (.int v2)]) (st1 := []) (fun o kT kF => ?_) (fun h7 => ?_) (fun h7 => ?_)
            · refine j_ifeq (t := 90) (pc' := 87) rfl rfl rfl (fun h8 => ?_) (fun h8 => ?_)
              · exact kF (fun z => z h8)
              · exact kT h8
            · refine j_goto (t := 164) rfl rfl ?_
              refine j_wk [true, true, true, true, true, false] (L' := [some (.ref 75), some (.int l1), some (.int l2), some (.int l3), some (.int l4), none]) rfl ?_
              exact k4_h 
            · refine j_aload_n (pc' := 91) rfl rfl rfl ?_
              refine j_gfr (pc' := 94) (x := 93) rfl rfl j_a75 rfl rfl ?_
              refine j_iload (pc' := 96) rfl rfl rfl ?_
              refine j_dup2 (pc' := 97) rfl rfl rfl rfl ?_
              refine j_iald (pc' := 98) rfl rfl j_a93 ?_
              refine j_iload (pc' := 100) rfl rfl rfl ?_
              refine j_ior (pc' := 101) rfl rfl ?_
              refine j_iast (pc' := 102) rfl rfl j_a93 (fun σ5 => ?_)
              refine j_aload_n (pc' := 103) rfl rfl rfl ?_
              refine j_dup (pc' := 104) rfl rfl rfl ?_
              refine j_gfi (pc' := 107) rfl rfl j_a75 rfl ?_
              refine j_iconst (pc' := 108) (x := (1 : Int32)) rfl rfl rfl ?_
              refine j_aload_n (pc' := 109) rfl rfl rfl ?_
              refine j_iload (pc' := 111) rfl rfl rfl ?_
              refine j_iconst (pc' := 112) (x := (2 : Int32)) rfl rfl rfl ?_
              refine j_callPi (pc' := 115) (ai := 238) (vs := [.ref 75, .int l4, .int (2 : Int32)]) (rest := [.int (1 : Int32), .int (σ5.1 75 39), .ref 75]) rfl rfl (fun _ _ => rfl) (c_X12_inGame l4 (2 : Int32) σ5) (j_dd rfl hd) rfl (fun v6 => ?_)
              refine j_isub (pc' := 116) rfl rfl ?_
              refine j_iadd (pc' := 117) rfl rfl ?_
              refine j_pfi (pc' := 120) rfl rfl j_a75 rfl rfl (fun σ7 => ?_)
              refine j_aload_n (pc' := 121) rfl rfl rfl ?_
              refine j_dup (pc' := 122) rfl rfl rfl ?_
              refine j_gfi (pc' := 125) rfl rfl j_a75 rfl ?_
              refine j_aload_n (pc' := 126) rfl rfl rfl ?_
              refine j_iload (pc' := 128) rfl rfl rfl ?_
              refine j_iconst (pc' := 129) (x := (2 : Int32)) rfl rfl rfl ?_
              refine j_callPi (pc' := 132) (ai := 238) (vs := [.ref 75, .int l4, .int (2 : Int32)]) (rest := [.int (σ7.1 75 40), .ref 75]) rfl rfl (fun _ _ => rfl) (c_X12_inGame l4 (2 : Int32) σ7) (j_dd rfl hd) rfl (fun v8 => ?_)
              refine j_iadd (pc' := 133) rfl rfl ?_
              refine j_pfi (pc' := 136) rfl rfl j_a75 rfl rfl (fun σ9 => ?_)
              refine j_aload_n (pc' := 137) rfl rfl rfl ?_
              refine j_dup (pc' := 138) rfl rfl rfl ?_
              refine j_gfi (pc' := 141) rfl rfl j_a75 rfl ?_
              refine j_iload_n (pc' := 142) rfl rfl rfl ?_
              refine j_aload_n (pc' := 143) rfl rfl rfl ?_
              refine j_gfr (pc' := 146) (x := 83) rfl rfl j_a75 rfl rfl ?_
              refine j_iload (pc' := 148) rfl rfl rfl ?_
              refine j_iald (pc' := 149) rfl rfl j_a83 ?_
              refine j_isub (pc' := 150) rfl rfl ?_
              refine j_iload_n (pc' := 151) rfl rfl rfl ?_
              refine j_ql (Φl := (fun r Q => j_Tr false τ M_cX12_strike d 159 [none, none, none, none, none, none] [.int r, .int (σ9.1 75 41), .ref 75] σ9 Q)) ?_ (fun v10 => ?_)
              · refine j_twoT (pT := 154) (pF := 158) (L1 := [some (.ref 75), some (.int l1), some (.int l2), some (.int l3), some (.int l4), some (.int v2)]) (st1 := [.int (σ9.1 75 41), .ref 75]) (fun o kT kF => ?_) (fun h5 => ?_) (fun h5 => ?_)
                · refine j_icge (t := 158) (pc' := 154) rfl rfl rfl (fun h6 => ?_) (fun h6 => ?_)
                  · exact kF h6
                  · exact kT h6
                · refine j_iconst (pc' := 155) (x := (1 : Int32)) rfl rfl rfl ?_
                  refine j_goto (t := 159) rfl rfl ?_
                  refine j_wk [false, false, false, false, false, false] (L' := [none, none, none, none, none, none]) rfl ?_
                  exact j_end (fun _ h => h)
                · refine j_iconst (pc' := 159) (x := (0 : Int32)) rfl rfl rfl ?_
                  refine j_wk [false, false, false, false, false, false] (L' := [none, none, none, none, none, none]) rfl ?_
                  exact j_end (fun _ h => h)
              show j_J false τ M_cX12_strike d 159 [none, none, none, none, none, none] [.int v10, .int (σ9.1 75 41), .ref 75] σ9 _ _
              refine j_iadd (pc' := 160) rfl rfl ?_
              refine j_pfi (pc' := 163) rfl rfl j_a75 rfl rfl (fun σ11 => ?_)
              exact j_ret rfl rfl rfl (fun _ h => h)
          · refine j_wk [true, true, true, true, true, false] (L' := [some (.ref 75), some (.int l1), some (.int l2), some (.int l3), some (.int l4), none]) rfl ?_
            exact k4_h 
        · refine j_wk [true, true, true, true, true, false] (L' := [some (.ref 75), some (.int l1), some (.int l2), some (.int l3), some (.int l4), none]) rfl ?_
          exact k4_h 
    · exact j_ret rfl rfl rfl (fun _ h => h)

theorem c_X12_strike (l1 : Int32) (l2 : Int32) (l3 : Int32) (σ : j_G) : j_K false 1 324 [.ref 75, .int l1, .int l2, .int l3] σ (f_X12_strike l1 l2 l3 σ) j_Rv := by
  refine j_mkK (M := M_cX12_strike) (L := [some (.ref 75), some (.int l1), some (.int l2), some (.int l3), none, none]) (m := 2) t_324 rfl (j_rcvO j_a75 rfl) rfl (fun d hd τ => ?_)
  unfold f_X12_strike
  refine j_iconst (pc' := 1) (x := (0 : Int32)) rfl rfl rfl ?_
  refine j_istore (pc' := 3) (L' := [some (.ref 75), some (.int l1), some (.int l2), some (.int l3), some (.int (0 : Int32)), none]) rfl rfl rfl ?_
  exact (l_X12_strike_3 hd τ l1 l2 l3 σ j_F (0 : Int32))

noncomputable def p_X12_layBlows_21 (l1 : Int32) (l2 : Int32) : Nat → Int32 → j_G → Option j_G
  | 0, _, _ => none
  | n + 1, l3, σ =>
    if l3 < (σ.1 75 18) then (j_ix l3 60 (
    j_lt (j_si σ 93 (l3).toNatClampNeg (0 : Int32)) fun σ1 =>
    p_X12_layBlows_21 l1 l2 n (l3 + (1 : Int32)) σ1)) else (some σ)

noncomputable def p_X12_layBlows_44 (l1 : Int32) (l2 : Int32) : Nat → Int32 → j_G → Option j_G
  | 0, _, _ => none
  | n + 1, l3, σ =>
    j_ix l1 4 (
    if l3 < (σ.1 94 (l1).toNatClampNeg) then (j_b1 (f_X12_numberAt l1 l3 σ) fun v1 =>
    j_b1 (f_X12_numberAt l1 (l3 + (1 : Int32)) σ) fun v2 =>
    j_b1 (f_X12_strike (v1).toInt32 (v2).toInt32 l2 σ) fun σ3 =>
    p_X12_layBlows_44 l1 l2 n (l3 + (2 : Int32)) σ3) else (some σ))

noncomputable def f_X12_layBlows (l1 : Int32) (l2 : Int32) (σ : j_G) : Option j_G :=
  j_b1 (f_X12_lay σ) fun σ1 =>
  j_lt (j_si σ1 75 39 (0 : Int32)) fun σ2 =>
  j_lt (j_si σ2 75 40 (0 : Int32)) fun σ3 =>
  j_lt (j_si σ3 75 41 (0 : Int32)) fun σ4 =>
  j_b1 (p_X12_layBlows_21 l1 l2 j_F (0 : Int32) σ4) fun σ5 =>
  j_b1 (p_X12_layBlows_44 l1 l2 j_F (0 : Int32) σ5) fun σ6 =>
  some σ6
theorem l_X12_layBlows_21 {d : Nat} (hd : 3 ≤ d) (τ : j_G) (l1 : Int32) (l2 : Int32) : ∀ (n : Nat) (l3 : Int32) (σ : j_G), j_J false τ M_cX12_layBlows d 21 [some (.ref 75), some (.int l1), some (.int l2), some (.int l3)] [] σ (p_X12_layBlows_21 l1 l2 n l3 σ) (fun r Q => j_Tr false τ M_cX12_layBlows d 42 [some (.ref 75), some (.int l1), some (.int l2), none] [] r Q) := by
  intro n
  induction n with
  | zero => intro l3 σ; exact j_none
  | succ n ih =>
    intro l3 σ
    unfold p_X12_layBlows_21
    refine j_iload_n (pc' := 22) rfl rfl rfl ?_
    refine j_aload_n (pc' := 23) rfl rfl rfl ?_
    refine j_gfi (pc' := 26) rfl rfl j_a75 rfl ?_
    refine j_two (pT := 29) (pF := 42) (L1 := [some (.ref 75), some (.int l1), some (.int l2), some (.int l3)]) (st1 := []) (fun o kT kF => ?_) (fun h1 => ?_) (fun h1 => ?_)
    · refine j_icge (t := 42) (pc' := 29) rfl rfl rfl (fun h2 => ?_) (fun h2 => ?_)
      · exact kF h2
      · exact kT h2
    · refine j_aload_n (pc' := 30) rfl rfl rfl ?_
      refine j_gfr (pc' := 33) (x := 93) rfl rfl j_a75 rfl rfl ?_
      refine j_iload_n (pc' := 34) rfl rfl rfl ?_
      refine j_iconst (pc' := 35) (x := (0 : Int32)) rfl rfl rfl ?_
      refine j_iast (pc' := 36) rfl rfl j_a93 (fun σ1 => ?_)
      refine j_iincx (pc' := 39) (y := (1 : Int32)) (L' := [some (.ref 75), some (.int l1), some (.int l2), some (.int (l3 + (1 : Int32)))]) rfl rfl rfl rfl rfl ?_
      refine j_goto (t := 21) rfl rfl ?_
      exact ih (l3 + (1 : Int32)) σ1
    · refine j_wk [true, true, true, false] (L' := [some (.ref 75), some (.int l1), some (.int l2), none]) rfl ?_
      exact j_end (fun _ h => h)

theorem l_X12_layBlows_44 {d : Nat} (hd : 3 ≤ d) (τ : j_G) (l1 : Int32) (l2 : Int32) : ∀ (n : Nat) (l3 : Int32) (σ : j_G), j_J false τ M_cX12_layBlows d 44 [some (.ref 75), some (.int l1), some (.int l2), some (.int l3)] [] σ (p_X12_layBlows_44 l1 l2 n l3 σ) (fun r Q => j_Tr false τ M_cX12_layBlows d 81 [none, none, none, none] [] r Q) := by
  intro n
  induction n with
  | zero => intro l3 σ; exact j_none
  | succ n ih =>
    intro l3 σ
    unfold p_X12_layBlows_44
    refine j_iload_n (pc' := 45) rfl rfl rfl ?_
    refine j_aload_n (pc' := 46) rfl rfl rfl ?_
    refine j_gfr (pc' := 49) (x := 94) rfl rfl j_a75 rfl rfl ?_
    refine j_iload_n (pc' := 50) rfl rfl rfl ?_
    refine j_iald (pc' := 51) rfl rfl j_a94 ?_
    refine j_two (pT := 54) (pF := 81) (L1 := [some (.ref 75), some (.int l1), some (.int l2), some (.int l3)]) (st1 := []) (fun o kT kF => ?_) (fun h1 => ?_) (fun h1 => ?_)
    · refine j_icge (t := 81) (pc' := 54) rfl rfl rfl (fun h2 => ?_) (fun h2 => ?_)
      · exact kF h2
      · exact kT h2
    · refine j_aload_n (pc' := 55) rfl rfl rfl ?_
      refine j_aload_n (pc' := 56) rfl rfl rfl ?_
      refine j_iload_n (pc' := 57) rfl rfl rfl ?_
      refine j_iload_n (pc' := 58) rfl rfl rfl ?_
      refine j_callPl (pc' := 61) (ai := 298) (vs := [.ref 75, .int l1, .int l3]) (rest := [.ref 75]) rfl rfl (fun _ _ => rfl) (c_X12_numberAt l1 l3 σ) (j_dd rfl hd) rfl (fun v1 => ?_)
      refine j_l2i (pc' := 62) rfl rfl ?_
      refine j_aload_n (pc' := 63) rfl rfl rfl ?_
      refine j_iload_n (pc' := 64) rfl rfl rfl ?_
      refine j_iload_n (pc' := 65) rfl rfl rfl ?_
      refine j_iconst (pc' := 66) (x := (1 : Int32)) rfl rfl rfl ?_
      refine j_iadd (pc' := 67) rfl rfl ?_
      refine j_callPl (pc' := 70) (ai := 298) (vs := [.ref 75, .int l1, .int (l3 + (1 : Int32))]) (rest := [.int (v1).toInt32, .ref 75]) rfl rfl (fun _ _ => rfl) (c_X12_numberAt l1 (l3 + (1 : Int32)) σ) (j_dd rfl hd) rfl (fun v2 => ?_)
      refine j_l2i (pc' := 71) rfl rfl ?_
      refine j_iload_n (pc' := 72) rfl rfl rfl ?_
      refine j_callRv (pc' := 75) (ai := 324) (vs := [.ref 75, .int (v1).toInt32, .int (v2).toInt32, .int l2]) (rest := []) rfl rfl (fun _ _ => rfl) (c_X12_strike (v1).toInt32 (v2).toInt32 l2 σ) (j_dd rfl hd) rfl (fun σ3 => ?_)
      refine j_iincx (pc' := 78) (y := (2 : Int32)) (L' := [some (.ref 75), some (.int l1), some (.int l2), some (.int (l3 + (2 : Int32)))]) rfl rfl rfl rfl rfl ?_
      refine j_goto (t := 44) rfl rfl ?_
      exact ih (l3 + (2 : Int32)) σ3
    · refine j_wk [false, false, false, false] (L' := [none, none, none, none]) rfl ?_
      exact j_end (fun _ h => h)

theorem c_X12_layBlows (l1 : Int32) (l2 : Int32) (σ : j_G) : j_K false 3 325 [.ref 75, .int l1, .int l2] σ (f_X12_layBlows l1 l2 σ) j_Rv := by
  refine j_mkK (M := M_cX12_layBlows) (L := [some (.ref 75), some (.int l1), some (.int l2), none]) (m := 1) t_325 rfl (j_rcvO j_a75 rfl) rfl (fun d hd τ => ?_)
  unfold f_X12_layBlows
  refine j_aload_n (pc' := 1) rfl rfl rfl ?_
  refine j_callRv (pc' := 4) (ai := 237) (vs := [.ref 75]) (rest := []) rfl rfl (fun _ _ => rfl) (c_X12_lay  σ) (j_dd rfl hd) rfl (fun σ1 => ?_)
  refine j_aload_n (pc' := 5) rfl rfl rfl ?_
  refine j_iconst (pc' := 6) (x := (0 : Int32)) rfl rfl rfl ?_
  refine j_pfi (pc' := 9) rfl rfl j_a75 rfl rfl (fun σ2 => ?_)
  refine j_aload_n (pc' := 10) rfl rfl rfl ?_
  refine j_iconst (pc' := 11) (x := (0 : Int32)) rfl rfl rfl ?_
  refine j_pfi (pc' := 14) rfl rfl j_a75 rfl rfl (fun σ3 => ?_)
  refine j_aload_n (pc' := 15) rfl rfl rfl ?_
  refine j_iconst (pc' := 16) (x := (0 : Int32)) rfl rfl rfl ?_
  refine j_pfi (pc' := 19) rfl rfl j_a75 rfl rfl (fun σ4 => ?_)
  refine j_iconst (pc' := 20) (x := (0 : Int32)) rfl rfl rfl ?_
  refine j_istore_n (pc' := 21) (L' := [some (.ref 75), some (.int l1), some (.int l2), some (.int (0 : Int32))]) rfl rfl rfl ?_
  refine j_q1 (l_X12_layBlows_21 hd τ l1 l2 j_F (0 : Int32) σ4) (fun σ5 => ?_)
  show j_J false τ M_cX12_layBlows d 42 [some (.ref 75), some (.int l1), some (.int l2), none] [] σ5 _ _
  refine j_iconst (pc' := 43) (x := (0 : Int32)) rfl rfl rfl ?_
  refine j_istore_n (pc' := 44) (L' := [some (.ref 75), some (.int l1), some (.int l2), some (.int (0 : Int32))]) rfl rfl rfl ?_
  refine j_q1 (l_X12_layBlows_44 hd τ l1 l2 j_F (0 : Int32) σ5) (fun σ6 => ?_)
  show j_J false τ M_cX12_layBlows d 81 [none, none, none, none] [] σ6 _ _
  exact j_ret rfl rfl rfl (fun _ h => h)

noncomputable def f_X12_counted (l1 : Int32) (σ : j_G) : Option (Int32 × j_G) :=
  j_b1 (f_X12_asksBlows l1 σ) fun v1 =>
  if v1 < 0 then (some (v1, σ)) else (j_b1 (f_X12_layBlows l1 (0 : Int32) σ) fun σ2 =>
  some ((σ2.1 75 39), σ2))
theorem c_X12_counted (l1 : Int32) (σ : j_G) : j_K false 4 326 [.ref 75, .int l1] σ (f_X12_counted l1 σ) j_Ri := by
  refine j_mkK (M := M_cX12_counted) (L := [some (.ref 75), some (.int l1), none]) (m := 1) t_326 rfl (j_rcvO j_a75 rfl) rfl (fun d hd τ => ?_)
  unfold f_X12_counted
  refine j_aload_n (pc' := 1) rfl rfl rfl ?_
  refine j_iload_n (pc' := 2) rfl rfl rfl ?_
  refine j_callPi (pc' := 5) (ai := 323) (vs := [.ref 75, .int l1]) (rest := []) rfl rfl (fun _ _ => rfl) (c_X12_asksBlows l1 σ) (j_dd rfl hd) rfl (fun v1 => ?_)
  refine j_istore_n (pc' := 6) (L' := [some (.ref 75), some (.int l1), some (.int v1)]) rfl rfl rfl ?_
  refine j_iload_n (pc' := 7) rfl rfl rfl ?_
  refine j_two (pT := 10) (pF := 12) (L1 := [some (.ref 75), some (.int l1), some (.int v1)]) (st1 := []) (fun o kT kF => ?_) (fun h1 => ?_) (fun h1 => ?_)
  · refine j_ifge (t := 12) (pc' := 10) rfl rfl rfl (fun h2 => ?_) (fun h2 => ?_)
    · exact kF h2
    · exact kT h2
  · refine j_iload_n (pc' := 11) rfl rfl rfl ?_
    exact j_ret rfl rfl rfl (fun _ h => h)
  · refine j_aload_n (pc' := 13) rfl rfl rfl ?_
    refine j_iload_n (pc' := 14) rfl rfl rfl ?_
    refine j_iconst (pc' := 15) (x := (0 : Int32)) rfl rfl rfl ?_
    refine j_callRv (pc' := 18) (ai := 325) (vs := [.ref 75, .int l1, .int (0 : Int32)]) (rest := []) rfl rfl (fun _ _ => rfl) (c_X12_layBlows l1 (0 : Int32) σ) (j_dd rfl hd) rfl (fun σ2 => ?_)
    refine j_aload_n (pc' := 19) rfl rfl rfl ?_
    refine j_gfi (pc' := 22) rfl rfl j_a75 rfl ?_
    exact j_ret rfl rfl rfl (fun _ h => h)

noncomputable def f_X11_scored (l1 : Int32) (σ : j_G) : Option (Int32 × j_G) :=
  j_b2 (f_X11_whyNoBlows l1 σ) fun v2 σ1 =>
  if ¬ v2 = 0 then (some ((v2 * (1000 : Int32)), σ1)) else (if l1 = 0 then (j_b1 (f_X1_judge 40 22 41 67 68 (0 : Int32) σ1) fun σ3 =>
  some ((((10 : Int32) * (σ3.1 40 0)) - ((20 : Int32) * (σ3.1 40 1))), σ3)) else
  if l1 = 1 then (j_b1 (f_X1_judge 40 22 41 69 70 (0 : Int32) σ1) fun σ4 =>
  some ((((10 : Int32) * (σ4.1 40 0)) - ((20 : Int32) * (σ4.1 40 1))), σ4)) else
  if l1 = 2 then (j_b1 (f_X1_judge 40 22 41 71 72 (0 : Int32) σ1) fun σ5 =>
  some ((((10 : Int32) * (σ5.1 40 0)) - ((20 : Int32) * (σ5.1 40 1))), σ5)) else
  if l1 = 3 then (j_b1 (f_X1_judge 40 22 41 73 74 (0 : Int32) σ1) fun σ6 =>
  some ((((10 : Int32) * (σ6.1 40 0)) - ((20 : Int32) * (σ6.1 40 1))), σ6)) else
  none)
theorem c_X11_scored (l1 : Int32) (σ : j_G) : j_K true 4 163 [.ref 0, .int l1] σ (f_X11_scored l1 σ) j_Ri := by
  refine j_mkK (M := M_cX11_scored) (L := [some (.ref 0), some (.int l1), none]) (m := 1) t_163 rfl (j_rcvO j_a0 rfl) rfl (fun d hd τ => ?_)
  unfold f_X11_scored
  refine j_aload_n (pc' := 1) rfl rfl rfl ?_
  refine j_iload_n (pc' := 2) rfl rfl rfl ?_
  refine j_callRi (pc' := 5) (ai := 194) (vs := [.ref 0, .int l1]) (rest := []) rfl rfl (fun _ _ => rfl) (c_X11_whyNoBlows l1 σ) (j_dd rfl hd) rfl (fun v2 σ1 => ?_)
  refine j_istore_n (pc' := 6) (L' := [some (.ref 0), some (.int l1), some (.int v2)]) rfl rfl rfl ?_
  refine j_iload_n (pc' := 7) rfl rfl rfl ?_
  refine j_two (pT := 10) (pF := 16) (L1 := [some (.ref 0), some (.int l1), some (.int v2)]) (st1 := []) (fun o kT kF => ?_) (fun h5 => ?_) (fun h5 => ?_)
  · refine j_ifeq (t := 16) (pc' := 10) rfl rfl rfl (fun h6 => ?_) (fun h6 => ?_)
    · exact kF (fun z => z h6)
    · exact kT h6
  · refine j_iload_n (pc' := 11) rfl rfl rfl ?_
    refine j_sipush (pc' := 14) (x := (1000 : Int32)) rfl rfl rfl ?_
    refine j_imul (pc' := 15) rfl rfl ?_
    exact j_ret rfl rfl rfl (fun _ h => h)
  · refine j_aload_n (pc' := 17) rfl rfl rfl ?_
    refine j_gfr (pc' := 20) (x := 40) rfl rfl j_a0 rfl rfl ?_
    refine j_aload_n (pc' := 21) rfl rfl rfl ?_
    refine j_gfr (pc' := 24) (x := 22) rfl rfl j_a0 rfl rfl ?_
    refine j_aload_n (pc' := 25) rfl rfl rfl ?_
    refine j_gfr (pc' := 28) (x := 42) rfl rfl j_a0 rfl rfl ?_
    refine j_iload_n (pc' := 29) rfl rfl rfl ?_
    refine j_spl (k := (0 : Int32)) (fun h1 => ?_) (fun h1 => ?_)
    · subst h1
      refine j_aald (pc' := 30) (r := 67) rfl rfl j_a42 (by decide) rfl ?_
      refine j_iconst (pc' := 31) (x := (0 : Int32)) rfl rfl rfl ?_
      refine j_callRv (pc' := 34) (ai := 6) (vs := [.ref 40, .ref 22, .ref 67, .int (0 : Int32)]) (rest := []) rfl rfl (fun _ _ => rfl) (c_X1_judge_40_22_67 (0 : Int32) σ1) (j_dd rfl hd) rfl (fun σ3 => ?_)
      refine j_bipush (pc' := 36) (x := (10 : Int32)) rfl rfl rfl ?_
      refine j_aload_n (pc' := 37) rfl rfl rfl ?_
      refine j_gfr (pc' := 40) (x := 40) rfl rfl j_a0 rfl rfl ?_
      refine j_gfi (pc' := 43) rfl rfl j_a40 rfl ?_
      refine j_imul (pc' := 44) rfl rfl ?_
      refine j_bipush (pc' := 46) (x := (20 : Int32)) rfl rfl rfl ?_
      refine j_aload_n (pc' := 47) rfl rfl rfl ?_
      refine j_gfr (pc' := 50) (x := 40) rfl rfl j_a0 rfl rfl ?_
      refine j_gfi (pc' := 53) rfl rfl j_a40 rfl ?_
      refine j_imul (pc' := 54) rfl rfl ?_
      refine j_isub (pc' := 55) rfl rfl ?_
      exact j_ret rfl rfl rfl (fun _ h => h)
    refine j_spl (k := (1 : Int32)) (fun h2 => ?_) (fun h2 => ?_)
    · subst h2
      refine j_aald (pc' := 30) (r := 69) rfl rfl j_a42 (by decide) rfl ?_
      refine j_iconst (pc' := 31) (x := (0 : Int32)) rfl rfl rfl ?_
      refine j_callRv (pc' := 34) (ai := 6) (vs := [.ref 40, .ref 22, .ref 69, .int (0 : Int32)]) (rest := []) rfl rfl (fun _ _ => rfl) (c_X1_judge_40_22_69 (0 : Int32) σ1) (j_dd rfl hd) rfl (fun σ4 => ?_)
      refine j_bipush (pc' := 36) (x := (10 : Int32)) rfl rfl rfl ?_
      refine j_aload_n (pc' := 37) rfl rfl rfl ?_
      refine j_gfr (pc' := 40) (x := 40) rfl rfl j_a0 rfl rfl ?_
      refine j_gfi (pc' := 43) rfl rfl j_a40 rfl ?_
      refine j_imul (pc' := 44) rfl rfl ?_
      refine j_bipush (pc' := 46) (x := (20 : Int32)) rfl rfl rfl ?_
      refine j_aload_n (pc' := 47) rfl rfl rfl ?_
      refine j_gfr (pc' := 50) (x := 40) rfl rfl j_a0 rfl rfl ?_
      refine j_gfi (pc' := 53) rfl rfl j_a40 rfl ?_
      refine j_imul (pc' := 54) rfl rfl ?_
      refine j_isub (pc' := 55) rfl rfl ?_
      exact j_ret rfl rfl rfl (fun _ h => h)
    refine j_spl (k := (2 : Int32)) (fun h3 => ?_) (fun h3 => ?_)
    · subst h3
      refine j_aald (pc' := 30) (r := 71) rfl rfl j_a42 (by decide) rfl ?_
      refine j_iconst (pc' := 31) (x := (0 : Int32)) rfl rfl rfl ?_
      refine j_callRv (pc' := 34) (ai := 6) (vs := [.ref 40, .ref 22, .ref 71, .int (0 : Int32)]) (rest := []) rfl rfl (fun _ _ => rfl) (c_X1_judge_40_22_71 (0 : Int32) σ1) (j_dd rfl hd) rfl (fun σ5 => ?_)
      refine j_bipush (pc' := 36) (x := (10 : Int32)) rfl rfl rfl ?_
      refine j_aload_n (pc' := 37) rfl rfl rfl ?_
      refine j_gfr (pc' := 40) (x := 40) rfl rfl j_a0 rfl rfl ?_
      refine j_gfi (pc' := 43) rfl rfl j_a40 rfl ?_
      refine j_imul (pc' := 44) rfl rfl ?_
      refine j_bipush (pc' := 46) (x := (20 : Int32)) rfl rfl rfl ?_
      refine j_aload_n (pc' := 47) rfl rfl rfl ?_
      refine j_gfr (pc' := 50) (x := 40) rfl rfl j_a0 rfl rfl ?_
      refine j_gfi (pc' := 53) rfl rfl j_a40 rfl ?_
      refine j_imul (pc' := 54) rfl rfl ?_
      refine j_isub (pc' := 55) rfl rfl ?_
      exact j_ret rfl rfl rfl (fun _ h => h)
    refine j_spl (k := (3 : Int32)) (fun h4 => ?_) (fun h4 => ?_)
    · subst h4
      refine j_aald (pc' := 30) (r := 73) rfl rfl j_a42 (by decide) rfl ?_
      refine j_iconst (pc' := 31) (x := (0 : Int32)) rfl rfl rfl ?_
      refine j_callRv (pc' := 34) (ai := 6) (vs := [.ref 40, .ref 22, .ref 73, .int (0 : Int32)]) (rest := []) rfl rfl (fun _ _ => rfl) (c_X1_judge_40_22_73 (0 : Int32) σ1) (j_dd rfl hd) rfl (fun σ6 => ?_)
      refine j_bipush (pc' := 36) (x := (10 : Int32)) rfl rfl rfl ?_
      refine j_aload_n (pc' := 37) rfl rfl rfl ?_
      refine j_gfr (pc' := 40) (x := 40) rfl rfl j_a0 rfl rfl ?_
      refine j_gfi (pc' := 43) rfl rfl j_a40 rfl ?_
      refine j_imul (pc' := 44) rfl rfl ?_
      refine j_bipush (pc' := 46) (x := (20 : Int32)) rfl rfl rfl ?_
      refine j_aload_n (pc' := 47) rfl rfl rfl ?_
      refine j_gfr (pc' := 50) (x := 40) rfl rfl j_a0 rfl rfl ?_
      refine j_gfi (pc' := 53) rfl rfl j_a40 rfl ?_
      refine j_imul (pc' := 54) rfl rfl ?_
      refine j_isub (pc' := 55) rfl rfl ?_
      exact j_ret rfl rfl rfl (fun _ h => h)
    exact j_none

noncomputable def f_X12_scored (l1 : Int32) (σ : j_G) : Option (Int32 × j_G) :=
  j_b1 (f_X12_asksBlows l1 σ) fun v1 =>
  if v1 < 0 then (some (((1000 : Int32) * v1), σ)) else (j_b1 (f_X12_layBlows l1 (0 : Int32) σ) fun σ2 =>
  some ((((10 : Int32) * (σ2.1 75 39)) - ((20 : Int32) * (σ2.1 75 40))), σ2))
theorem c_X12_scored (l1 : Int32) (σ : j_G) : j_K false 4 327 [.ref 75, .int l1] σ (f_X12_scored l1 σ) j_Ri := by
  refine j_mkK (M := M_cX12_scored) (L := [some (.ref 75), some (.int l1), none]) (m := 1) t_327 rfl (j_rcvO j_a75 rfl) rfl (fun d hd τ => ?_)
  unfold f_X12_scored
  refine j_aload_n (pc' := 1) rfl rfl rfl ?_
  refine j_iload_n (pc' := 2) rfl rfl rfl ?_
  refine j_callPi (pc' := 5) (ai := 323) (vs := [.ref 75, .int l1]) (rest := []) rfl rfl (fun _ _ => rfl) (c_X12_asksBlows l1 σ) (j_dd rfl hd) rfl (fun v1 => ?_)
  refine j_istore_n (pc' := 6) (L' := [some (.ref 75), some (.int l1), some (.int v1)]) rfl rfl rfl ?_
  refine j_iload_n (pc' := 7) rfl rfl rfl ?_
  refine j_two (pT := 10) (pF := 16) (L1 := [some (.ref 75), some (.int l1), some (.int v1)]) (st1 := []) (fun o kT kF => ?_) (fun h1 => ?_) (fun h1 => ?_)
  · refine j_ifge (t := 16) (pc' := 10) rfl rfl rfl (fun h2 => ?_) (fun h2 => ?_)
    · exact kF h2
    · exact kT h2
  · refine j_sipush (pc' := 13) (x := (1000 : Int32)) rfl rfl rfl ?_
    refine j_iload_n (pc' := 14) rfl rfl rfl ?_
    refine j_imul (pc' := 15) rfl rfl ?_
    exact j_ret rfl rfl rfl (fun _ h => h)
  · refine j_aload_n (pc' := 17) rfl rfl rfl ?_
    refine j_iload_n (pc' := 18) rfl rfl rfl ?_
    refine j_iconst (pc' := 19) (x := (0 : Int32)) rfl rfl rfl ?_
    refine j_callRv (pc' := 22) (ai := 325) (vs := [.ref 75, .int l1, .int (0 : Int32)]) (rest := []) rfl rfl (fun _ _ => rfl) (c_X12_layBlows l1 (0 : Int32) σ) (j_dd rfl hd) rfl (fun σ2 => ?_)
    refine j_bipush (pc' := 24) (x := (10 : Int32)) rfl rfl rfl ?_
    refine j_aload_n (pc' := 25) rfl rfl rfl ?_
    refine j_gfi (pc' := 28) rfl rfl j_a75 rfl ?_
    refine j_imul (pc' := 29) rfl rfl ?_
    refine j_bipush (pc' := 31) (x := (20 : Int32)) rfl rfl rfl ?_
    refine j_aload_n (pc' := 32) rfl rfl rfl ?_
    refine j_gfi (pc' := 35) rfl rfl j_a75 rfl ?_
    refine j_imul (pc' := 36) rfl rfl ?_
    refine j_isub (pc' := 37) rfl rfl ?_
    exact j_ret rfl rfl rfl (fun _ h => h)

noncomputable def f_X11_early (l1 : Int32) (l2 : Int32) (σ : j_G) : Option (Int32 × j_G) :=
  if (l2 < 0) ∨ ((20 : Int32) < l2) then (some ((-2 : Int32), σ)) else (j_b2 (f_X11_whyNoBlows l1 σ) fun v2 σ1 =>
  if ¬ v2 = 0 then (some (v2, σ1)) else (if l1 = 0 then (j_b1 (f_X1_judge 40 22 41 67 68 l2 σ1) fun σ3 =>
  some ((σ3.1 40 2), σ3)) else
  if l1 = 1 then (j_b1 (f_X1_judge 40 22 41 69 70 l2 σ1) fun σ4 =>
  some ((σ4.1 40 2), σ4)) else
  if l1 = 2 then (j_b1 (f_X1_judge 40 22 41 71 72 l2 σ1) fun σ5 =>
  some ((σ5.1 40 2), σ5)) else
  if l1 = 3 then (j_b1 (f_X1_judge 40 22 41 73 74 l2 σ1) fun σ6 =>
  some ((σ6.1 40 2), σ6)) else
  none))
theorem c_X11_early (l1 : Int32) (l2 : Int32) (σ : j_G) : j_K true 4 164 [.ref 0, .int l1, .int l2] σ (f_X11_early l1 l2 σ) j_Ri := by
  refine j_mkK (M := M_cX11_early) (L := [some (.ref 0), some (.int l1), some (.int l2), none]) (m := 1) t_164 rfl (j_rcvO j_a0 rfl) rfl (fun d hd τ => ?_)
  unfold f_X11_early
  refine j_iload_n (pc' := 1) rfl rfl rfl ?_
  refine j_two (pT := 10) (pF := 13) (L1 := [some (.ref 0), some (.int l1), some (.int l2), none]) (st1 := []) (fun o kT kF => ?_) (fun h7 => ?_) (fun h7 => ?_)
  · refine j_iflt (t := 10) (pc' := 4) rfl rfl rfl (fun h8 => ?_) (fun h8 => ?_)
    · exact kT (Or.inl h8)
    · refine j_iload_n (pc' := 5) rfl rfl rfl ?_
      refine j_bipush (pc' := 7) (x := (20 : Int32)) rfl rfl rfl ?_
      refine j_icle (t := 13) (pc' := 10) rfl rfl rfl (fun h9 => ?_) (fun h9 => ?_)
      · exact kF (fun z => z.elim h8 (h9))
      · exact kT (Or.inr (h9))
  · refine j_bipush (pc' := 12) (x := (-2 : Int32)) rfl rfl rfl ?_
    exact j_ret rfl rfl rfl (fun _ h => h)
  · refine j_aload_n (pc' := 14) rfl rfl rfl ?_
    refine j_iload_n (pc' := 15) rfl rfl rfl ?_
    refine j_callRi (pc' := 18) (ai := 194) (vs := [.ref 0, .int l1]) (rest := []) rfl rfl (fun _ _ => rfl) (c_X11_whyNoBlows l1 σ) (j_dd rfl hd) rfl (fun v2 σ1 => ?_)
    refine j_istore_n (pc' := 19) (L' := [some (.ref 0), some (.int l1), some (.int l2), some (.int v2)]) rfl rfl rfl ?_
    refine j_iload_n (pc' := 20) rfl rfl rfl ?_
    refine j_two (pT := 23) (pF := 25) (L1 := [some (.ref 0), some (.int l1), some (.int l2), some (.int v2)]) (st1 := []) (fun o kT kF => ?_) (fun h5 => ?_) (fun h5 => ?_)
    · refine j_ifeq (t := 25) (pc' := 23) rfl rfl rfl (fun h6 => ?_) (fun h6 => ?_)
      · exact kF (fun z => z h6)
      · exact kT h6
    · refine j_iload_n (pc' := 24) rfl rfl rfl ?_
      exact j_ret rfl rfl rfl (fun _ h => h)
    · refine j_aload_n (pc' := 26) rfl rfl rfl ?_
      refine j_gfr (pc' := 29) (x := 40) rfl rfl j_a0 rfl rfl ?_
      refine j_aload_n (pc' := 30) rfl rfl rfl ?_
      refine j_gfr (pc' := 33) (x := 22) rfl rfl j_a0 rfl rfl ?_
      refine j_aload_n (pc' := 34) rfl rfl rfl ?_
      refine j_gfr (pc' := 37) (x := 42) rfl rfl j_a0 rfl rfl ?_
      refine j_iload_n (pc' := 38) rfl rfl rfl ?_
      refine j_spl (k := (0 : Int32)) (fun h1 => ?_) (fun h1 => ?_)
      · subst h1
        refine j_aald (pc' := 39) (r := 67) rfl rfl j_a42 (by decide) rfl ?_
        refine j_iload_n (pc' := 40) rfl rfl rfl ?_
        refine j_callRv (pc' := 43) (ai := 6) (vs := [.ref 40, .ref 22, .ref 67, .int l2]) (rest := []) rfl rfl (fun _ _ => rfl) (c_X1_judge_40_22_67 l2 σ1) (j_dd rfl hd) rfl (fun σ3 => ?_)
        refine j_aload_n (pc' := 44) rfl rfl rfl ?_
        refine j_gfr (pc' := 47) (x := 40) rfl rfl j_a0 rfl rfl ?_
        refine j_gfi (pc' := 50) rfl rfl j_a40 rfl ?_
        exact j_ret rfl rfl rfl (fun _ h => h)
      refine j_spl (k := (1 : Int32)) (fun h2 => ?_) (fun h2 => ?_)
      · subst h2
        refine j_aald (pc' := 39) (r := 69) rfl rfl j_a42 (by decide) rfl ?_
        refine j_iload_n (pc' := 40) rfl rfl rfl ?_
        refine j_callRv (pc' := 43) (ai := 6) (vs := [.ref 40, .ref 22, .ref 69, .int l2]) (rest := []) rfl rfl (fun _ _ => rfl) (c_X1_judge_40_22_69 l2 σ1) (j_dd rfl hd) rfl (fun σ4 => ?_)
        refine j_aload_n (pc' := 44) rfl rfl rfl ?_
        refine j_gfr (pc' := 47) (x := 40) rfl rfl j_a0 rfl rfl ?_
        refine j_gfi (pc' := 50) rfl rfl j_a40 rfl ?_
        exact j_ret rfl rfl rfl (fun _ h => h)
      refine j_spl (k := (2 : Int32)) (fun h3 => ?_) (fun h3 => ?_)
      · subst h3
        refine j_aald (pc' := 39) (r := 71) rfl rfl j_a42 (by decide) rfl ?_
        refine j_iload_n (pc' := 40) rfl rfl rfl ?_
        refine j_callRv (pc' := 43) (ai := 6) (vs := [.ref 40, .ref 22, .ref 71, .int l2]) (rest := []) rfl rfl (fun _ _ => rfl) (c_X1_judge_40_22_71 l2 σ1) (j_dd rfl hd) rfl (fun σ5 => ?_)
        refine j_aload_n (pc' := 44) rfl rfl rfl ?_
        refine j_gfr (pc' := 47) (x := 40) rfl rfl j_a0 rfl rfl ?_
        refine j_gfi (pc' := 50) rfl rfl j_a40 rfl ?_
        exact j_ret rfl rfl rfl (fun _ h => h)
      refine j_spl (k := (3 : Int32)) (fun h4 => ?_) (fun h4 => ?_)
      · subst h4
        refine j_aald (pc' := 39) (r := 73) rfl rfl j_a42 (by decide) rfl ?_
        refine j_iload_n (pc' := 40) rfl rfl rfl ?_
        refine j_callRv (pc' := 43) (ai := 6) (vs := [.ref 40, .ref 22, .ref 73, .int l2]) (rest := []) rfl rfl (fun _ _ => rfl) (c_X1_judge_40_22_73 l2 σ1) (j_dd rfl hd) rfl (fun σ6 => ?_)
        refine j_aload_n (pc' := 44) rfl rfl rfl ?_
        refine j_gfr (pc' := 47) (x := 40) rfl rfl j_a0 rfl rfl ?_
        refine j_gfi (pc' := 50) rfl rfl j_a40 rfl ?_
        exact j_ret rfl rfl rfl (fun _ h => h)
      exact j_none

noncomputable def f_X12_early (l1 : Int32) (l2 : Int32) (σ : j_G) : Option (Int32 × j_G) :=
  if (f_X12_in (l2).toInt64 (0 : Int64) (20 : Int64)) = 0 then (some ((-2 : Int32), σ)) else (j_b1 (f_X12_asksBlows l1 σ) fun v1 =>
  if v1 < 0 then (some (v1, σ)) else (j_b1 (f_X12_layBlows l1 l2 σ) fun σ2 =>
  some ((σ2.1 75 41), σ2)))
theorem c_X12_early (l1 : Int32) (l2 : Int32) (σ : j_G) : j_K false 4 328 [.ref 75, .int l1, .int l2] σ (f_X12_early l1 l2 σ) j_Ri := by
  refine j_mkK (M := M_cX12_early) (L := [some (.ref 75), some (.int l1), some (.int l2), none]) (m := 1) t_328 rfl (j_rcvO j_a75 rfl) rfl (fun d hd τ => ?_)
  unfold f_X12_early
  refine j_iload_n (pc' := 1) rfl rfl rfl ?_
  refine j_i2l (pc' := 2) rfl rfl ?_
  refine j_lconst (pc' := 3) (x := (0 : Int64)) rfl rfl rfl ?_
  refine j_ldc2_w (pc' := 6) (x := (20 : Int64)) rfl rfl rfl ?_
  refine j_callTi (pc' := 9) (ai := 196) (vs := [.long (l2).toInt64, .long (0 : Int64), .long (20 : Int64)]) (rest := []) rfl rfl (fun _ _ => rfl) (c_X12_in (l2).toInt64 (0 : Int64) (20 : Int64) σ) (j_dd rfl hd) rfl ?_
  refine j_two (pT := 12) (pF := 15) (L1 := [some (.ref 75), some (.int l1), some (.int l2), none]) (st1 := []) (fun o kT kF => ?_) (fun h3 => ?_) (fun h3 => ?_)
  · refine j_ifne (t := 15) (pc' := 12) rfl rfl rfl (fun h4 => ?_) (fun h4 => ?_)
    · exact kF h4
    · exact kT h4
  · refine j_bipush (pc' := 14) (x := (-2 : Int32)) rfl rfl rfl ?_
    exact j_ret rfl rfl rfl (fun _ h => h)
  · refine j_aload_n (pc' := 16) rfl rfl rfl ?_
    refine j_iload_n (pc' := 17) rfl rfl rfl ?_
    refine j_callPi (pc' := 20) (ai := 323) (vs := [.ref 75, .int l1]) (rest := []) rfl rfl (fun _ _ => rfl) (c_X12_asksBlows l1 σ) (j_dd rfl hd) rfl (fun v1 => ?_)
    refine j_istore_n (pc' := 21) (L' := [some (.ref 75), some (.int l1), some (.int l2), some (.int v1)]) rfl rfl rfl ?_
    refine j_iload_n (pc' := 22) rfl rfl rfl ?_
    refine j_two (pT := 25) (pF := 27) (L1 := [some (.ref 75), some (.int l1), some (.int l2), some (.int v1)]) (st1 := []) (fun o kT kF => ?_) (fun h1 => ?_) (fun h1 => ?_)
    · refine j_ifge (t := 27) (pc' := 25) rfl rfl rfl (fun h2 => ?_) (fun h2 => ?_)
      · exact kF h2
      · exact kT h2
    · refine j_iload_n (pc' := 26) rfl rfl rfl ?_
      exact j_ret rfl rfl rfl (fun _ h => h)
    · refine j_aload_n (pc' := 28) rfl rfl rfl ?_
      refine j_iload_n (pc' := 29) rfl rfl rfl ?_
      refine j_iload_n (pc' := 30) rfl rfl rfl ?_
      refine j_callRv (pc' := 33) (ai := 325) (vs := [.ref 75, .int l1, .int l2]) (rest := []) rfl rfl (fun _ _ => rfl) (c_X12_layBlows l1 l2 σ) (j_dd rfl hd) rfl (fun σ2 => ?_)
      refine j_aload_n (pc' := 34) rfl rfl rfl ?_
      refine j_gfi (pc' := 37) rfl rfl j_a75 rfl ?_
      exact j_ret rfl rfl rfl (fun _ h => h)

theorem l_X3_oftenAt_4_5 {d : Nat} (hd : 0 ≤ d) (τ : j_G) (l1 : Int32) (σ : j_G) : ∀ (n : Nat) (l2 : Int32) (l3 : Int32), j_J true τ M_cX3_oftenAt d 4 [some (.ref 5), some (.int l1), some (.int l2), some (.int l3)] [] σ (p_X3_oftenAt_4 5 6 7 l1 σ n l2 l3) (fun r Q => j_Tr true τ M_cX3_oftenAt d 41 [none, none, some (.int r), none] [] σ Q) := by
  intro n
  induction n with
  | zero => intro l2 l3; exact j_none
  | succ n ih =>
    intro l2 l3
    unfold p_X3_oftenAt_4
    refine j_iload_n (pc' := 5) rfl rfl rfl ?_
    refine j_aload_n (pc' := 6) rfl rfl rfl ?_
    refine j_gfi (pc' := 9) rfl rfl j_a5 rfl ?_
    refine j_two (pT := 12) (pF := 41) (L1 := [some (.ref 5), some (.int l1), some (.int l2), some (.int l3)]) (st1 := []) (fun o kT kF => ?_) (fun h5 => ?_) (fun h5 => ?_)
    · refine j_icge (t := 41) (pc' := 12) rfl rfl rfl (fun h6 => ?_) (fun h6 => ?_)
      · exact kF h6
      · exact kT h6
    · refine j_aload_n (pc' := 13) rfl rfl rfl ?_
      refine j_gfr (pc' := 16) (x := 6) rfl rfl j_a5 rfl rfl ?_
      refine j_iload_n (pc' := 17) rfl rfl rfl ?_
      refine j_iald (pc' := 18) rfl rfl j_a6 ?_
      refine j_iload_n (pc' := 19) rfl rfl rfl ?_
      refine j_q1 (Φl := (fun r Q => j_Tr true τ M_cX3_oftenAt d 35 [some (.ref 5), some (.int l1), some (.int r), some (.int l3)] [] σ Q)) ?_ (fun v1 => ?_)
      · refine j_two (pT := 22) (pF := 32) (L1 := [some (.ref 5), some (.int l1), some (.int l2), some (.int l3)]) (st1 := []) (fun o kT kF => ?_) (fun h3 => ?_) (fun h3 => ?_)
        · refine j_iceq (t := 32) (pc' := 22) rfl rfl rfl (fun h4 => ?_) (fun h4 => ?_)
          · exact kF (fun z => z h4)
          · exact kT h4
        · refine j_aload_n (pc' := 23) rfl rfl rfl ?_
          refine j_gfr (pc' := 26) (x := 7) rfl rfl j_a5 rfl rfl ?_
          refine j_iload_n (pc' := 27) rfl rfl rfl ?_
          refine j_iald (pc' := 28) rfl rfl j_a7 ?_
          refine j_iload_n (pc' := 29) rfl rfl rfl ?_
          refine j_two (pT := 32) (pF := 35) (L1 := [some (.ref 5), some (.int l1), some (.int l2), some (.int l3)]) (st1 := []) (fun o kT kF => ?_) (fun h1 => ?_) (fun h1 => ?_)
          · refine j_icne (t := 35) (pc' := 32) rfl rfl rfl (fun h2 => ?_) (fun h2 => ?_)
            · exact kF h2
            · exact kT h2
          · refine j_iincx (pc' := 35) (y := (1 : Int32)) (L' := [some (.ref 5), some (.int l1), some (.int (l2 + (1 : Int32))), some (.int l3)]) rfl rfl rfl rfl rfl ?_
            exact j_end (fun _ h => h)
          · exact j_end (fun _ h => h)
        · refine j_iincx (pc' := 35) (y := (1 : Int32)) (L' := [some (.ref 5), some (.int l1), some (.int (l2 + (1 : Int32))), some (.int l3)]) rfl rfl rfl rfl rfl ?_
          exact j_end (fun _ h => h)
      show j_J true τ M_cX3_oftenAt d 35 [some (.ref 5), some (.int l1), some (.int v1), some (.int l3)] [] σ _ _
      refine j_iincx (pc' := 38) (y := (1 : Int32)) (L' := [some (.ref 5), some (.int l1), some (.int v1), some (.int (l3 + (1 : Int32)))]) rfl rfl rfl rfl rfl ?_
      refine j_goto (t := 4) rfl rfl ?_
      exact ih v1 (l3 + (1 : Int32))
    · refine j_wk [false, false, true, false] (L' := [none, none, some (.int l2), none]) rfl ?_
      exact j_end (fun _ h => h)

theorem c_X3_oftenAt_5 (l1 : Int32) (σ : j_G) : j_K true 0 36 [.ref 5, .int l1] σ (f_X3_oftenAt 5 6 7 l1 σ) (j_Pi σ) := by
  refine j_mkK (M := M_cX3_oftenAt) (L := [some (.ref 5), some (.int l1), none, none]) (m := 2) t_36 rfl (j_rcvO j_a5 rfl) rfl (fun d hd τ => ?_)
  unfold f_X3_oftenAt
  refine j_iconst (pc' := 1) (x := (0 : Int32)) rfl rfl rfl ?_
  refine j_istore_n (pc' := 2) (L' := [some (.ref 5), some (.int l1), some (.int (0 : Int32)), none]) rfl rfl rfl ?_
  refine j_iconst (pc' := 3) (x := (0 : Int32)) rfl rfl rfl ?_
  refine j_istore_n (pc' := 4) (L' := [some (.ref 5), some (.int l1), some (.int (0 : Int32)), some (.int (0 : Int32))]) rfl rfl rfl ?_
  refine j_q1 (l_X3_oftenAt_4_5 hd τ l1 σ j_F (0 : Int32) (0 : Int32)) (fun v1 => ?_)
  show j_J true τ M_cX3_oftenAt d 41 [none, none, some (.int v1), none] [] σ _ _
  refine j_iload_n (pc' := 42) rfl rfl rfl ?_
  exact j_ret rfl rfl rfl (fun _ h => h)

noncomputable def f_X11_often (l1 : Int32) (σ : j_G) : Option Int32 :=
  if ¬ (f_X2_isHole 1 l1 σ) = 0 then (j_b1 (f_X3_oftenAt 5 6 7 l1 σ) fun v1 =>
  some v1) else (some (-2 : Int32))
theorem c_X11_often (l1 : Int32) (σ : j_G) : j_K true 2 165 [.ref 0, .int l1] σ (f_X11_often l1 σ) (j_Pi σ) := by
  refine j_mkK (M := M_cX11_often) (L := [some (.ref 0), some (.int l1)]) (m := 0) t_165 rfl (j_rcvO j_a0 rfl) rfl (fun d hd τ => ?_)
  unfold f_X11_often
  refine j_aload_n (pc' := 1) rfl rfl rfl ?_
  refine j_gfr (pc' := 4) (x := 1) rfl rfl j_a0 rfl rfl ?_
  refine j_iload_n (pc' := 5) rfl rfl rfl ?_
  refine j_callTi (pc' := 8) (ai := 13) (vs := [.ref 1, .int l1]) (rest := []) rfl rfl (fun _ _ => rfl) (c_X2_isHole_1 l1 σ) (j_dd rfl hd) rfl ?_
  refine j_two (pT := 11) (pF := 25) (L1 := [some (.ref 0), some (.int l1)]) (st1 := []) (fun o kT kF => ?_) (fun h1 => ?_) (fun h1 => ?_)
  · refine j_ifeq (t := 25) (pc' := 11) rfl rfl rfl (fun h2 => ?_) (fun h2 => ?_)
    · exact kF (fun z => z h2)
    · exact kT h2
  · refine j_aload_n (pc' := 12) rfl rfl rfl ?_
    refine j_gfr (pc' := 15) (x := 1) rfl rfl j_a0 rfl rfl ?_
    refine j_gfr (pc' := 18) (x := 5) rfl rfl j_a1 rfl rfl ?_
    refine j_iload_n (pc' := 19) rfl rfl rfl ?_
    refine j_callPi (pc' := 22) (ai := 36) (vs := [.ref 5, .int l1]) (rest := []) rfl rfl (fun _ _ => rfl) (c_X3_oftenAt_5 l1 σ) (j_dd rfl hd) rfl (fun v1 => ?_)
    refine j_goto (t := 27) rfl rfl ?_
    exact j_ret rfl rfl rfl (fun _ h => h)
  · refine j_bipush (pc' := 27) (x := (-2 : Int32)) rfl rfl rfl ?_
    exact j_ret rfl rfl rfl (fun _ h => h)

noncomputable def p_X12_oftenOf_4 (l1 : Int32) (σ : j_G) : Nat → Int32 → Int32 → Option Int32
  | 0, _, _ => none
  | n + 1, l2, l3 =>
    j_ix (5 : Int32) 116 (
    if l3 < (σ.1 76 ((5 : Int32)).toNatClampNeg) then (j_b1 (f_X12_ofComing l3 (0 : Int32) σ) fun v1 =>
    j_b1 (if ¬ v1 = l1 then (j_b1 (f_X12_ofComing l3 (1 : Int32) σ) fun v3 =>
    if v3 = l1 then (some (1 : Int32)) else (some (0 : Int32))) else (some (1 : Int32))) fun v2 =>
    j_lt (l2 + v2) fun v4 =>
    p_X12_oftenOf_4 l1 σ n v4 (l3 + (1 : Int32))) else (some l2))

noncomputable def f_X12_oftenOf (l1 : Int32) (σ : j_G) : Option Int32 :=
  j_b1 (p_X12_oftenOf_4 l1 σ j_F (0 : Int32) (0 : Int32)) fun v1 =>
  some v1
theorem l_X12_oftenOf_4 {d : Nat} (hd : 1 ≤ d) (τ : j_G) (l1 : Int32) (σ : j_G) : ∀ (n : Nat) (l2 : Int32) (l3 : Int32), j_J false τ M_cX12_oftenOf d 4 [some (.ref 75), some (.int l1), some (.int l2), some (.int l3)] [] σ (p_X12_oftenOf_4 l1 σ n l2 l3) (fun r Q => j_Tr false τ M_cX12_oftenOf d 48 [none, none, some (.int r), none] [] σ Q) := by
  intro n
  induction n with
  | zero => intro l2 l3; exact j_none
  | succ n ih =>
    intro l2 l3
    unfold p_X12_oftenOf_4
    refine j_iload_n (pc' := 5) rfl rfl rfl ?_
    refine j_aload_n (pc' := 6) rfl rfl rfl ?_
    refine j_gfr (pc' := 9) (x := 76) rfl rfl j_a75 rfl rfl ?_
    refine j_iconst (pc' := 10) (x := (5 : Int32)) rfl rfl rfl ?_
    refine j_iald (pc' := 11) rfl rfl j_a76 ?_
    refine j_two (pT := 14) (pF := 48) (L1 := [some (.ref 75), some (.int l1), some (.int l2), some (.int l3)]) (st1 := []) (fun o kT kF => ?_) (fun h5 => ?_) (fun h5 => ?_)
    · refine j_icge (t := 48) (pc' := 14) rfl rfl rfl (fun h6 => ?_) (fun h6 => ?_)
      · exact kF h6
      · exact kT h6
    · refine j_iload_n (pc' := 15) rfl rfl rfl ?_
      refine j_aload_n (pc' := 16) rfl rfl rfl ?_
      refine j_iload_n (pc' := 17) rfl rfl rfl ?_
      refine j_iconst (pc' := 18) (x := (0 : Int32)) rfl rfl rfl ?_
      refine j_callPi (pc' := 21) (ai := 206) (vs := [.ref 75, .int l3, .int (0 : Int32)]) (rest := [.int l2]) rfl rfl (fun _ _ => rfl) (c_X12_ofComing l3 (0 : Int32) σ) (j_dd rfl hd) rfl (fun v1 => ?_)
      refine j_iload_n (pc' := 22) rfl rfl rfl ?_
      refine j_q1 (Φl := (fun r Q => j_Tr false τ M_cX12_oftenOf d 40 [some (.ref 75), some (.int l1), none, some (.int l3)] [.int r, .int l2] σ Q)) ?_ (fun v2 => ?_)
      · refine j_two (pT := 25) (pF := 35) (L1 := [some (.ref 75), some (.int l1), some (.int l2), some (.int l3)]) (st1 := [.int l2]) (fun o kT kF => ?_) (fun h3 => ?_) (fun h3 => ?_)
        · refine j_iceq (t := 35) (pc' := 25) rfl rfl rfl (fun h4 => ?_) (fun h4 => ?_)
          · exact kF (fun z => z h4)
          · exact kT h4
        · refine j_aload_n (pc' := 26) rfl rfl rfl ?_
          refine j_iload_n (pc' := 27) rfl rfl rfl ?_
          refine j_iconst (pc' := 28) (x := (1 : Int32)) rfl rfl rfl ?_
          refine j_callPi (pc' := 31) (ai := 206) (vs := [.ref 75, .int l3, .int (1 : Int32)]) (rest := [.int l2]) rfl rfl (fun _ _ => rfl) (c_X12_ofComing l3 (1 : Int32) σ) (j_dd rfl hd) rfl (fun v3 => ?_)
          refine j_iload_n (pc' := 32) rfl rfl rfl ?_
          refine j_two (pT := 35) (pF := 39) (L1 := [some (.ref 75), some (.int l1), some (.int l2), some (.int l3)]) (st1 := [.int l2]) (fun o kT kF => ?_) (fun h1 => ?_) (fun h1 => ?_)
          · refine j_icne (t := 39) (pc' := 35) rfl rfl rfl (fun h2 => ?_) (fun h2 => ?_)
            · exact kF h2
            · exact kT h2
          · refine j_iconst (pc' := 36) (x := (1 : Int32)) rfl rfl rfl ?_
            refine j_goto (t := 40) rfl rfl ?_
            refine j_wk [true, true, false, true] (L' := [some (.ref 75), some (.int l1), none, some (.int l3)]) rfl ?_
            exact j_end (fun _ h => h)
          · refine j_iconst (pc' := 40) (x := (0 : Int32)) rfl rfl rfl ?_
            refine j_wk [true, true, false, true] (L' := [some (.ref 75), some (.int l1), none, some (.int l3)]) rfl ?_
            exact j_end (fun _ h => h)
        · refine j_iconst (pc' := 36) (x := (1 : Int32)) rfl rfl rfl ?_
          refine j_goto (t := 40) rfl rfl ?_
          refine j_wk [true, true, false, true] (L' := [some (.ref 75), some (.int l1), none, some (.int l3)]) rfl ?_
          exact j_end (fun _ h => h)
      show j_J false τ M_cX12_oftenOf d 40 [some (.ref 75), some (.int l1), none, some (.int l3)] [.int v2, .int l2] σ _ _
      refine j_iadd (pc' := 41) rfl rfl ?_
      refine j_leti (fun v4 => ?_)
      refine j_istore_n (pc' := 42) (L' := [some (.ref 75), some (.int l1), some (.int v4), some (.int l3)]) rfl rfl rfl ?_
      refine j_iincx (pc' := 45) (y := (1 : Int32)) (L' := [some (.ref 75), some (.int l1), some (.int v4), some (.int (l3 + (1 : Int32)))]) rfl rfl rfl rfl rfl ?_
      refine j_goto (t := 4) rfl rfl ?_
      exact ih v4 (l3 + (1 : Int32))
    · refine j_wk [false, false, true, false] (L' := [none, none, some (.int l2), none]) rfl ?_
      exact j_end (fun _ h => h)

theorem c_X12_oftenOf (l1 : Int32) (σ : j_G) : j_K false 1 329 [.ref 75, .int l1] σ (f_X12_oftenOf l1 σ) (j_Pi σ) := by
  refine j_mkK (M := M_cX12_oftenOf) (L := [some (.ref 75), some (.int l1), none, none]) (m := 2) t_329 rfl (j_rcvO j_a75 rfl) rfl (fun d hd τ => ?_)
  unfold f_X12_oftenOf
  refine j_iconst (pc' := 1) (x := (0 : Int32)) rfl rfl rfl ?_
  refine j_istore_n (pc' := 2) (L' := [some (.ref 75), some (.int l1), some (.int (0 : Int32)), none]) rfl rfl rfl ?_
  refine j_iconst (pc' := 3) (x := (0 : Int32)) rfl rfl rfl ?_
  refine j_istore_n (pc' := 4) (L' := [some (.ref 75), some (.int l1), some (.int (0 : Int32)), some (.int (0 : Int32))]) rfl rfl rfl ?_
  refine j_q1 (l_X12_oftenOf_4 hd τ l1 σ j_F (0 : Int32) (0 : Int32)) (fun v1 => ?_)
  show j_J false τ M_cX12_oftenOf d 48 [none, none, some (.int v1), none] [] σ _ _
  refine j_iload_n (pc' := 49) rfl rfl rfl ?_
  exact j_ret rfl rfl rfl (fun _ h => h)

noncomputable def f_X12_often (l1 : Int32) (σ : j_G) : Option Int32 :=
  j_b1 (f_X12_isHole (l1).toInt64 σ) fun v1 =>
  if ¬ v1 = 0 then (j_b1 (f_X12_oftenOf l1 σ) fun v2 =>
  some v2) else (some (-2 : Int32))
theorem c_X12_often (l1 : Int32) (σ : j_G) : j_K false 2 330 [.ref 75, .int l1] σ (f_X12_often l1 σ) (j_Pi σ) := by
  refine j_mkK (M := M_cX12_often) (L := [some (.ref 75), some (.int l1)]) (m := 0) t_330 rfl (j_rcvO j_a75 rfl) rfl (fun d hd τ => ?_)
  unfold f_X12_often
  refine j_aload_n (pc' := 1) rfl rfl rfl ?_
  refine j_iload_n (pc' := 2) rfl rfl rfl ?_
  refine j_i2l (pc' := 3) rfl rfl ?_
  refine j_callPi (pc' := 6) (ai := 201) (vs := [.ref 75, .long (l1).toInt64]) (rest := []) rfl rfl (fun _ _ => rfl) (c_X12_isHole (l1).toInt64 σ) (j_dd rfl hd) rfl (fun v1 => ?_)
  refine j_two (pT := 9) (pF := 17) (L1 := [some (.ref 75), some (.int l1)]) (st1 := []) (fun o kT kF => ?_) (fun h1 => ?_) (fun h1 => ?_)
  · refine j_ifeq (t := 17) (pc' := 9) rfl rfl rfl (fun h2 => ?_) (fun h2 => ?_)
    · exact kF (fun z => z h2)
    · exact kT h2
  · refine j_aload_n (pc' := 10) rfl rfl rfl ?_
    refine j_iload_n (pc' := 11) rfl rfl rfl ?_
    refine j_callPi (pc' := 14) (ai := 329) (vs := [.ref 75, .int l1]) (rest := []) rfl rfl (fun _ _ => rfl) (c_X12_oftenOf l1 σ) (j_dd rfl hd) rfl (fun v2 => ?_)
    refine j_goto (t := 19) rfl rfl ?_
    exact j_ret rfl rfl rfl (fun _ h => h)
  · refine j_bipush (pc' := 19) (x := (-2 : Int32)) rfl rfl rfl ?_
    exact j_ret rfl rfl rfl (fun _ h => h)

noncomputable def p_X11_balance_19 (σ : j_G) : Nat → Int32 → Int32 → Int32 → Option (Int32 × Int32)
  | 0, _, _, _ => none
  | n + 1, l1, l2, l3 =>
    if l3 < (f_X2_holes 1 σ) then (j_b2 (if (f_X2_isShut 1 l3 σ) = 0 then (j_b1 (f_X3_oftenAt 5 6 7 l3 σ) fun v3 =>
    j_lt (if l1 < v3 then v3 else l1) fun v4 =>
    j_lt (if l2 = (-1 : Int32) then (v3) else ((if v3 < l2 then v3 else l2))) fun v5 =>
    some (v4, v5)) else (some (l1, l2))) fun v1 v2 =>
    p_X11_balance_19 σ n v1 v2 (l3 + (1 : Int32))) else (some (l1, l2))

noncomputable def f_X11_balance (σ : j_G) : Option Int32 :=
  if (f_X2_isTold σ) = 0 then (some (-2 : Int32)) else (j_b2 (p_X11_balance_19 σ j_F (-1 : Int32) (-1 : Int32) (0 : Int32)) fun v1 v2 =>
  if v1 = (-1 : Int32) then (some (-1 : Int32)) else (some (v1 - v2)))
theorem l_X11_balance_19 {d : Nat} (hd : 1 ≤ d) (τ : j_G) (σ : j_G) : ∀ (n : Nat) (l1 : Int32) (l2 : Int32) (l3 : Int32), j_J true τ M_cX11_balance d 19 [some (.ref 0), some (.int l1), some (.int l2), some (.int l3), none] [] σ (p_X11_balance_19 σ n l1 l2 l3) (fun r Q => j_Tr true τ M_cX11_balance d 84 [none, some (.int r.1), some (.int r.2), none, none] [] σ Q) := by
  intro n
  induction n with
  | zero => intro l1 l2 l3; exact j_none
  | succ n ih =>
    intro l1 l2 l3
    unfold p_X11_balance_19
    refine j_iload_n (pc' := 20) rfl rfl rfl ?_
    refine j_aload_n (pc' := 21) rfl rfl rfl ?_
    refine j_gfr (pc' := 24) (x := 1) rfl rfl j_a0 rfl rfl ?_
    refine j_callTi (pc' := 27) (ai := 12) (vs := [.ref 1]) (rest := [.int l3]) rfl rfl (fun _ _ => rfl) (c_X2_holes_1  σ) (j_dd rfl hd) rfl ?_
    refine j_two (pT := 30) (pF := 84) (L1 := [some (.ref 0), some (.int l1), some (.int l2), some (.int l3), none]) (st1 := []) (fun o kT kF => ?_) (fun h5 => ?_) (fun h5 => ?_)
    · refine j_icge (t := 84) (pc' := 30) rfl rfl rfl (fun h6 => ?_) (fun h6 => ?_)
      · exact kF h6
      · exact kT h6
    · refine j_aload_n (pc' := 31) rfl rfl rfl ?_
      refine j_gfr (pc' := 34) (x := 1) rfl rfl j_a0 rfl rfl ?_
      refine j_iload_n (pc' := 35) rfl rfl rfl ?_
      refine j_callTi (pc' := 38) (ai := 16) (vs := [.ref 1, .int l3]) (rest := []) rfl rfl (fun _ _ => rfl) (c_X2_isShut_1 l3 σ) (j_dd rfl hd) rfl ?_
      refine j_q2 (Φl := (fun r Q => j_Tr true τ M_cX11_balance d 78 [some (.ref 0), some (.int r.1), some (.int r.2), some (.int l3), none] [] σ Q)) ?_ (fun v1 v2 => ?_)
      · refine j_two (pT := 41) (pF := 78) (L1 := [some (.ref 0), some (.int l1), some (.int l2), some (.int l3), none]) (st1 := []) (fun o kT kF => ?_) (fun h3 => ?_) (fun h3 => ?_)
        · refine j_ifne (t := 78) (pc' := 41) rfl rfl rfl (fun h4 => ?_) (fun h4 => ?_)
          · exact kF h4
          · exact kT h4
        · refine j_aload_n (pc' := 42) rfl rfl rfl ?_
          refine j_gfr (pc' := 45) (x := 1) rfl rfl j_a0 rfl rfl ?_
          refine j_gfr (pc' := 48) (x := 5) rfl rfl j_a1 rfl rfl ?_
          refine j_iload_n (pc' := 49) rfl rfl rfl ?_
          refine j_callPi (pc' := 52) (ai := 36) (vs := [.ref 5, .int l3]) (rest := []) rfl rfl (fun _ _ => rfl) (c_X3_oftenAt_5 l3 σ) (j_dd rfl hd) rfl (fun v3 => ?_)
          refine j_istore (pc' := 54) (L' := [some (.ref 0), some (.int l1), some (.int l2), some (.int l3), some (.int v3)]) rfl rfl rfl ?_
          refine j_iload_n (pc' := 55) rfl rfl rfl ?_
          refine j_iload (pc' := 57) rfl rfl rfl ?_
          refine j_max (pc' := 60) rfl rfl rfl ?_
          refine j_leti (fun v4 => ?_)
          refine j_istore_n (pc' := 61) (L' := [some (.ref 0), some (.int v4), some (.int l2), some (.int l3), some (.int v3)]) rfl rfl rfl ?_
          refine j_iload_n (pc' := 62) rfl rfl rfl ?_
          refine j_iconst (pc' := 63) (x := (-1 : Int32)) rfl rfl rfl ?_
          refine j_ql (Φl := (fun r Q => j_Tr true τ M_cX11_balance d 77 [some (.ref 0), some (.int v4), none, some (.int l3), none] [.int r] σ Q)) ?_ (fun v5 => ?_)
          · refine j_twoT (pT := 66) (pF := 71) (L1 := [some (.ref 0), some (.int v4), some (.int l2), some (.int l3), some (.int v3)]) (st1 := []) (fun o kT kF => ?_) (fun h1 => ?_) (fun h1 => ?_)
            · refine j_icne (t := 71) (pc' := 66) rfl rfl rfl (fun h2 => ?_) (fun h2 => ?_)
              · exact kF h2
              · exact kT h2
            · refine j_iload (pc' := 68) rfl rfl rfl ?_
              refine j_goto (t := 77) rfl rfl ?_
              refine j_wk [true, true, false, true, false] (L' := [some (.ref 0), some (.int v4), none, some (.int l3), none]) rfl ?_
              exact j_end (fun _ h => h)
            · refine j_iload_n (pc' := 72) rfl rfl rfl ?_
              refine j_iload (pc' := 74) rfl rfl rfl ?_
              refine j_min (pc' := 77) rfl rfl rfl ?_
              refine j_wk [true, true, false, true, false] (L' := [some (.ref 0), some (.int v4), none, some (.int l3), none]) rfl ?_
              exact j_end (fun _ h => h)
          show j_J true τ M_cX11_balance d 77 [some (.ref 0), some (.int v4), none, some (.int l3), none] [.int v5] σ _ _
          refine j_istore_n (pc' := 78) (L' := [some (.ref 0), some (.int v4), some (.int v5), some (.int l3), none]) rfl rfl rfl ?_
          exact j_end (fun _ h => h)
        · exact j_end (fun _ h => h)
      show j_J true τ M_cX11_balance d 78 [some (.ref 0), some (.int v1), some (.int v2), some (.int l3), none] [] σ _ _
      refine j_iincx (pc' := 81) (y := (1 : Int32)) (L' := [some (.ref 0), some (.int v1), some (.int v2), some (.int (l3 + (1 : Int32))), none]) rfl rfl rfl rfl rfl ?_
      refine j_goto (t := 19) rfl rfl ?_
      exact ih v1 v2 (l3 + (1 : Int32))
    · refine j_wk [false, true, true, false, true] (L' := [none, some (.int l1), some (.int l2), none, none]) rfl ?_
      exact j_end (fun _ h => h)

theorem c_X11_balance (σ : j_G) : j_K true 1 166 [.ref 0] σ (f_X11_balance σ) (j_Pi σ) := by
  refine j_mkK (M := M_cX11_balance) (L := [some (.ref 0), none, none, none, none]) (m := 4) t_166 rfl (j_rcvO j_a0 rfl) rfl (fun d hd τ => ?_)
  unfold f_X11_balance
  refine j_aload_n (pc' := 1) rfl rfl rfl ?_
  refine j_gfr (pc' := 4) (x := 1) rfl rfl j_a0 rfl rfl ?_
  refine j_callTi (pc' := 7) (ai := 11) (vs := [.ref 1]) (rest := []) rfl rfl (fun _ _ => rfl) (c_X2_isTold  σ) (j_dd rfl hd) rfl ?_
  refine j_two (pT := 10) (pF := 13) (L1 := [some (.ref 0), none, none, none, none]) (st1 := []) (fun o kT kF => ?_) (fun h3 => ?_) (fun h3 => ?_)
  · refine j_ifne (t := 13) (pc' := 10) rfl rfl rfl (fun h4 => ?_) (fun h4 => ?_)
    · exact kF h4
    · exact kT h4
  · refine j_bipush (pc' := 12) (x := (-2 : Int32)) rfl rfl rfl ?_
    exact j_ret rfl rfl rfl (fun _ h => h)
  · refine j_iconst (pc' := 14) (x := (-1 : Int32)) rfl rfl rfl ?_
    refine j_istore_n (pc' := 15) (L' := [some (.ref 0), some (.int (-1 : Int32)), none, none, none]) rfl rfl rfl ?_
    refine j_iconst (pc' := 16) (x := (-1 : Int32)) rfl rfl rfl ?_
    refine j_istore_n (pc' := 17) (L' := [some (.ref 0), some (.int (-1 : Int32)), some (.int (-1 : Int32)), none, none]) rfl rfl rfl ?_
    refine j_iconst (pc' := 18) (x := (0 : Int32)) rfl rfl rfl ?_
    refine j_istore_n (pc' := 19) (L' := [some (.ref 0), some (.int (-1 : Int32)), some (.int (-1 : Int32)), some (.int (0 : Int32)), none]) rfl rfl rfl ?_
    refine j_q2 (l_X11_balance_19 hd τ σ j_F (-1 : Int32) (-1 : Int32) (0 : Int32)) (fun v1 v2 => ?_)
    show j_J true τ M_cX11_balance d 84 [none, some (.int v1), some (.int v2), none, none] [] σ _ _
    refine j_iload_n (pc' := 85) rfl rfl rfl ?_
    refine j_iconst (pc' := 86) (x := (-1 : Int32)) rfl rfl rfl ?_
    refine j_two (pT := 89) (pF := 93) (L1 := [none, some (.int v1), some (.int v2), none, none]) (st1 := []) (fun o kT kF => ?_) (fun h1 => ?_) (fun h1 => ?_)
    · refine j_icne (t := 93) (pc' := 89) rfl rfl rfl (fun h2 => ?_) (fun h2 => ?_)
      · exact kF h2
      · exact kT h2
    · refine j_iconst (pc' := 90) (x := (-1 : Int32)) rfl rfl rfl ?_
      refine j_goto (t := 96) rfl rfl ?_
      exact j_ret rfl rfl rfl (fun _ h => h)
    · refine j_iload_n (pc' := 94) rfl rfl rfl ?_
      refine j_iload_n (pc' := 95) rfl rfl rfl ?_
      refine j_isub (pc' := 96) rfl rfl ?_
      exact j_ret rfl rfl rfl (fun _ h => h)

noncomputable def p_X12_balance_18 (σ : j_G) : Nat → Int32 → Int32 → Int32 → Option (Int32 × Int32)
  | 0, _, _, _ => none
  | n + 1, l1, l2, l3 =>
    j_b1 (f_X12_holes σ) fun v1 =>
    if l3 < v1 then (j_b1 (f_X12_isShut l3 σ) fun v2 =>
    j_b2 (if ¬ v2 = 0 then (some (l1, l2)) else (j_b1 (f_X12_oftenOf l3 σ) fun v5 =>
    j_lt (if v5 < l1 then v5 else l1) fun v6 =>
    j_b1 (f_X12_oftenOf l3 σ) fun v7 =>
    j_lt (if l2 < v7 then v7 else l2) fun v8 =>
    some (v6, v8))) fun v3 v4 =>
    p_X12_balance_18 σ n v3 v4 (l3 + (1 : Int32))) else (some (l1, l2))

noncomputable def f_X12_balance (σ : j_G) : Option Int32 :=
  j_b1 (f_X12_isBoard σ) fun v1 =>
  if v1 = 0 then (some (-2 : Int32)) else (j_b2 (p_X12_balance_18 σ j_F (1000000 : Int32) (-1 : Int32) (0 : Int32)) fun v2 v3 =>
  if v3 = (-1 : Int32) then (some (-1 : Int32)) else (some (v3 - v2)))
theorem l_X12_balance_18 {d : Nat} (hd : 2 ≤ d) (τ : j_G) (σ : j_G) : ∀ (n : Nat) (l1 : Int32) (l2 : Int32) (l3 : Int32), j_J false τ M_cX12_balance d 18 [some (.ref 75), some (.int l1), some (.int l2), some (.int l3)] [] σ (p_X12_balance_18 σ n l1 l2 l3) (fun r Q => j_Tr false τ M_cX12_balance d 63 [none, some (.int r.1), some (.int r.2), none] [] σ Q) := by
  intro n
  induction n with
  | zero => intro l1 l2 l3; exact j_none
  | succ n ih =>
    intro l1 l2 l3
    unfold p_X12_balance_18
    refine j_iload_n (pc' := 19) rfl rfl rfl ?_
    refine j_aload_n (pc' := 20) rfl rfl rfl ?_
    refine j_callPi (pc' := 23) (ai := 200) (vs := [.ref 75]) (rest := [.int l3]) rfl rfl (fun _ _ => rfl) (c_X12_holes  σ) (j_dd rfl hd) rfl (fun v1 => ?_)
    refine j_two (pT := 26) (pF := 63) (L1 := [some (.ref 75), some (.int l1), some (.int l2), some (.int l3)]) (st1 := []) (fun o kT kF => ?_) (fun h3 => ?_) (fun h3 => ?_)
    · refine j_icge (t := 63) (pc' := 26) rfl rfl rfl (fun h4 => ?_) (fun h4 => ?_)
      · exact kF h4
      · exact kT h4
    · refine j_aload_n (pc' := 27) rfl rfl rfl ?_
      refine j_iload_n (pc' := 28) rfl rfl rfl ?_
      refine j_callPi (pc' := 31) (ai := 202) (vs := [.ref 75, .int l3]) (rest := []) rfl rfl (fun _ _ => rfl) (c_X12_isShut l3 σ) (j_dd rfl hd) rfl (fun v2 => ?_)
      refine j_q2 (Φl := (fun r Q => j_Tr false τ M_cX12_balance d 57 [some (.ref 75), some (.int r.1), some (.int r.2), some (.int l3)] [] σ Q)) ?_ (fun v3 v4 => ?_)
      · refine j_two (pT := 34) (pF := 37) (L1 := [some (.ref 75), some (.int l1), some (.int l2), some (.int l3)]) (st1 := []) (fun o kT kF => ?_) (fun h1 => ?_) (fun h1 => ?_)
        · refine j_ifeq (t := 37) (pc' := 34) rfl rfl rfl (fun h2 => ?_) (fun h2 => ?_)
          · exact kF (fun z => z h2)
          · exact kT h2
        · refine j_goto (t := 57) rfl rfl ?_
          exact j_end (fun _ h => h)
        · refine j_iload_n (pc' := 38) rfl rfl rfl ?_
          refine j_aload_n (pc' := 39) rfl rfl rfl ?_
          refine j_iload_n (pc' := 40) rfl rfl rfl ?_
          refine j_callPi (pc' := 43) (ai := 329) (vs := [.ref 75, .int l3]) (rest := [.int l1]) rfl rfl (fun _ _ => rfl) (c_X12_oftenOf l3 σ) (j_dd rfl hd) rfl (fun v5 => ?_)
          refine j_min (pc' := 46) rfl rfl rfl ?_
          refine j_leti (fun v6 => ?_)
          refine j_istore_n (pc' := 47) (L' := [some (.ref 75), some (.int v6), some (.int l2), some (.int l3)]) rfl rfl rfl ?_
          refine j_iload_n (pc' := 48) rfl rfl rfl ?_
          refine j_aload_n (pc' := 49) rfl rfl rfl ?_
          refine j_iload_n (pc' := 50) rfl rfl rfl ?_
          refine j_callPi (pc' := 53) (ai := 329) (vs := [.ref 75, .int l3]) (rest := [.int l2]) rfl rfl (fun _ _ => rfl) (c_X12_oftenOf l3 σ) (j_dd rfl hd) rfl (fun v7 => ?_)
          refine j_max (pc' := 56) rfl rfl rfl ?_
          refine j_leti (fun v8 => ?_)
          refine j_istore_n (pc' := 57) (L' := [some (.ref 75), some (.int v6), some (.int v8), some (.int l3)]) rfl rfl rfl ?_
          exact j_end (fun _ h => h)
      show j_J false τ M_cX12_balance d 57 [some (.ref 75), some (.int v3), some (.int v4), some (.int l3)] [] σ _ _
      refine j_iincx (pc' := 60) (y := (1 : Int32)) (L' := [some (.ref 75), some (.int v3), some (.int v4), some (.int (l3 + (1 : Int32)))]) rfl rfl rfl rfl rfl ?_
      refine j_goto (t := 18) rfl rfl ?_
      exact ih v3 v4 (l3 + (1 : Int32))
    · refine j_wk [false, true, true, false] (L' := [none, some (.int l1), some (.int l2), none]) rfl ?_
      exact j_end (fun _ h => h)

theorem c_X12_balance (σ : j_G) : j_K false 2 331 [.ref 75] σ (f_X12_balance σ) (j_Pi σ) := by
  refine j_mkK (M := M_cX12_balance) (L := [some (.ref 75), none, none, none]) (m := 3) t_331 rfl (j_rcvO j_a75 rfl) rfl (fun d hd τ => ?_)
  unfold f_X12_balance
  refine j_aload_n (pc' := 1) rfl rfl rfl ?_
  refine j_callPi (pc' := 4) (ai := 199) (vs := [.ref 75]) (rest := []) rfl rfl (fun _ _ => rfl) (c_X12_isBoard  σ) (j_dd rfl hd) rfl (fun v1 => ?_)
  refine j_two (pT := 7) (pF := 10) (L1 := [some (.ref 75), none, none, none]) (st1 := []) (fun o kT kF => ?_) (fun h3 => ?_) (fun h3 => ?_)
  · refine j_ifne (t := 10) (pc' := 7) rfl rfl rfl (fun h4 => ?_) (fun h4 => ?_)
    · exact kF h4
    · exact kT h4
  · refine j_bipush (pc' := 9) (x := (-2 : Int32)) rfl rfl rfl ?_
    exact j_ret rfl rfl rfl (fun _ h => h)
  · refine j_ldc_w (pc' := 13) (x := (1000000 : Int32)) rfl rfl rfl ?_
    refine j_istore_n (pc' := 14) (L' := [some (.ref 75), some (.int (1000000 : Int32)), none, none]) rfl rfl rfl ?_
    refine j_iconst (pc' := 15) (x := (-1 : Int32)) rfl rfl rfl ?_
    refine j_istore_n (pc' := 16) (L' := [some (.ref 75), some (.int (1000000 : Int32)), some (.int (-1 : Int32)), none]) rfl rfl rfl ?_
    refine j_iconst (pc' := 17) (x := (0 : Int32)) rfl rfl rfl ?_
    refine j_istore_n (pc' := 18) (L' := [some (.ref 75), some (.int (1000000 : Int32)), some (.int (-1 : Int32)), some (.int (0 : Int32))]) rfl rfl rfl ?_
    refine j_q2 (l_X12_balance_18 hd τ σ j_F (1000000 : Int32) (-1 : Int32) (0 : Int32)) (fun v2 v3 => ?_)
    show j_J false τ M_cX12_balance d 63 [none, some (.int v2), some (.int v3), none] [] σ _ _
    refine j_iload_n (pc' := 64) rfl rfl rfl ?_
    refine j_iconst (pc' := 65) (x := (-1 : Int32)) rfl rfl rfl ?_
    refine j_two (pT := 68) (pF := 72) (L1 := [none, some (.int v2), some (.int v3), none]) (st1 := []) (fun o kT kF => ?_) (fun h1 => ?_) (fun h1 => ?_)
    · refine j_icne (t := 72) (pc' := 68) rfl rfl rfl (fun h2 => ?_) (fun h2 => ?_)
      · exact kF h2
      · exact kT h2
    · refine j_iconst (pc' := 69) (x := (-1 : Int32)) rfl rfl rfl ?_
      refine j_goto (t := 75) rfl rfl ?_
      exact j_ret rfl rfl rfl (fun _ h => h)
    · refine j_iload_n (pc' := 73) rfl rfl rfl ?_
      refine j_iload_n (pc' := 74) rfl rfl rfl ?_
      refine j_isub (pc' := 75) rfl rfl ?_
      exact j_ret rfl rfl rfl (fun _ h => h)

noncomputable def p_X2_pathRound_4 (σ : j_G) : Nat → Int32 → Int32 → Option Int32
  | 0, _, _ => none
  | n + 1, l1, l2 =>
    if l2 < (σ.1 5 0) then (j_b1 (f_X3_round l2 σ) fun v1 =>
    j_b1 (f_X3_round (l2 + (1 : Int32)) σ) fun v2 =>
    j_b1 (f_X2_apart v1 v2 σ) fun v3 =>
    j_lt (l1 + v3) fun v4 =>
    p_X2_pathRound_4 σ n v4 (l2 + (1 : Int32))) else (some l1)

noncomputable def f_X2_pathRound (σ : j_G) : Option Int32 :=
  j_b1 (p_X2_pathRound_4 σ j_F (0 : Int32) (0 : Int32)) fun v1 =>
  some v1
theorem l_X2_pathRound_4 {d : Nat} (hd : 2 ≤ d) (τ : j_G) (σ : j_G) : ∀ (n : Nat) (l1 : Int32) (l2 : Int32), j_J true τ M_cX2_pathRound d 4 [some (.ref 1), some (.int l1), some (.int l2)] [] σ (p_X2_pathRound_4 σ n l1 l2) (fun r Q => j_Tr true τ M_cX2_pathRound d 46 [none, some (.int r), none] [] σ Q) := by
  intro n
  induction n with
  | zero => intro l1 l2; exact j_none
  | succ n ih =>
    intro l1 l2
    unfold p_X2_pathRound_4
    refine j_iload_n (pc' := 5) rfl rfl rfl ?_
    refine j_aload_n (pc' := 6) rfl rfl rfl ?_
    refine j_gfr (pc' := 9) (x := 5) rfl rfl j_a1 rfl rfl ?_
    refine j_gfi (pc' := 12) rfl rfl j_a5 rfl ?_
    refine j_two (pT := 15) (pF := 46) (L1 := [some (.ref 1), some (.int l1), some (.int l2)]) (st1 := []) (fun o kT kF => ?_) (fun h1 => ?_) (fun h1 => ?_)
    · refine j_icge (t := 46) (pc' := 15) rfl rfl rfl (fun h2 => ?_) (fun h2 => ?_)
      · exact kF h2
      · exact kT h2
    · refine j_iload_n (pc' := 16) rfl rfl rfl ?_
      refine j_aload_n (pc' := 17) rfl rfl rfl ?_
      refine j_aload_n (pc' := 18) rfl rfl rfl ?_
      refine j_gfr (pc' := 21) (x := 5) rfl rfl j_a1 rfl rfl ?_
      refine j_iload_n (pc' := 22) rfl rfl rfl ?_
      refine j_callPi (pc' := 25) (ai := 35) (vs := [.ref 5, .int l2]) (rest := [.ref 1, .int l1]) rfl rfl (fun _ _ => rfl) (c_X3_round l2 σ) (j_dd rfl hd) rfl (fun v1 => ?_)
      refine j_aload_n (pc' := 26) rfl rfl rfl ?_
      refine j_gfr (pc' := 29) (x := 5) rfl rfl j_a1 rfl rfl ?_
      refine j_iload_n (pc' := 30) rfl rfl rfl ?_
      refine j_iconst (pc' := 31) (x := (1 : Int32)) rfl rfl rfl ?_
      refine j_iadd (pc' := 32) rfl rfl ?_
      refine j_callPi (pc' := 35) (ai := 35) (vs := [.ref 5, .int (l2 + (1 : Int32))]) (rest := [.int v1, .ref 1, .int l1]) rfl rfl (fun _ _ => rfl) (c_X3_round (l2 + (1 : Int32)) σ) (j_dd rfl hd) rfl (fun v2 => ?_)
      refine j_callPi (pc' := 38) (ai := 18) (vs := [.ref 1, .int v1, .int v2]) (rest := [.int l1]) rfl rfl (fun _ _ => rfl) (c_X2_apart v1 v2 σ) (j_dd rfl hd) rfl (fun v3 => ?_)
      refine j_iadd (pc' := 39) rfl rfl ?_
      refine j_leti (fun v4 => ?_)
      refine j_istore_n (pc' := 40) (L' := [some (.ref 1), some (.int v4), some (.int l2)]) rfl rfl rfl ?_
      refine j_iincx (pc' := 43) (y := (1 : Int32)) (L' := [some (.ref 1), some (.int v4), some (.int (l2 + (1 : Int32)))]) rfl rfl rfl rfl rfl ?_
      refine j_goto (t := 4) rfl rfl ?_
      exact ih v4 (l2 + (1 : Int32))
    · refine j_wk [false, true, false] (L' := [none, some (.int l1), none]) rfl ?_
      exact j_end (fun _ h => h)

theorem c_X2_pathRound (σ : j_G) : j_K true 2 20 [.ref 1] σ (f_X2_pathRound σ) (j_Pi σ) := by
  refine j_mkK (M := M_cX2_pathRound) (L := [some (.ref 1), none, none]) (m := 2) t_20 rfl (j_rcvO j_a1 rfl) rfl (fun d hd τ => ?_)
  unfold f_X2_pathRound
  refine j_iconst (pc' := 1) (x := (0 : Int32)) rfl rfl rfl ?_
  refine j_istore_n (pc' := 2) (L' := [some (.ref 1), some (.int (0 : Int32)), none]) rfl rfl rfl ?_
  refine j_iconst (pc' := 3) (x := (0 : Int32)) rfl rfl rfl ?_
  refine j_istore_n (pc' := 4) (L' := [some (.ref 1), some (.int (0 : Int32)), some (.int (0 : Int32))]) rfl rfl rfl ?_
  refine j_q1 (l_X2_pathRound_4 hd τ σ j_F (0 : Int32) (0 : Int32)) (fun v1 => ?_)
  show j_J true τ M_cX2_pathRound d 46 [none, some (.int v1), none] [] σ _ _
  refine j_iload_n (pc' := 47) rfl rfl rfl ?_
  exact j_ret rfl rfl rfl (fun _ h => h)

noncomputable def f_X11_path (σ : j_G) : Option Int32 :=
  if ¬ (f_X2_isTold σ) = 0 then (j_b1 (f_X2_pathRound σ) fun v1 =>
  some v1) else (some (-2 : Int32))
theorem c_X11_path (σ : j_G) : j_K true 3 167 [.ref 0] σ (f_X11_path σ) (j_Pi σ) := by
  refine j_mkK (M := M_cX11_path) (L := [some (.ref 0)]) (m := 0) t_167 rfl (j_rcvO j_a0 rfl) rfl (fun d hd τ => ?_)
  unfold f_X11_path
  refine j_aload_n (pc' := 1) rfl rfl rfl ?_
  refine j_gfr (pc' := 4) (x := 1) rfl rfl j_a0 rfl rfl ?_
  refine j_callTi (pc' := 7) (ai := 11) (vs := [.ref 1]) (rest := []) rfl rfl (fun _ _ => rfl) (c_X2_isTold  σ) (j_dd rfl hd) rfl ?_
  refine j_two (pT := 10) (pF := 20) (L1 := [some (.ref 0)]) (st1 := []) (fun o kT kF => ?_) (fun h1 => ?_) (fun h1 => ?_)
  · refine j_ifeq (t := 20) (pc' := 10) rfl rfl rfl (fun h2 => ?_) (fun h2 => ?_)
    · exact kF (fun z => z h2)
    · exact kT h2
  · refine j_aload_n (pc' := 11) rfl rfl rfl ?_
    refine j_gfr (pc' := 14) (x := 1) rfl rfl j_a0 rfl rfl ?_
    refine j_callPi (pc' := 17) (ai := 20) (vs := [.ref 1]) (rest := []) rfl rfl (fun _ _ => rfl) (c_X2_pathRound  σ) (j_dd rfl hd) rfl (fun v1 => ?_)
    refine j_goto (t := 22) rfl rfl ?_
    exact j_ret rfl rfl rfl (fun _ h => h)
  · refine j_bipush (pc' := 22) (x := (-2 : Int32)) rfl rfl rfl ?_
    exact j_ret rfl rfl rfl (fun _ h => h)

noncomputable def p_X12_pathOf_4 (σ : j_G) : Nat → Int32 → Int32 → Option Int32
  | 0, _, _ => none
  | n + 1, l1, l2 =>
    j_ix (5 : Int32) 116 (
    if l2 < (σ.1 76 ((5 : Int32)).toNatClampNeg) then (j_b1 (f_X12_holeAt l2 σ) fun v1 =>
    j_b1 (f_X12_holeAt (l2 + (1 : Int32)) σ) fun v2 =>
    j_b1 (f_X12_stepsOf v1 v2 σ) fun v3 =>
    j_lt (l1 + v3) fun v4 =>
    p_X12_pathOf_4 σ n v4 (l2 + (1 : Int32))) else (some l1))

noncomputable def f_X12_pathOf (σ : j_G) : Option Int32 :=
  j_b1 (p_X12_pathOf_4 σ j_F (0 : Int32) (0 : Int32)) fun v1 =>
  some v1
theorem l_X12_pathOf_4 {d : Nat} (hd : 2 ≤ d) (τ : j_G) (σ : j_G) : ∀ (n : Nat) (l1 : Int32) (l2 : Int32), j_J false τ M_cX12_pathOf d 4 [some (.ref 75), some (.int l1), some (.int l2)] [] σ (p_X12_pathOf_4 σ n l1 l2) (fun r Q => j_Tr false τ M_cX12_pathOf d 39 [none, some (.int r), none] [] σ Q) := by
  intro n
  induction n with
  | zero => intro l1 l2; exact j_none
  | succ n ih =>
    intro l1 l2
    unfold p_X12_pathOf_4
    refine j_iload_n (pc' := 5) rfl rfl rfl ?_
    refine j_aload_n (pc' := 6) rfl rfl rfl ?_
    refine j_gfr (pc' := 9) (x := 76) rfl rfl j_a75 rfl rfl ?_
    refine j_iconst (pc' := 10) (x := (5 : Int32)) rfl rfl rfl ?_
    refine j_iald (pc' := 11) rfl rfl j_a76 ?_
    refine j_two (pT := 14) (pF := 39) (L1 := [some (.ref 75), some (.int l1), some (.int l2)]) (st1 := []) (fun o kT kF => ?_) (fun h1 => ?_) (fun h1 => ?_)
    · refine j_icge (t := 39) (pc' := 14) rfl rfl rfl (fun h2 => ?_) (fun h2 => ?_)
      · exact kF h2
      · exact kT h2
    · refine j_iload_n (pc' := 15) rfl rfl rfl ?_
      refine j_aload_n (pc' := 16) rfl rfl rfl ?_
      refine j_aload_n (pc' := 17) rfl rfl rfl ?_
      refine j_iload_n (pc' := 18) rfl rfl rfl ?_
      refine j_callPi (pc' := 21) (ai := 296) (vs := [.ref 75, .int l2]) (rest := [.ref 75, .int l1]) rfl rfl (fun _ _ => rfl) (c_X12_holeAt l2 σ) (j_dd rfl hd) rfl (fun v1 => ?_)
      refine j_aload_n (pc' := 22) rfl rfl rfl ?_
      refine j_iload_n (pc' := 23) rfl rfl rfl ?_
      refine j_iconst (pc' := 24) (x := (1 : Int32)) rfl rfl rfl ?_
      refine j_iadd (pc' := 25) rfl rfl ?_
      refine j_callPi (pc' := 28) (ai := 296) (vs := [.ref 75, .int (l2 + (1 : Int32))]) (rest := [.int v1, .ref 75, .int l1]) rfl rfl (fun _ _ => rfl) (c_X12_holeAt (l2 + (1 : Int32)) σ) (j_dd rfl hd) rfl (fun v2 => ?_)
      refine j_callPi (pc' := 31) (ai := 248) (vs := [.ref 75, .int v1, .int v2]) (rest := [.int l1]) rfl rfl (fun _ _ => rfl) (c_X12_stepsOf v1 v2 σ) (j_dd rfl hd) rfl (fun v3 => ?_)
      refine j_iadd (pc' := 32) rfl rfl ?_
      refine j_leti (fun v4 => ?_)
      refine j_istore_n (pc' := 33) (L' := [some (.ref 75), some (.int v4), some (.int l2)]) rfl rfl rfl ?_
      refine j_iincx (pc' := 36) (y := (1 : Int32)) (L' := [some (.ref 75), some (.int v4), some (.int (l2 + (1 : Int32)))]) rfl rfl rfl rfl rfl ?_
      refine j_goto (t := 4) rfl rfl ?_
      exact ih v4 (l2 + (1 : Int32))
    · refine j_wk [false, true, false] (L' := [none, some (.int l1), none]) rfl ?_
      exact j_end (fun _ h => h)

theorem c_X12_pathOf (σ : j_G) : j_K false 2 332 [.ref 75] σ (f_X12_pathOf σ) (j_Pi σ) := by
  refine j_mkK (M := M_cX12_pathOf) (L := [some (.ref 75), none, none]) (m := 2) t_332 rfl (j_rcvO j_a75 rfl) rfl (fun d hd τ => ?_)
  unfold f_X12_pathOf
  refine j_iconst (pc' := 1) (x := (0 : Int32)) rfl rfl rfl ?_
  refine j_istore_n (pc' := 2) (L' := [some (.ref 75), some (.int (0 : Int32)), none]) rfl rfl rfl ?_
  refine j_iconst (pc' := 3) (x := (0 : Int32)) rfl rfl rfl ?_
  refine j_istore_n (pc' := 4) (L' := [some (.ref 75), some (.int (0 : Int32)), some (.int (0 : Int32))]) rfl rfl rfl ?_
  refine j_q1 (l_X12_pathOf_4 hd τ σ j_F (0 : Int32) (0 : Int32)) (fun v1 => ?_)
  show j_J false τ M_cX12_pathOf d 39 [none, some (.int v1), none] [] σ _ _
  refine j_iload_n (pc' := 40) rfl rfl rfl ?_
  exact j_ret rfl rfl rfl (fun _ h => h)

noncomputable def f_X12_path (σ : j_G) : Option Int32 :=
  j_b1 (f_X12_isBoard σ) fun v1 =>
  if ¬ v1 = 0 then (j_b1 (f_X12_pathOf σ) fun v2 =>
  some v2) else (some (-2 : Int32))
theorem c_X12_path (σ : j_G) : j_K false 3 333 [.ref 75] σ (f_X12_path σ) (j_Pi σ) := by
  refine j_mkK (M := M_cX12_path) (L := [some (.ref 75)]) (m := 0) t_333 rfl (j_rcvO j_a75 rfl) rfl (fun d hd τ => ?_)
  unfold f_X12_path
  refine j_aload_n (pc' := 1) rfl rfl rfl ?_
  refine j_callPi (pc' := 4) (ai := 199) (vs := [.ref 75]) (rest := []) rfl rfl (fun _ _ => rfl) (c_X12_isBoard  σ) (j_dd rfl hd) rfl (fun v1 => ?_)
  refine j_two (pT := 7) (pF := 14) (L1 := [some (.ref 75)]) (st1 := []) (fun o kT kF => ?_) (fun h1 => ?_) (fun h1 => ?_)
  · refine j_ifeq (t := 14) (pc' := 7) rfl rfl rfl (fun h2 => ?_) (fun h2 => ?_)
    · exact kF (fun z => z h2)
    · exact kT h2
  · refine j_aload_n (pc' := 8) rfl rfl rfl ?_
    refine j_callPi (pc' := 11) (ai := 332) (vs := [.ref 75]) (rest := []) rfl rfl (fun _ _ => rfl) (c_X12_pathOf  σ) (j_dd rfl hd) rfl (fun v2 => ?_)
    refine j_goto (t := 16) rfl rfl ?_
    exact j_ret rfl rfl rfl (fun _ h => h)
  · refine j_bipush (pc' := 16) (x := (-2 : Int32)) rfl rfl rfl ?_
    exact j_ret rfl rfl rfl (fun _ h => h)

noncomputable def f_X3_exchangeIn (a0 : Nat) (l1 : Int32) (l2 : Int32) (σ : j_G) : Option j_G :=
  j_ix l1 24 (
  j_lt (σ.1 a0 (l1).toNatClampNeg) fun v1 =>
  j_ix l2 24 (
  j_ix l1 24 (
  j_lt (j_si σ a0 (l1).toNatClampNeg (σ.1 a0 (l2).toNatClampNeg)) fun σ2 =>
  j_ix l2 24 (
  j_lt (j_si σ2 a0 (l2).toNatClampNeg v1) fun σ3 =>
  some σ3))))
theorem c_X3_exchangeIn_6 (l1 : Int32) (l2 : Int32) (σ : j_G) : j_K true 0 34 [.ref 6, .int l1, .int l2] σ (f_X3_exchangeIn 6 l1 l2 σ) j_Rv := by
  refine j_mkK (M := M_cX3_exchangeIn) (L := [some (.ref 6), some (.int l1), some (.int l2), none]) (m := 1) t_34 rfl (j_rcvS rfl) rfl (fun d hd τ => ?_)
  unfold f_X3_exchangeIn
  refine j_aload_n (pc' := 1) rfl rfl rfl ?_
  refine j_iload_n (pc' := 2) rfl rfl rfl ?_
  refine j_iald (pc' := 3) rfl rfl j_a6 ?_
  refine j_leti (fun v1 => ?_)
  refine j_istore_n (pc' := 4) (L' := [some (.ref 6), some (.int l1), some (.int l2), some (.int v1)]) rfl rfl rfl ?_
  refine j_aload_n (pc' := 5) rfl rfl rfl ?_
  refine j_iload_n (pc' := 6) rfl rfl rfl ?_
  refine j_aload_n (pc' := 7) rfl rfl rfl ?_
  refine j_iload_n (pc' := 8) rfl rfl rfl ?_
  refine j_iald (pc' := 9) rfl rfl j_a6 ?_
  refine j_iast (pc' := 10) rfl rfl j_a6 (fun σ2 => ?_)
  refine j_aload_n (pc' := 11) rfl rfl rfl ?_
  refine j_iload_n (pc' := 12) rfl rfl rfl ?_
  refine j_iload_n (pc' := 13) rfl rfl rfl ?_
  refine j_iast (pc' := 14) rfl rfl j_a6 (fun σ3 => ?_)
  exact j_ret rfl rfl rfl (fun _ h => h)

theorem c_X3_exchangeIn_7 (l1 : Int32) (l2 : Int32) (σ : j_G) : j_K true 0 34 [.ref 7, .int l1, .int l2] σ (f_X3_exchangeIn 7 l1 l2 σ) j_Rv := by
  refine j_mkK (M := M_cX3_exchangeIn) (L := [some (.ref 7), some (.int l1), some (.int l2), none]) (m := 1) t_34 rfl (j_rcvS rfl) rfl (fun d hd τ => ?_)
  unfold f_X3_exchangeIn
  refine j_aload_n (pc' := 1) rfl rfl rfl ?_
  refine j_iload_n (pc' := 2) rfl rfl rfl ?_
  refine j_iald (pc' := 3) rfl rfl j_a7 ?_
  refine j_leti (fun v1 => ?_)
  refine j_istore_n (pc' := 4) (L' := [some (.ref 7), some (.int l1), some (.int l2), some (.int v1)]) rfl rfl rfl ?_
  refine j_aload_n (pc' := 5) rfl rfl rfl ?_
  refine j_iload_n (pc' := 6) rfl rfl rfl ?_
  refine j_aload_n (pc' := 7) rfl rfl rfl ?_
  refine j_iload_n (pc' := 8) rfl rfl rfl ?_
  refine j_iald (pc' := 9) rfl rfl j_a7 ?_
  refine j_iast (pc' := 10) rfl rfl j_a7 (fun σ2 => ?_)
  refine j_aload_n (pc' := 11) rfl rfl rfl ?_
  refine j_iload_n (pc' := 12) rfl rfl rfl ?_
  refine j_iload_n (pc' := 13) rfl rfl rfl ?_
  refine j_iast (pc' := 14) rfl rfl j_a7 (fun σ3 => ?_)
  exact j_ret rfl rfl rfl (fun _ h => h)

theorem c_X3_exchangeIn_8 (l1 : Int32) (l2 : Int32) (σ : j_G) : j_K true 0 34 [.ref 8, .int l1, .int l2] σ (f_X3_exchangeIn 8 l1 l2 σ) j_Rv := by
  refine j_mkK (M := M_cX3_exchangeIn) (L := [some (.ref 8), some (.int l1), some (.int l2), none]) (m := 1) t_34 rfl (j_rcvS rfl) rfl (fun d hd τ => ?_)
  unfold f_X3_exchangeIn
  refine j_aload_n (pc' := 1) rfl rfl rfl ?_
  refine j_iload_n (pc' := 2) rfl rfl rfl ?_
  refine j_iald (pc' := 3) rfl rfl j_a8 ?_
  refine j_leti (fun v1 => ?_)
  refine j_istore_n (pc' := 4) (L' := [some (.ref 8), some (.int l1), some (.int l2), some (.int v1)]) rfl rfl rfl ?_
  refine j_aload_n (pc' := 5) rfl rfl rfl ?_
  refine j_iload_n (pc' := 6) rfl rfl rfl ?_
  refine j_aload_n (pc' := 7) rfl rfl rfl ?_
  refine j_iload_n (pc' := 8) rfl rfl rfl ?_
  refine j_iald (pc' := 9) rfl rfl j_a8 ?_
  refine j_iast (pc' := 10) rfl rfl j_a8 (fun σ2 => ?_)
  refine j_aload_n (pc' := 11) rfl rfl rfl ?_
  refine j_iload_n (pc' := 12) rfl rfl rfl ?_
  refine j_iload_n (pc' := 13) rfl rfl rfl ?_
  refine j_iast (pc' := 14) rfl rfl j_a8 (fun σ3 => ?_)
  exact j_ret rfl rfl rfl (fun _ h => h)

noncomputable def f_X3_exchange (l1 : Int32) (l2 : Int32) (σ : j_G) : Option j_G :=
  if (¬ (f_X3_has l1 σ) = 0) ∧ (¬ (f_X3_has l2 σ) = 0) then (j_b1 (f_X3_exchangeIn 6 l1 l2 σ) fun σ1 =>
  j_b1 (f_X3_exchangeIn 7 l1 l2 σ1) fun σ2 =>
  j_b1 (f_X3_exchangeIn 8 l1 l2 σ2) fun σ3 =>
  some σ3) else (some σ)
theorem c_X3_exchange (l1 : Int32) (l2 : Int32) (σ : j_G) : j_K true 1 33 [.ref 5, .int l1, .int l2] σ (f_X3_exchange l1 l2 σ) j_Rv := by
  refine j_mkK (M := M_cX3_exchange) (L := [some (.ref 5), some (.int l1), some (.int l2)]) (m := 0) t_33 rfl (j_rcvO j_a5 rfl) rfl (fun d hd τ => ?_)
  unfold f_X3_exchange
  refine j_aload_n (pc' := 1) rfl rfl rfl ?_
  refine j_iload_n (pc' := 2) rfl rfl rfl ?_
  refine j_callTi (pc' := 5) (ai := 31) (vs := [.ref 5, .int l1]) (rest := []) rfl rfl (fun _ _ => rfl) (c_X3_has l1 σ) (j_dd rfl hd) rfl ?_
  refine j_two (pT := 16) (pF := 43) (L1 := [some (.ref 5), some (.int l1), some (.int l2)]) (st1 := []) (fun o kT kF => ?_) (fun h1 => ?_) (fun h1 => ?_)
  · refine j_ifeq (t := 43) (pc' := 8) rfl rfl rfl (fun h2 => ?_) (fun h2 => ?_)
    · exact kF (fun z => z.1 h2)
    · refine j_aload_n (pc' := 9) rfl rfl rfl ?_
      refine j_iload_n (pc' := 10) rfl rfl rfl ?_
      refine j_callTi (pc' := 13) (ai := 31) (vs := [.ref 5, .int l2]) (rest := []) rfl rfl (fun _ _ => rfl) (c_X3_has l2 σ) (j_dd rfl hd) rfl ?_
      refine j_ifeq (t := 43) (pc' := 16) rfl rfl rfl (fun h3 => ?_) (fun h3 => ?_)
      · exact kF (fun z => (fun z => z h3) z.2)
      · exact kT (⟨h2, h3⟩)
  · refine j_aload_n (pc' := 17) rfl rfl rfl ?_
    refine j_gfr (pc' := 20) (x := 6) rfl rfl j_a5 rfl rfl ?_
    refine j_iload_n (pc' := 21) rfl rfl rfl ?_
    refine j_iload_n (pc' := 22) rfl rfl rfl ?_
    refine j_callRv (pc' := 25) (ai := 34) (vs := [.ref 6, .int l1, .int l2]) (rest := []) rfl rfl (fun _ _ => rfl) (c_X3_exchangeIn_6 l1 l2 σ) (j_dd rfl hd) rfl (fun σ1 => ?_)
    refine j_aload_n (pc' := 26) rfl rfl rfl ?_
    refine j_gfr (pc' := 29) (x := 7) rfl rfl j_a5 rfl rfl ?_
    refine j_iload_n (pc' := 30) rfl rfl rfl ?_
    refine j_iload_n (pc' := 31) rfl rfl rfl ?_
    refine j_callRv (pc' := 34) (ai := 34) (vs := [.ref 7, .int l1, .int l2]) (rest := []) rfl rfl (fun _ _ => rfl) (c_X3_exchangeIn_7 l1 l2 σ1) (j_dd rfl hd) rfl (fun σ2 => ?_)
    refine j_aload_n (pc' := 35) rfl rfl rfl ?_
    refine j_gfr (pc' := 38) (x := 8) rfl rfl j_a5 rfl rfl ?_
    refine j_iload_n (pc' := 39) rfl rfl rfl ?_
    refine j_iload_n (pc' := 40) rfl rfl rfl ?_
    refine j_callRv (pc' := 43) (ai := 34) (vs := [.ref 8, .int l1, .int l2]) (rest := []) rfl rfl (fun _ _ => rfl) (c_X3_exchangeIn_8 l1 l2 σ2) (j_dd rfl hd) rfl (fun σ3 => ?_)
    exact j_ret rfl rfl rfl (fun _ h => h)
  · exact j_ret rfl rfl rfl (fun _ h => h)

noncomputable def p_X11_better_56 (l1 : Int32) (l4 : Int32) : Nat → Int32 → Int32 → Int32 → j_G → Option (Int32 × Int32 × j_G)
  | 0, _, _, _, _ => none
  | n + 1, l2, l3, l5, σ =>
    if l5 < (σ.1 5 0) then (j_b1 (f_X3_exchange l4 l5 σ) fun σ1 =>
    j_b1 (f_X2_pathRound σ1) fun v2 =>
    j_b1 (f_X3_exchange l4 l5 σ1) fun σ3 =>
    j_lt (if l1 = 0 then (if l3 < v2 then (j_lt (((100 : Int32) * l4) + l5) fun v6 =>
    (v6, v2)) else ((l2, l3))) else (if v2 < l3 then (j_lt (((100 : Int32) * l4) + l5) fun v7 =>
    (v7, v2)) else ((l2, l3)))) fun r8 =>
    p_X11_better_56 l1 l4 n (r8.1) (r8.2) (l5 + (1 : Int32)) σ3) else (some (l2, l3, σ))

noncomputable def p_X11_better_35 (l1 : Int32) : Nat → Int32 → Int32 → Int32 → j_G → Option (Int32 × j_G)
  | 0, _, _, _, _ => none
  | n + 1, l2, l3, l4, σ =>
    if l4 < (σ.1 5 0) then (j_lt (l4 + (1 : Int32)) fun v1 =>
    j_b3 (p_X11_better_56 l1 l4 j_F l2 l3 v1 σ) fun v2 v3 σ4 =>
    p_X11_better_35 l1 n v2 v3 (l4 + (1 : Int32)) σ4) else (some (l2, σ))

noncomputable def f_X11_better (l1 : Int32) (σ : j_G) : Option (Int32 × j_G) :=
  if ((f_X2_isTold σ) = 0) ∨ ((l1 < 0) ∨ ((1 : Int32) < l1)) then (some ((-2 : Int32), σ)) else (j_b1 (f_X2_pathRound σ) fun v1 =>
  j_b2 (p_X11_better_35 l1 j_F (-1 : Int32) v1 (0 : Int32) σ) fun v2 σ3 =>
  some (v2, σ3))
theorem l_X11_better_56 {d : Nat} (hd : 3 ≤ d) (τ : j_G) (l1 : Int32) (l4 : Int32) : ∀ (n : Nat) (l2 : Int32) (l3 : Int32) (l5 : Int32) (σ : j_G), j_J true τ M_cX11_better d 56 [some (.ref 0), some (.int l1), some (.int l2), some (.int l3), some (.int l4), some (.int l5), none] [] σ (p_X11_better_56 l1 l4 n l2 l3 l5 σ) (fun r Q => j_Tr true τ M_cX11_better d 145 [some (.ref 0), some (.int l1), some (.int r.1), some (.int r.2.1), some (.int l4), none, none] [] r.2.2 Q) := by
  intro n
  induction n with
  | zero => intro l2 l3 l5 σ; exact j_none
  | succ n ih =>
    intro l2 l3 l5 σ
    unfold p_X11_better_56
    refine j_iload (pc' := 58) rfl rfl rfl ?_
    refine j_aload_n (pc' := 59) rfl rfl rfl ?_
    refine j_gfr (pc' := 62) (x := 1) rfl rfl j_a0 rfl rfl ?_
    refine j_gfr (pc' := 65) (x := 5) rfl rfl j_a1 rfl rfl ?_
    refine j_gfi (pc' := 68) rfl rfl j_a5 rfl ?_
    refine j_two (pT := 71) (pF := 145) (L1 := [some (.ref 0), some (.int l1), some (.int l2), some (.int l3), some (.int l4), some (.int l5), none]) (st1 := []) (fun o kT kF => ?_) (fun h7 => ?_) (fun h7 => ?_)
    · refine j_icge (t := 145) (pc' := 71) rfl rfl rfl (fun h8 => ?_) (fun h8 => ?_)
      · exact kF h8
      · exact kT h8
    · refine j_aload_n (pc' := 72) rfl rfl rfl ?_
      refine j_gfr (pc' := 75) (x := 1) rfl rfl j_a0 rfl rfl ?_
      refine j_gfr (pc' := 78) (x := 5) rfl rfl j_a1 rfl rfl ?_
      refine j_iload (pc' := 80) rfl rfl rfl ?_
      refine j_iload (pc' := 82) rfl rfl rfl ?_
      refine j_callRv (pc' := 85) (ai := 33) (vs := [.ref 5, .int l4, .int l5]) (rest := []) rfl rfl (fun _ _ => rfl) (c_X3_exchange l4 l5 σ) (j_dd rfl hd) rfl (fun σ1 => ?_)
      refine j_aload_n (pc' := 86) rfl rfl rfl ?_
      refine j_gfr (pc' := 89) (x := 1) rfl rfl j_a0 rfl rfl ?_
      refine j_callPi (pc' := 92) (ai := 20) (vs := [.ref 1]) (rest := []) rfl rfl (fun _ _ => rfl) (c_X2_pathRound  σ1) (j_dd rfl hd) rfl (fun v2 => ?_)
      refine j_istore (pc' := 94) (L' := [some (.ref 0), some (.int l1), some (.int l2), some (.int l3), some (.int l4), some (.int l5), some (.int v2)]) rfl rfl rfl ?_
      refine j_aload_n (pc' := 95) rfl rfl rfl ?_
      refine j_gfr (pc' := 98) (x := 1) rfl rfl j_a0 rfl rfl ?_
      refine j_gfr (pc' := 101) (x := 5) rfl rfl j_a1 rfl rfl ?_
      refine j_iload (pc' := 103) rfl rfl rfl ?_
      refine j_iload (pc' := 105) rfl rfl rfl ?_
      refine j_callRv (pc' := 108) (ai := 33) (vs := [.ref 5, .int l4, .int l5]) (rest := []) rfl rfl (fun _ _ => rfl) (c_X3_exchange l4 l5 σ1) (j_dd rfl hd) rfl (fun σ3 => ?_)
      refine j_iload_n (pc' := 109) rfl rfl rfl ?_
      refine j_ql (Φl := (fun r Q => j_Tr true τ M_cX11_better d 139 [some (.ref 0), some (.int l1), some (.int r.1), some (.int r.2), some (.int l4), some (.int l5), none] [] σ3 Q)) ?_ (fun r8 => ?_)
      · refine j_twoT (pT := 112) (pF := 121) (L1 := [some (.ref 0), some (.int l1), some (.int l2), some (.int l3), some (.int l4), some (.int l5), some (.int v2)]) (st1 := []) (fun o kT kF => ?_) (fun h5 => ?_) (fun h5 => ?_)
        · refine j_ifne (t := 121) (pc' := 112) rfl rfl rfl (fun h6 => ?_) (fun h6 => ?_)
          · exact kF h6
          · exact kT h6
        · refine j_iload (pc' := 114) rfl rfl rfl ?_
          refine j_iload_n (pc' := 115) rfl rfl rfl ?_
          refine j_twoT (pT := 118) (pF := 139) (L1 := [some (.ref 0), some (.int l1), some (.int l2), some (.int l3), some (.int l4), some (.int l5), some (.int v2)]) (st1 := []) (fun o kT kF => ?_) (fun h1 => ?_) (fun h1 => ?_)
          · refine j_icle (t := 139) (pc' := 118) rfl rfl rfl (fun h2 => ?_) (fun h2 => ?_)
            · exact kF h2
            · exact kT h2
          · refine j_goto (t := 127) rfl rfl ?_
            refine j_iload (pc' := 129) rfl rfl rfl ?_
            refine j_istore_n (pc' := 130) (L' := [some (.ref 0), some (.int l1), some (.int l2), some (.int v2), some (.int l4), some (.int l5), some (.int v2)]) rfl rfl rfl ?_
            refine j_bipush (pc' := 132) (x := (100 : Int32)) rfl rfl rfl ?_
            refine j_iload (pc' := 134) rfl rfl rfl ?_
            refine j_imul (pc' := 135) rfl rfl ?_
            refine j_iload (pc' := 137) rfl rfl rfl ?_
            refine j_iadd (pc' := 138) rfl rfl ?_
            refine j_letiT (fun v6 => ?_)
            refine j_istore_n (pc' := 139) (L' := [some (.ref 0), some (.int l1), some (.int v6), some (.int v2), some (.int l4), some (.int l5), some (.int v2)]) rfl rfl rfl ?_
            refine j_wk [true, true, true, true, true, true, false] (L' := [some (.ref 0), some (.int l1), some (.int v6), some (.int v2), some (.int l4), some (.int l5), none]) rfl ?_
            exact j_end (fun _ h => h)
          · refine j_wk [true, true, true, true, true, true, false] (L' := [some (.ref 0), some (.int l1), some (.int l2), some (.int l3), some (.int l4), some (.int l5), none]) rfl ?_
            exact j_end (fun _ h => h)
        · refine j_iload (pc' := 123) rfl rfl rfl ?_
          refine j_iload_n (pc' := 124) rfl rfl rfl ?_
          refine j_twoT (pT := 127) (pF := 139) (L1 := [some (.ref 0), some (.int l1), some (.int l2), some (.int l3), some (.int l4), some (.int l5), some (.int v2)]) (st1 := []) (fun o kT kF => ?_) (fun h3 => ?_) (fun h3 => ?_)
          · refine j_icge (t := 139) (pc' := 127) rfl rfl rfl (fun h4 => ?_) (fun h4 => ?_)
            · exact kF h4
            · exact kT h4
          · refine j_iload (pc' := 129) rfl rfl rfl ?_
            refine j_istore_n (pc' := 130) (L' := [some (.ref 0), some (.int l1), some (.int l2), some (.int v2), some (.int l4), some (.int l5), some (.int v2)]) rfl rfl rfl ?_
            refine j_bipush (pc' := 132) (x := (100 : Int32)) rfl rfl rfl ?_
            refine j_iload (pc' := 134) rfl rfl rfl ?_
            refine j_imul (pc' := 135) rfl rfl ?_
            refine j_iload (pc' := 137) rfl rfl rfl ?_
            refine j_iadd (pc' := 138) rfl rfl ?_
            refine j_letiT (fun v7 => ?_)
            refine j_istore_n (pc' := 139) (L' := [some (.ref 0), some (.int l1), some (.int v7), some (.int v2), some (.int l4), some (.int l5), some (.int v2)]) rfl rfl rfl ?_
            refine j_wk [true, true, true, true, true, true, false] (L' := [some (.ref 0), some (.int l1), some (.int v7), some (.int v2), some (.int l4), some (.int l5), none]) rfl ?_
            exact j_end (fun _ h => h)
          · refine j_wk [true, true, true, true, true, true, false] (L' := [some (.ref 0), some (.int l1), some (.int l2), some (.int l3), some (.int l4), some (.int l5), none]) rfl ?_
            exact j_end (fun _ h => h)
      show j_J true τ M_cX11_better d 139 [some (.ref 0), some (.int l1), some (.int (r8.1)), some (.int (r8.2)), some (.int l4), some (.int l5), none] [] σ3 _ _
      refine j_iincx (pc' := 142) (y := (1 : Int32)) (L' := [some (.ref 0), some (.int l1), some (.int (r8.1)), some (.int (r8.2)), some (.int l4), some (.int (l5 + (1 : Int32))), none]) rfl rfl rfl rfl rfl ?_
      refine j_goto (t := 56) rfl rfl ?_
      exact ih (r8.1) (r8.2) (l5 + (1 : Int32)) σ3
    · refine j_wk [true, true, true, true, true, false, true] (L' := [some (.ref 0), some (.int l1), some (.int l2), some (.int l3), some (.int l4), none, none]) rfl ?_
      exact j_end (fun _ h => h)

theorem l_X11_better_35 {d : Nat} (hd : 3 ≤ d) (τ : j_G) (l1 : Int32) : ∀ (n : Nat) (l2 : Int32) (l3 : Int32) (l4 : Int32) (σ : j_G), j_J true τ M_cX11_better d 35 [some (.ref 0), some (.int l1), some (.int l2), some (.int l3), some (.int l4), none, none] [] σ (p_X11_better_35 l1 n l2 l3 l4 σ) (fun r Q => j_Tr true τ M_cX11_better d 151 [none, none, some (.int r.1), none, none, none, none] [] r.2 Q) := by
  intro n
  induction n with
  | zero => intro l2 l3 l4 σ; exact j_none
  | succ n ih =>
    intro l2 l3 l4 σ
    unfold p_X11_better_35
    refine j_iload (pc' := 37) rfl rfl rfl ?_
    refine j_aload_n (pc' := 38) rfl rfl rfl ?_
    refine j_gfr (pc' := 41) (x := 1) rfl rfl j_a0 rfl rfl ?_
    refine j_gfr (pc' := 44) (x := 5) rfl rfl j_a1 rfl rfl ?_
    refine j_gfi (pc' := 47) rfl rfl j_a5 rfl ?_
    refine j_two (pT := 50) (pF := 151) (L1 := [some (.ref 0), some (.int l1), some (.int l2), some (.int l3), some (.int l4), none, none]) (st1 := []) (fun o kT kF => ?_) (fun h1 => ?_) (fun h1 => ?_)
    · refine j_icge (t := 151) (pc' := 50) rfl rfl rfl (fun h2 => ?_) (fun h2 => ?_)
      · exact kF h2
      · exact kT h2
    · refine j_iload (pc' := 52) rfl rfl rfl ?_
      refine j_iconst (pc' := 53) (x := (1 : Int32)) rfl rfl rfl ?_
      refine j_iadd (pc' := 54) rfl rfl ?_
      refine j_leti (fun v1 => ?_)
      refine j_istore (pc' := 56) (L' := [some (.ref 0), some (.int l1), some (.int l2), some (.int l3), some (.int l4), some (.int v1), none]) rfl rfl rfl ?_
      refine j_q3 (l_X11_better_56 hd τ l1 l4 j_F l2 l3 v1 σ) (fun v2 v3 σ4 => ?_)
      show j_J true τ M_cX11_better d 145 [some (.ref 0), some (.int l1), some (.int v2), some (.int v3), some (.int l4), none, none] [] σ4 _ _
      refine j_iincx (pc' := 148) (y := (1 : Int32)) (L' := [some (.ref 0), some (.int l1), some (.int v2), some (.int v3), some (.int (l4 + (1 : Int32))), none, none]) rfl rfl rfl rfl rfl ?_
      refine j_goto (t := 35) rfl rfl ?_
      exact ih v2 v3 (l4 + (1 : Int32)) σ4
    · refine j_wk [false, false, true, false, false, true, true] (L' := [none, none, some (.int l2), none, none, none, none]) rfl ?_
      exact j_end (fun _ h => h)

theorem c_X11_better (l1 : Int32) (σ : j_G) : j_K true 3 168 [.ref 0, .int l1] σ (f_X11_better l1 σ) j_Ri := by
  refine j_mkK (M := M_cX11_better) (L := [some (.ref 0), some (.int l1), none, none, none, none, none]) (m := 5) t_168 rfl (j_rcvO j_a0 rfl) rfl (fun d hd τ => ?_)
  unfold f_X11_better
  refine j_aload_n (pc' := 1) rfl rfl rfl ?_
  refine j_gfr (pc' := 4) (x := 1) rfl rfl j_a0 rfl rfl ?_
  refine j_callTi (pc' := 7) (ai := 11) (vs := [.ref 1]) (rest := []) rfl rfl (fun _ _ => rfl) (c_X2_isTold  σ) (j_dd rfl hd) rfl ?_
  refine j_two (pT := 19) (pF := 22) (L1 := [some (.ref 0), some (.int l1), none, none, none, none, none]) (st1 := []) (fun o kT kF => ?_) (fun h1 => ?_) (fun h1 => ?_)
  · refine j_ifeq (t := 19) (pc' := 10) rfl rfl rfl (fun h2 => ?_) (fun h2 => ?_)
    · exact kT (Or.inl h2)
    · refine j_iload_n (pc' := 11) rfl rfl rfl ?_
      refine j_iflt (t := 19) (pc' := 14) rfl rfl rfl (fun h3 => ?_) (fun h3 => ?_)
      · exact kT (Or.inr (Or.inl h3))
      · refine j_iload_n (pc' := 15) rfl rfl rfl ?_
        refine j_iconst (pc' := 16) (x := (1 : Int32)) rfl rfl rfl ?_
        refine j_icle (t := 22) (pc' := 19) rfl rfl rfl (fun h4 => ?_) (fun h4 => ?_)
        · exact kF (fun z => z.elim h2 (fun z => z.elim h3 (h4)))
        · exact kT (Or.inr (Or.inr (h4)))
  · refine j_bipush (pc' := 21) (x := (-2 : Int32)) rfl rfl rfl ?_
    exact j_ret rfl rfl rfl (fun _ h => h)
  · refine j_iconst (pc' := 23) (x := (-1 : Int32)) rfl rfl rfl ?_
    refine j_istore_n (pc' := 24) (L' := [some (.ref 0), some (.int l1), some (.int (-1 : Int32)), none, none, none, none]) rfl rfl rfl ?_
    refine j_aload_n (pc' := 25) rfl rfl rfl ?_
    refine j_gfr (pc' := 28) (x := 1) rfl rfl j_a0 rfl rfl ?_
    refine j_callPi (pc' := 31) (ai := 20) (vs := [.ref 1]) (rest := []) rfl rfl (fun _ _ => rfl) (c_X2_pathRound  σ) (j_dd rfl hd) rfl (fun v1 => ?_)
    refine j_istore_n (pc' := 32) (L' := [some (.ref 0), some (.int l1), some (.int (-1 : Int32)), some (.int v1), none, none, none]) rfl rfl rfl ?_
    refine j_iconst (pc' := 33) (x := (0 : Int32)) rfl rfl rfl ?_
    refine j_istore (pc' := 35) (L' := [some (.ref 0), some (.int l1), some (.int (-1 : Int32)), some (.int v1), some (.int (0 : Int32)), none, none]) rfl rfl rfl ?_
    refine j_q2 (l_X11_better_35 hd τ l1 j_F (-1 : Int32) v1 (0 : Int32) σ) (fun v2 σ3 => ?_)
    show j_J true τ M_cX11_better d 151 [none, none, some (.int v2), none, none, none, none] [] σ3 _ _
    refine j_iload_n (pc' := 152) rfl rfl rfl ?_
    exact j_ret rfl rfl rfl (fun _ h => h)

