noncomputable def p_X12_luck_31 (l1 : Int32) (σ : j_G) : Nat → Int64 → Int32 → Option Int32
  | 0, _, _ => none
  | n + 1, l4, l6 =>
    j_ix l1 4 (
    if l6 < (σ.1 94 (l1).toNatClampNeg) then (j_b1 (f_X12_openHoles σ) fun v1 =>
    j_lt (l4 * (v1).toInt64) fun v2 =>
    if (1000000000 : Int64) < v2 then (some (-1 : Int32)) else (p_X12_luck_31 l1 σ n v2 (l6 + (1 : Int32)))) else (some (l4).toInt32))

noncomputable def f_X12_luck (l1 : Int32) (σ : j_G) : Option Int32 :=
  j_b1 (f_X12_asksHeard l1 σ) fun v1 =>
  if v1 < 0 then (some v1) else (j_b1 (f_X12_leastPeriod l1 σ) fun v2 =>
  if v2 = (-1 : Int32) then (some (-1 : Int32)) else (p_X12_luck_31 l1 σ j_F (1 : Int64) v2))
theorem l_X12_luck_31 {d : Nat} (hd : 3 ≤ d) (τ : j_G) (l1 : Int32) (σ : j_G) : ∀ (n : Nat) (l4 : Int64) (l6 : Int32), j_J false τ M_cX12_luck d 31 [some (.ref 75), some (.int l1), none, none, some (.long l4), none, some (.int l6)] [] σ (p_X12_luck_31 l1 σ n l4 l6) (j_Pi σ) := by
  intro n
  induction n with
  | zero => intro l4 l6; exact j_none
  | succ n ih =>
    intro l4 l6
    unfold p_X12_luck_31
    refine j_iload (pc' := 33) rfl rfl rfl ?_
    refine j_aload_n (pc' := 34) rfl rfl rfl ?_
    refine j_gfr (pc' := 37) (x := 94) rfl rfl j_a75 rfl rfl ?_
    refine j_iload_n (pc' := 38) rfl rfl rfl ?_
    refine j_iald (pc' := 39) rfl rfl j_a94 ?_
    refine j_two (pT := 42) (pF := 69) (L1 := [some (.ref 75), some (.int l1), none, none, some (.long l4), none, some (.int l6)]) (st1 := []) (fun o kT kF => ?_) (fun h3 => ?_) (fun h3 => ?_)
    · refine j_icge (t := 69) (pc' := 42) rfl rfl rfl (fun h4 => ?_) (fun h4 => ?_)
      · exact kF h4
      · exact kT h4
    · refine j_lload (pc' := 44) rfl rfl rfl ?_
      refine j_aload_n (pc' := 45) rfl rfl rfl ?_
      refine j_callPi (pc' := 48) (ai := 278) (vs := [.ref 75]) (rest := [.long l4]) rfl rfl (fun _ _ => rfl) (c_X12_openHoles  σ) (j_dd rfl hd) rfl (fun v1 => ?_)
      refine j_i2l (pc' := 49) rfl rfl ?_
      refine j_lmul (pc' := 50) rfl rfl ?_
      refine j_letl (fun v2 => ?_)
      refine j_lstore (pc' := 52) (L' := [some (.ref 75), some (.int l1), none, none, some (.long v2), none, some (.int l6)]) rfl rfl rfl ?_
      refine j_lload (pc' := 54) rfl rfl rfl ?_
      refine j_ldc2_w (pc' := 57) (x := (1000000000 : Int64)) rfl rfl rfl ?_
      refine j_lcmp (pc' := 58) rfl rfl ?_
      refine j_two (pT := 61) (pF := 63) (L1 := [some (.ref 75), some (.int l1), none, none, some (.long v2), none, some (.int l6)]) (st1 := []) (fun o kT kF => ?_) (fun h1 => ?_) (fun h1 => ?_)
      · refine j_ifleL (t := 63) (pc' := 61) rfl rfl rfl (fun h2 => ?_) (fun h2 => ?_)
        · exact kF h2
        · exact kT h2
      · refine j_iconst (pc' := 62) (x := (-1 : Int32)) rfl rfl rfl ?_
        exact j_ret rfl rfl rfl (fun _ h => h)
      · refine j_iincx (pc' := 66) (y := (1 : Int32)) (L' := [some (.ref 75), some (.int l1), none, none, some (.long v2), none, some (.int (l6 + (1 : Int32)))]) rfl rfl rfl rfl rfl ?_
        refine j_goto (t := 31) rfl rfl ?_
        exact ih v2 (l6 + (1 : Int32))
    · refine j_lload (pc' := 71) rfl rfl rfl ?_
      refine j_l2i (pc' := 72) rfl rfl ?_
      exact j_ret rfl rfl rfl (fun _ h => h)

theorem c_X12_luck (l1 : Int32) (σ : j_G) : j_K false 3 304 [.ref 75, .int l1] σ (f_X12_luck l1 σ) (j_Pi σ) := by
  refine j_mkK (M := M_cX12_luck) (L := [some (.ref 75), some (.int l1), none, none, none, none, none]) (m := 5) t_304 rfl (j_rcvO j_a75 rfl) rfl (fun d hd τ => ?_)
  unfold f_X12_luck
  refine j_aload_n (pc' := 1) rfl rfl rfl ?_
  refine j_iload_n (pc' := 2) rfl rfl rfl ?_
  refine j_callPi (pc' := 5) (ai := 299) (vs := [.ref 75, .int l1]) (rest := []) rfl rfl (fun _ _ => rfl) (c_X12_asksHeard l1 σ) (j_dd rfl hd) rfl (fun v1 => ?_)
  refine j_istore_n (pc' := 6) (L' := [some (.ref 75), some (.int l1), some (.int v1), none, none, none, none]) rfl rfl rfl ?_
  refine j_iload_n (pc' := 7) rfl rfl rfl ?_
  refine j_two (pT := 10) (pF := 12) (L1 := [some (.ref 75), some (.int l1), some (.int v1), none, none, none, none]) (st1 := []) (fun o kT kF => ?_) (fun h3 => ?_) (fun h3 => ?_)
  · refine j_ifge (t := 12) (pc' := 10) rfl rfl rfl (fun h4 => ?_) (fun h4 => ?_)
    · exact kF h4
    · exact kT h4
  · refine j_iload_n (pc' := 11) rfl rfl rfl ?_
    exact j_ret rfl rfl rfl (fun _ h => h)
  · refine j_aload_n (pc' := 13) rfl rfl rfl ?_
    refine j_iload_n (pc' := 14) rfl rfl rfl ?_
    refine j_callPi (pc' := 17) (ai := 301) (vs := [.ref 75, .int l1]) (rest := []) rfl rfl (fun _ _ => rfl) (c_X12_leastPeriod l1 σ) (j_dd rfl hd) rfl (fun v2 => ?_)
    refine j_istore_n (pc' := 18) (L' := [some (.ref 75), some (.int l1), some (.int v1), some (.int v2), none, none, none]) rfl rfl rfl ?_
    refine j_iload_n (pc' := 19) rfl rfl rfl ?_
    refine j_iconst (pc' := 20) (x := (-1 : Int32)) rfl rfl rfl ?_
    refine j_two (pT := 23) (pF := 25) (L1 := [some (.ref 75), some (.int l1), some (.int v1), some (.int v2), none, none, none]) (st1 := []) (fun o kT kF => ?_) (fun h1 => ?_) (fun h1 => ?_)
    · refine j_icne (t := 25) (pc' := 23) rfl rfl rfl (fun h2 => ?_) (fun h2 => ?_)
      · exact kF h2
      · exact kT h2
    · refine j_iconst (pc' := 24) (x := (-1 : Int32)) rfl rfl rfl ?_
      exact j_ret rfl rfl rfl (fun _ h => h)
    · refine j_lconst (pc' := 26) (x := (1 : Int64)) rfl rfl rfl ?_
      refine j_lstore (pc' := 28) (L' := [some (.ref 75), some (.int l1), some (.int v1), some (.int v2), some (.long (1 : Int64)), none, none]) rfl rfl rfl ?_
      refine j_iload_n (pc' := 29) rfl rfl rfl ?_
      refine j_istore (pc' := 31) (L' := [some (.ref 75), some (.int l1), some (.int v1), some (.int v2), some (.long (1 : Int64)), none, some (.int v2)]) rfl rfl rfl ?_
      refine j_wk [true, true, false, false, true, true, true] (L' := [some (.ref 75), some (.int l1), none, none, some (.long (1 : Int64)), none, some (.int v2)]) rfl ?_
      exact (l_X12_luck_31 hd τ l1 σ j_F (1 : Int64) v2)

noncomputable def p_X3_goesSo_2 (a2 : Nat) (a2_2 : Nat) (l1 : Int32) (σ : j_G) : Nat → Int32 → Option Int32
  | 0, _ => none
  | n + 1, l3 =>
    if l3 < (σ.1 a2 0) then (j_ix l3 60 (
    j_b1 (f_X3_round (l1 + l3) σ) fun v1 =>
    if ¬ (σ.2 a2_2 (l3).toNatClampNeg) = (v1).toInt64 then (some (0 : Int32)) else (p_X3_goesSo_2 a2 a2_2 l1 σ n (l3 + (1 : Int32))))) else (some (1 : Int32))

noncomputable def f_X3_goesSo (a2 : Nat) (a2_2 : Nat) (l1 : Int32) (σ : j_G) : Option Int32 :=
  p_X3_goesSo_2 a2 a2_2 l1 σ j_F (0 : Int32)
theorem l_X3_goesSo_2_5_67 {d : Nat} (hd : 2 ≤ d) (τ : j_G) (l1 : Int32) (σ : j_G) : ∀ (n : Nat) (l3 : Int32), j_J true τ M_cX3_goesSo d 2 [some (.ref 5), some (.int l1), some (.ref 67), some (.int l3)] [] σ (p_X3_goesSo_2 67 68 l1 σ n l3) (j_Pi σ) := by
  intro n
  induction n with
  | zero => intro l3; exact j_none
  | succ n ih =>
    intro l3
    unfold p_X3_goesSo_2
    refine j_iload_n (pc' := 3) rfl rfl rfl ?_
    refine j_aload_n (pc' := 4) rfl rfl rfl ?_
    refine j_gfi (pc' := 7) rfl rfl j_a67 rfl ?_
    refine j_two (pT := 10) (pF := 36) (L1 := [some (.ref 5), some (.int l1), some (.ref 67), some (.int l3)]) (st1 := []) (fun o kT kF => ?_) (fun h3 => ?_) (fun h3 => ?_)
    · refine j_icge (t := 36) (pc' := 10) rfl rfl rfl (fun h4 => ?_) (fun h4 => ?_)
      · exact kF h4
      · exact kT h4
    · refine j_aload_n (pc' := 11) rfl rfl rfl ?_
      refine j_gfr (pc' := 14) (x := 68) rfl rfl j_a67 rfl rfl ?_
      refine j_iload_n (pc' := 15) rfl rfl rfl ?_
      refine j_lald (pc' := 16) rfl rfl j_a68 ?_
      refine j_aload_n (pc' := 17) rfl rfl rfl ?_
      refine j_iload_n (pc' := 18) rfl rfl rfl ?_
      refine j_iload_n (pc' := 19) rfl rfl rfl ?_
      refine j_iadd (pc' := 20) rfl rfl ?_
      refine j_callPi (pc' := 23) (ai := 35) (vs := [.ref 5, .int (l1 + l3)]) (rest := [.long (σ.2 68 (l3).toNatClampNeg)]) rfl rfl (fun _ _ => rfl) (c_X3_round (l1 + l3) σ) (j_dd rfl hd) rfl (fun v1 => ?_)
      refine j_i2l (pc' := 24) rfl rfl ?_
      refine j_lcmp (pc' := 25) rfl rfl ?_
      refine j_two (pT := 28) (pF := 30) (L1 := [some (.ref 5), some (.int l1), some (.ref 67), some (.int l3)]) (st1 := []) (fun o kT kF => ?_) (fun h1 => ?_) (fun h1 => ?_)
      · refine j_ifeqL (t := 30) (pc' := 28) rfl rfl rfl (fun h2 => ?_) (fun h2 => ?_)
        · exact kF (fun z => z h2)
        · exact kT h2
      · refine j_iconst (pc' := 29) (x := (0 : Int32)) rfl rfl rfl ?_
        exact j_ret rfl rfl rfl (fun _ h => h)
      · refine j_iincx (pc' := 33) (y := (1 : Int32)) (L' := [some (.ref 5), some (.int l1), some (.ref 67), some (.int (l3 + (1 : Int32)))]) rfl rfl rfl rfl rfl ?_
        refine j_goto (t := 2) rfl rfl ?_
        exact ih (l3 + (1 : Int32))
    · refine j_iconst (pc' := 37) (x := (1 : Int32)) rfl rfl rfl ?_
      exact j_ret rfl rfl rfl (fun _ h => h)

theorem c_X3_goesSo_5_67 (l1 : Int32) (σ : j_G) : j_K true 2 37 [.ref 5, .int l1, .ref 67] σ (f_X3_goesSo 67 68 l1 σ) (j_Pi σ) := by
  refine j_mkK (M := M_cX3_goesSo) (L := [some (.ref 5), some (.int l1), some (.ref 67), none]) (m := 1) t_37 rfl (j_rcvO j_a5 rfl) rfl (fun d hd τ => ?_)
  unfold f_X3_goesSo
  refine j_iconst (pc' := 1) (x := (0 : Int32)) rfl rfl rfl ?_
  refine j_istore_n (pc' := 2) (L' := [some (.ref 5), some (.int l1), some (.ref 67), some (.int (0 : Int32))]) rfl rfl rfl ?_
  exact (l_X3_goesSo_2_5_67 hd τ l1 σ j_F (0 : Int32))

theorem l_X3_goesSo_2_5_69 {d : Nat} (hd : 2 ≤ d) (τ : j_G) (l1 : Int32) (σ : j_G) : ∀ (n : Nat) (l3 : Int32), j_J true τ M_cX3_goesSo d 2 [some (.ref 5), some (.int l1), some (.ref 69), some (.int l3)] [] σ (p_X3_goesSo_2 69 70 l1 σ n l3) (j_Pi σ) := by
  intro n
  induction n with
  | zero => intro l3; exact j_none
  | succ n ih =>
    intro l3
    unfold p_X3_goesSo_2
    refine j_iload_n (pc' := 3) rfl rfl rfl ?_
    refine j_aload_n (pc' := 4) rfl rfl rfl ?_
    refine j_gfi (pc' := 7) rfl rfl j_a69 rfl ?_
    refine j_two (pT := 10) (pF := 36) (L1 := [some (.ref 5), some (.int l1), some (.ref 69), some (.int l3)]) (st1 := []) (fun o kT kF => ?_) (fun h3 => ?_) (fun h3 => ?_)
    · refine j_icge (t := 36) (pc' := 10) rfl rfl rfl (fun h4 => ?_) (fun h4 => ?_)
      · exact kF h4
      · exact kT h4
    · refine j_aload_n (pc' := 11) rfl rfl rfl ?_
      refine j_gfr (pc' := 14) (x := 70) rfl rfl j_a69 rfl rfl ?_
      refine j_iload_n (pc' := 15) rfl rfl rfl ?_
      refine j_lald (pc' := 16) rfl rfl j_a70 ?_
      refine j_aload_n (pc' := 17) rfl rfl rfl ?_
      refine j_iload_n (pc' := 18) rfl rfl rfl ?_
      refine j_iload_n (pc' := 19) rfl rfl rfl ?_
      refine j_iadd (pc' := 20) rfl rfl ?_
      refine j_callPi (pc' := 23) (ai := 35) (vs := [.ref 5, .int (l1 + l3)]) (rest := [.long (σ.2 70 (l3).toNatClampNeg)]) rfl rfl (fun _ _ => rfl) (c_X3_round (l1 + l3) σ) (j_dd rfl hd) rfl (fun v1 => ?_)
      refine j_i2l (pc' := 24) rfl rfl ?_
      refine j_lcmp (pc' := 25) rfl rfl ?_
      refine j_two (pT := 28) (pF := 30) (L1 := [some (.ref 5), some (.int l1), some (.ref 69), some (.int l3)]) (st1 := []) (fun o kT kF => ?_) (fun h1 => ?_) (fun h1 => ?_)
      · refine j_ifeqL (t := 30) (pc' := 28) rfl rfl rfl (fun h2 => ?_) (fun h2 => ?_)
        · exact kF (fun z => z h2)
        · exact kT h2
      · refine j_iconst (pc' := 29) (x := (0 : Int32)) rfl rfl rfl ?_
        exact j_ret rfl rfl rfl (fun _ h => h)
      · refine j_iincx (pc' := 33) (y := (1 : Int32)) (L' := [some (.ref 5), some (.int l1), some (.ref 69), some (.int (l3 + (1 : Int32)))]) rfl rfl rfl rfl rfl ?_
        refine j_goto (t := 2) rfl rfl ?_
        exact ih (l3 + (1 : Int32))
    · refine j_iconst (pc' := 37) (x := (1 : Int32)) rfl rfl rfl ?_
      exact j_ret rfl rfl rfl (fun _ h => h)

theorem c_X3_goesSo_5_69 (l1 : Int32) (σ : j_G) : j_K true 2 37 [.ref 5, .int l1, .ref 69] σ (f_X3_goesSo 69 70 l1 σ) (j_Pi σ) := by
  refine j_mkK (M := M_cX3_goesSo) (L := [some (.ref 5), some (.int l1), some (.ref 69), none]) (m := 1) t_37 rfl (j_rcvO j_a5 rfl) rfl (fun d hd τ => ?_)
  unfold f_X3_goesSo
  refine j_iconst (pc' := 1) (x := (0 : Int32)) rfl rfl rfl ?_
  refine j_istore_n (pc' := 2) (L' := [some (.ref 5), some (.int l1), some (.ref 69), some (.int (0 : Int32))]) rfl rfl rfl ?_
  exact (l_X3_goesSo_2_5_69 hd τ l1 σ j_F (0 : Int32))

theorem l_X3_goesSo_2_5_71 {d : Nat} (hd : 2 ≤ d) (τ : j_G) (l1 : Int32) (σ : j_G) : ∀ (n : Nat) (l3 : Int32), j_J true τ M_cX3_goesSo d 2 [some (.ref 5), some (.int l1), some (.ref 71), some (.int l3)] [] σ (p_X3_goesSo_2 71 72 l1 σ n l3) (j_Pi σ) := by
  intro n
  induction n with
  | zero => intro l3; exact j_none
  | succ n ih =>
    intro l3
    unfold p_X3_goesSo_2
    refine j_iload_n (pc' := 3) rfl rfl rfl ?_
    refine j_aload_n (pc' := 4) rfl rfl rfl ?_
    refine j_gfi (pc' := 7) rfl rfl j_a71 rfl ?_
    refine j_two (pT := 10) (pF := 36) (L1 := [some (.ref 5), some (.int l1), some (.ref 71), some (.int l3)]) (st1 := []) (fun o kT kF => ?_) (fun h3 => ?_) (fun h3 => ?_)
    · refine j_icge (t := 36) (pc' := 10) rfl rfl rfl (fun h4 => ?_) (fun h4 => ?_)
      · exact kF h4
      · exact kT h4
    · refine j_aload_n (pc' := 11) rfl rfl rfl ?_
      refine j_gfr (pc' := 14) (x := 72) rfl rfl j_a71 rfl rfl ?_
      refine j_iload_n (pc' := 15) rfl rfl rfl ?_
      refine j_lald (pc' := 16) rfl rfl j_a72 ?_
      refine j_aload_n (pc' := 17) rfl rfl rfl ?_
      refine j_iload_n (pc' := 18) rfl rfl rfl ?_
      refine j_iload_n (pc' := 19) rfl rfl rfl ?_
      refine j_iadd (pc' := 20) rfl rfl ?_
      refine j_callPi (pc' := 23) (ai := 35) (vs := [.ref 5, .int (l1 + l3)]) (rest := [.long (σ.2 72 (l3).toNatClampNeg)]) rfl rfl (fun _ _ => rfl) (c_X3_round (l1 + l3) σ) (j_dd rfl hd) rfl (fun v1 => ?_)
      refine j_i2l (pc' := 24) rfl rfl ?_
      refine j_lcmp (pc' := 25) rfl rfl ?_
      refine j_two (pT := 28) (pF := 30) (L1 := [some (.ref 5), some (.int l1), some (.ref 71), some (.int l3)]) (st1 := []) (fun o kT kF => ?_) (fun h1 => ?_) (fun h1 => ?_)
      · refine j_ifeqL (t := 30) (pc' := 28) rfl rfl rfl (fun h2 => ?_) (fun h2 => ?_)
        · exact kF (fun z => z h2)
        · exact kT h2
      · refine j_iconst (pc' := 29) (x := (0 : Int32)) rfl rfl rfl ?_
        exact j_ret rfl rfl rfl (fun _ h => h)
      · refine j_iincx (pc' := 33) (y := (1 : Int32)) (L' := [some (.ref 5), some (.int l1), some (.ref 71), some (.int (l3 + (1 : Int32)))]) rfl rfl rfl rfl rfl ?_
        refine j_goto (t := 2) rfl rfl ?_
        exact ih (l3 + (1 : Int32))
    · refine j_iconst (pc' := 37) (x := (1 : Int32)) rfl rfl rfl ?_
      exact j_ret rfl rfl rfl (fun _ h => h)

theorem c_X3_goesSo_5_71 (l1 : Int32) (σ : j_G) : j_K true 2 37 [.ref 5, .int l1, .ref 71] σ (f_X3_goesSo 71 72 l1 σ) (j_Pi σ) := by
  refine j_mkK (M := M_cX3_goesSo) (L := [some (.ref 5), some (.int l1), some (.ref 71), none]) (m := 1) t_37 rfl (j_rcvO j_a5 rfl) rfl (fun d hd τ => ?_)
  unfold f_X3_goesSo
  refine j_iconst (pc' := 1) (x := (0 : Int32)) rfl rfl rfl ?_
  refine j_istore_n (pc' := 2) (L' := [some (.ref 5), some (.int l1), some (.ref 71), some (.int (0 : Int32))]) rfl rfl rfl ?_
  exact (l_X3_goesSo_2_5_71 hd τ l1 σ j_F (0 : Int32))

theorem l_X3_goesSo_2_5_73 {d : Nat} (hd : 2 ≤ d) (τ : j_G) (l1 : Int32) (σ : j_G) : ∀ (n : Nat) (l3 : Int32), j_J true τ M_cX3_goesSo d 2 [some (.ref 5), some (.int l1), some (.ref 73), some (.int l3)] [] σ (p_X3_goesSo_2 73 74 l1 σ n l3) (j_Pi σ) := by
  intro n
  induction n with
  | zero => intro l3; exact j_none
  | succ n ih =>
    intro l3
    unfold p_X3_goesSo_2
    refine j_iload_n (pc' := 3) rfl rfl rfl ?_
    refine j_aload_n (pc' := 4) rfl rfl rfl ?_
    refine j_gfi (pc' := 7) rfl rfl j_a73 rfl ?_
    refine j_two (pT := 10) (pF := 36) (L1 := [some (.ref 5), some (.int l1), some (.ref 73), some (.int l3)]) (st1 := []) (fun o kT kF => ?_) (fun h3 => ?_) (fun h3 => ?_)
    · refine j_icge (t := 36) (pc' := 10) rfl rfl rfl (fun h4 => ?_) (fun h4 => ?_)
      · exact kF h4
      · exact kT h4
    · refine j_aload_n (pc' := 11) rfl rfl rfl ?_
      refine j_gfr (pc' := 14) (x := 74) rfl rfl j_a73 rfl rfl ?_
      refine j_iload_n (pc' := 15) rfl rfl rfl ?_
      refine j_lald (pc' := 16) rfl rfl j_a74 ?_
      refine j_aload_n (pc' := 17) rfl rfl rfl ?_
      refine j_iload_n (pc' := 18) rfl rfl rfl ?_
      refine j_iload_n (pc' := 19) rfl rfl rfl ?_
      refine j_iadd (pc' := 20) rfl rfl ?_
      refine j_callPi (pc' := 23) (ai := 35) (vs := [.ref 5, .int (l1 + l3)]) (rest := [.long (σ.2 74 (l3).toNatClampNeg)]) rfl rfl (fun _ _ => rfl) (c_X3_round (l1 + l3) σ) (j_dd rfl hd) rfl (fun v1 => ?_)
      refine j_i2l (pc' := 24) rfl rfl ?_
      refine j_lcmp (pc' := 25) rfl rfl ?_
      refine j_two (pT := 28) (pF := 30) (L1 := [some (.ref 5), some (.int l1), some (.ref 73), some (.int l3)]) (st1 := []) (fun o kT kF => ?_) (fun h1 => ?_) (fun h1 => ?_)
      · refine j_ifeqL (t := 30) (pc' := 28) rfl rfl rfl (fun h2 => ?_) (fun h2 => ?_)
        · exact kF (fun z => z h2)
        · exact kT h2
      · refine j_iconst (pc' := 29) (x := (0 : Int32)) rfl rfl rfl ?_
        exact j_ret rfl rfl rfl (fun _ h => h)
      · refine j_iincx (pc' := 33) (y := (1 : Int32)) (L' := [some (.ref 5), some (.int l1), some (.ref 73), some (.int (l3 + (1 : Int32)))]) rfl rfl rfl rfl rfl ?_
        refine j_goto (t := 2) rfl rfl ?_
        exact ih (l3 + (1 : Int32))
    · refine j_iconst (pc' := 37) (x := (1 : Int32)) rfl rfl rfl ?_
      exact j_ret rfl rfl rfl (fun _ h => h)

theorem c_X3_goesSo_5_73 (l1 : Int32) (σ : j_G) : j_K true 2 37 [.ref 5, .int l1, .ref 73] σ (f_X3_goesSo 73 74 l1 σ) (j_Pi σ) := by
  refine j_mkK (M := M_cX3_goesSo) (L := [some (.ref 5), some (.int l1), some (.ref 73), none]) (m := 1) t_37 rfl (j_rcvO j_a5 rfl) rfl (fun d hd τ => ?_)
  unfold f_X3_goesSo
  refine j_iconst (pc' := 1) (x := (0 : Int32)) rfl rfl rfl ?_
  refine j_istore_n (pc' := 2) (L' := [some (.ref 5), some (.int l1), some (.ref 73), some (.int (0 : Int32))]) rfl rfl rfl ?_
  exact (l_X3_goesSo_2_5_73 hd τ l1 σ j_F (0 : Int32))

noncomputable def p_X11_fits_17 (s46 : Nat) (s46_2 : Nat) (σ : j_G) : Nat → Int32 → Int32 → Option Int32
  | 0, _, _ => none
  | n + 1, l3, l4 =>
    if l4 < (σ.1 5 0) then (j_b1 (f_X3_goesSo s46 s46_2 l4 σ) fun v1 =>
    j_lt (if ¬ v1 = 0 then ((l3 + (1 : Int32))) else (l3)) fun v2 =>
    p_X11_fits_17 s46 s46_2 σ n v2 (l4 + (1 : Int32))) else (some l3)

noncomputable def f_X11_fits (l1 : Int32) (σ : j_G) : Option Int32 :=
  j_b1 (f_X11_whyUnheard l1 σ) fun v1 =>
  if ¬ v1 = 0 then (some v1) else (if l1 = 0 then (j_b1 (p_X11_fits_17 67 68 σ j_F (0 : Int32) (0 : Int32)) fun v2 =>
  some v2) else
  if l1 = 1 then (j_b1 (p_X11_fits_17 69 70 σ j_F (0 : Int32) (0 : Int32)) fun v3 =>
  some v3) else
  if l1 = 2 then (j_b1 (p_X11_fits_17 71 72 σ j_F (0 : Int32) (0 : Int32)) fun v4 =>
  some v4) else
  if l1 = 3 then (j_b1 (p_X11_fits_17 73 74 σ j_F (0 : Int32) (0 : Int32)) fun v5 =>
  some v5) else
  none)
theorem l_X11_fits_17_67_68 {d : Nat} (hd : 3 ≤ d) (τ : j_G) (σ : j_G) : ∀ (n : Nat) (l3 : Int32) (l4 : Int32), j_J true τ M_cX11_fits d 17 [some (.ref 0), some (.int (0 : Int32)), none, some (.int l3), some (.int l4)] [] σ (p_X11_fits_17 67 68 σ n l3 l4) (fun r Q => j_Tr true τ M_cX11_fits d 62 [none, none, none, some (.int r), none] [] σ Q) := by
  intro n
  induction n with
  | zero => intro l3 l4; exact j_none
  | succ n ih =>
    intro l3 l4
    unfold p_X11_fits_17
    refine j_iload (pc' := 19) rfl rfl rfl ?_
    refine j_aload_n (pc' := 20) rfl rfl rfl ?_
    refine j_gfr (pc' := 23) (x := 1) rfl rfl j_a0 rfl rfl ?_
    refine j_gfr (pc' := 26) (x := 5) rfl rfl j_a1 rfl rfl ?_
    refine j_gfi (pc' := 29) rfl rfl j_a5 rfl ?_
    refine j_two (pT := 32) (pF := 62) (L1 := [some (.ref 0), some (.int (0 : Int32)), none, some (.int l3), some (.int l4)]) (st1 := []) (fun o kT kF => ?_) (fun h3 => ?_) (fun h3 => ?_)
    · refine j_icge (t := 62) (pc' := 32) rfl rfl rfl (fun h4 => ?_) (fun h4 => ?_)
      · exact kF h4
      · exact kT h4
    · refine j_aload_n (pc' := 33) rfl rfl rfl ?_
      refine j_gfr (pc' := 36) (x := 1) rfl rfl j_a0 rfl rfl ?_
      refine j_gfr (pc' := 39) (x := 5) rfl rfl j_a1 rfl rfl ?_
      refine j_iload (pc' := 41) rfl rfl rfl ?_
      refine j_aload_n (pc' := 42) rfl rfl rfl ?_
      refine j_gfr (pc' := 45) (x := 42) rfl rfl j_a0 rfl rfl ?_
      refine j_iload_n (pc' := 46) rfl rfl rfl ?_
      refine j_aald (pc' := 47) (r := 67) rfl rfl j_a42 (by decide) rfl ?_
      refine j_callPi (pc' := 50) (ai := 37) (vs := [.ref 5, .int l4, .ref 67]) (rest := []) rfl rfl (fun _ _ => rfl) (c_X3_goesSo_5_67 l4 σ) (j_dd rfl hd) rfl (fun v1 => ?_)
      refine j_ql (Φl := (fun r Q => j_Tr true τ M_cX11_fits d 56 [some (.ref 0), some (.int (0 : Int32)), none, some (.int r), some (.int l4)] [] σ Q)) ?_ (fun v2 => ?_)
      · refine j_twoT (pT := 53) (pF := 56) (L1 := [some (.ref 0), some (.int (0 : Int32)), none, some (.int l3), some (.int l4)]) (st1 := []) (fun o kT kF => ?_) (fun h1 => ?_) (fun h1 => ?_)
        · refine j_ifeq (t := 56) (pc' := 53) rfl rfl rfl (fun h2 => ?_) (fun h2 => ?_)
          · exact kF (fun z => z h2)
          · exact kT h2
        · refine j_iincx (pc' := 56) (y := (1 : Int32)) (L' := [some (.ref 0), some (.int (0 : Int32)), none, some (.int (l3 + (1 : Int32))), some (.int l4)]) rfl rfl rfl rfl rfl ?_
          exact j_end (fun _ h => h)
        · exact j_end (fun _ h => h)
      show j_J true τ M_cX11_fits d 56 [some (.ref 0), some (.int (0 : Int32)), none, some (.int v2), some (.int l4)] [] σ _ _
      refine j_iincx (pc' := 59) (y := (1 : Int32)) (L' := [some (.ref 0), some (.int (0 : Int32)), none, some (.int v2), some (.int (l4 + (1 : Int32)))]) rfl rfl rfl rfl rfl ?_
      refine j_goto (t := 17) rfl rfl ?_
      exact ih v2 (l4 + (1 : Int32))
    · refine j_wk [false, false, true, true, false] (L' := [none, none, none, some (.int l3), none]) rfl ?_
      exact j_end (fun _ h => h)

theorem l_X11_fits_17_69_70 {d : Nat} (hd : 3 ≤ d) (τ : j_G) (σ : j_G) : ∀ (n : Nat) (l3 : Int32) (l4 : Int32), j_J true τ M_cX11_fits d 17 [some (.ref 0), some (.int (1 : Int32)), none, some (.int l3), some (.int l4)] [] σ (p_X11_fits_17 69 70 σ n l3 l4) (fun r Q => j_Tr true τ M_cX11_fits d 62 [none, none, none, some (.int r), none] [] σ Q) := by
  intro n
  induction n with
  | zero => intro l3 l4; exact j_none
  | succ n ih =>
    intro l3 l4
    unfold p_X11_fits_17
    refine j_iload (pc' := 19) rfl rfl rfl ?_
    refine j_aload_n (pc' := 20) rfl rfl rfl ?_
    refine j_gfr (pc' := 23) (x := 1) rfl rfl j_a0 rfl rfl ?_
    refine j_gfr (pc' := 26) (x := 5) rfl rfl j_a1 rfl rfl ?_
    refine j_gfi (pc' := 29) rfl rfl j_a5 rfl ?_
    refine j_two (pT := 32) (pF := 62) (L1 := [some (.ref 0), some (.int (1 : Int32)), none, some (.int l3), some (.int l4)]) (st1 := []) (fun o kT kF => ?_) (fun h3 => ?_) (fun h3 => ?_)
    · refine j_icge (t := 62) (pc' := 32) rfl rfl rfl (fun h4 => ?_) (fun h4 => ?_)
      · exact kF h4
      · exact kT h4
    · refine j_aload_n (pc' := 33) rfl rfl rfl ?_
      refine j_gfr (pc' := 36) (x := 1) rfl rfl j_a0 rfl rfl ?_
      refine j_gfr (pc' := 39) (x := 5) rfl rfl j_a1 rfl rfl ?_
      refine j_iload (pc' := 41) rfl rfl rfl ?_
      refine j_aload_n (pc' := 42) rfl rfl rfl ?_
      refine j_gfr (pc' := 45) (x := 42) rfl rfl j_a0 rfl rfl ?_
      refine j_iload_n (pc' := 46) rfl rfl rfl ?_
      refine j_aald (pc' := 47) (r := 69) rfl rfl j_a42 (by decide) rfl ?_
      refine j_callPi (pc' := 50) (ai := 37) (vs := [.ref 5, .int l4, .ref 69]) (rest := []) rfl rfl (fun _ _ => rfl) (c_X3_goesSo_5_69 l4 σ) (j_dd rfl hd) rfl (fun v1 => ?_)
      refine j_ql (Φl := (fun r Q => j_Tr true τ M_cX11_fits d 56 [some (.ref 0), some (.int (1 : Int32)), none, some (.int r), some (.int l4)] [] σ Q)) ?_ (fun v2 => ?_)
      · refine j_twoT (pT := 53) (pF := 56) (L1 := [some (.ref 0), some (.int (1 : Int32)), none, some (.int l3), some (.int l4)]) (st1 := []) (fun o kT kF => ?_) (fun h1 => ?_) (fun h1 => ?_)
        · refine j_ifeq (t := 56) (pc' := 53) rfl rfl rfl (fun h2 => ?_) (fun h2 => ?_)
          · exact kF (fun z => z h2)
          · exact kT h2
        · refine j_iincx (pc' := 56) (y := (1 : Int32)) (L' := [some (.ref 0), some (.int (1 : Int32)), none, some (.int (l3 + (1 : Int32))), some (.int l4)]) rfl rfl rfl rfl rfl ?_
          exact j_end (fun _ h => h)
        · exact j_end (fun _ h => h)
      show j_J true τ M_cX11_fits d 56 [some (.ref 0), some (.int (1 : Int32)), none, some (.int v2), some (.int l4)] [] σ _ _
      refine j_iincx (pc' := 59) (y := (1 : Int32)) (L' := [some (.ref 0), some (.int (1 : Int32)), none, some (.int v2), some (.int (l4 + (1 : Int32)))]) rfl rfl rfl rfl rfl ?_
      refine j_goto (t := 17) rfl rfl ?_
      exact ih v2 (l4 + (1 : Int32))
    · refine j_wk [false, false, true, true, false] (L' := [none, none, none, some (.int l3), none]) rfl ?_
      exact j_end (fun _ h => h)

theorem l_X11_fits_17_71_72 {d : Nat} (hd : 3 ≤ d) (τ : j_G) (σ : j_G) : ∀ (n : Nat) (l3 : Int32) (l4 : Int32), j_J true τ M_cX11_fits d 17 [some (.ref 0), some (.int (2 : Int32)), none, some (.int l3), some (.int l4)] [] σ (p_X11_fits_17 71 72 σ n l3 l4) (fun r Q => j_Tr true τ M_cX11_fits d 62 [none, none, none, some (.int r), none] [] σ Q) := by
  intro n
  induction n with
  | zero => intro l3 l4; exact j_none
  | succ n ih =>
    intro l3 l4
    unfold p_X11_fits_17
    refine j_iload (pc' := 19) rfl rfl rfl ?_
    refine j_aload_n (pc' := 20) rfl rfl rfl ?_
    refine j_gfr (pc' := 23) (x := 1) rfl rfl j_a0 rfl rfl ?_
    refine j_gfr (pc' := 26) (x := 5) rfl rfl j_a1 rfl rfl ?_
    refine j_gfi (pc' := 29) rfl rfl j_a5 rfl ?_
    refine j_two (pT := 32) (pF := 62) (L1 := [some (.ref 0), some (.int (2 : Int32)), none, some (.int l3), some (.int l4)]) (st1 := []) (fun o kT kF => ?_) (fun h3 => ?_) (fun h3 => ?_)
    · refine j_icge (t := 62) (pc' := 32) rfl rfl rfl (fun h4 => ?_) (fun h4 => ?_)
      · exact kF h4
      · exact kT h4
    · refine j_aload_n (pc' := 33) rfl rfl rfl ?_
      refine j_gfr (pc' := 36) (x := 1) rfl rfl j_a0 rfl rfl ?_
      refine j_gfr (pc' := 39) (x := 5) rfl rfl j_a1 rfl rfl ?_
      refine j_iload (pc' := 41) rfl rfl rfl ?_
      refine j_aload_n (pc' := 42) rfl rfl rfl ?_
      refine j_gfr (pc' := 45) (x := 42) rfl rfl j_a0 rfl rfl ?_
      refine j_iload_n (pc' := 46) rfl rfl rfl ?_
      refine j_aald (pc' := 47) (r := 71) rfl rfl j_a42 (by decide) rfl ?_
      refine j_callPi (pc' := 50) (ai := 37) (vs := [.ref 5, .int l4, .ref 71]) (rest := []) rfl rfl (fun _ _ => rfl) (c_X3_goesSo_5_71 l4 σ) (j_dd rfl hd) rfl (fun v1 => ?_)
      refine j_ql (Φl := (fun r Q => j_Tr true τ M_cX11_fits d 56 [some (.ref 0), some (.int (2 : Int32)), none, some (.int r), some (.int l4)] [] σ Q)) ?_ (fun v2 => ?_)
      · refine j_twoT (pT := 53) (pF := 56) (L1 := [some (.ref 0), some (.int (2 : Int32)), none, some (.int l3), some (.int l4)]) (st1 := []) (fun o kT kF => ?_) (fun h1 => ?_) (fun h1 => ?_)
        · refine j_ifeq (t := 56) (pc' := 53) rfl rfl rfl (fun h2 => ?_) (fun h2 => ?_)
          · exact kF (fun z => z h2)
          · exact kT h2
        · refine j_iincx (pc' := 56) (y := (1 : Int32)) (L' := [some (.ref 0), some (.int (2 : Int32)), none, some (.int (l3 + (1 : Int32))), some (.int l4)]) rfl rfl rfl rfl rfl ?_
          exact j_end (fun _ h => h)
        · exact j_end (fun _ h => h)
      show j_J true τ M_cX11_fits d 56 [some (.ref 0), some (.int (2 : Int32)), none, some (.int v2), some (.int l4)] [] σ _ _
      refine j_iincx (pc' := 59) (y := (1 : Int32)) (L' := [some (.ref 0), some (.int (2 : Int32)), none, some (.int v2), some (.int (l4 + (1 : Int32)))]) rfl rfl rfl rfl rfl ?_
      refine j_goto (t := 17) rfl rfl ?_
      exact ih v2 (l4 + (1 : Int32))
    · refine j_wk [false, false, true, true, false] (L' := [none, none, none, some (.int l3), none]) rfl ?_
      exact j_end (fun _ h => h)

theorem l_X11_fits_17_73_74 {d : Nat} (hd : 3 ≤ d) (τ : j_G) (σ : j_G) : ∀ (n : Nat) (l3 : Int32) (l4 : Int32), j_J true τ M_cX11_fits d 17 [some (.ref 0), some (.int (3 : Int32)), none, some (.int l3), some (.int l4)] [] σ (p_X11_fits_17 73 74 σ n l3 l4) (fun r Q => j_Tr true τ M_cX11_fits d 62 [none, none, none, some (.int r), none] [] σ Q) := by
  intro n
  induction n with
  | zero => intro l3 l4; exact j_none
  | succ n ih =>
    intro l3 l4
    unfold p_X11_fits_17
    refine j_iload (pc' := 19) rfl rfl rfl ?_
    refine j_aload_n (pc' := 20) rfl rfl rfl ?_
    refine j_gfr (pc' := 23) (x := 1) rfl rfl j_a0 rfl rfl ?_
    refine j_gfr (pc' := 26) (x := 5) rfl rfl j_a1 rfl rfl ?_
    refine j_gfi (pc' := 29) rfl rfl j_a5 rfl ?_
    refine j_two (pT := 32) (pF := 62) (L1 := [some (.ref 0), some (.int (3 : Int32)), none, some (.int l3), some (.int l4)]) (st1 := []) (fun o kT kF => ?_) (fun h3 => ?_) (fun h3 => ?_)
    · refine j_icge (t := 62) (pc' := 32) rfl rfl rfl (fun h4 => ?_) (fun h4 => ?_)
      · exact kF h4
      · exact kT h4
    · refine j_aload_n (pc' := 33) rfl rfl rfl ?_
      refine j_gfr (pc' := 36) (x := 1) rfl rfl j_a0 rfl rfl ?_
      refine j_gfr (pc' := 39) (x := 5) rfl rfl j_a1 rfl rfl ?_
      refine j_iload (pc' := 41) rfl rfl rfl ?_
      refine j_aload_n (pc' := 42) rfl rfl rfl ?_
      refine j_gfr (pc' := 45) (x := 42) rfl rfl j_a0 rfl rfl ?_
      refine j_iload_n (pc' := 46) rfl rfl rfl ?_
      refine j_aald (pc' := 47) (r := 73) rfl rfl j_a42 (by decide) rfl ?_
      refine j_callPi (pc' := 50) (ai := 37) (vs := [.ref 5, .int l4, .ref 73]) (rest := []) rfl rfl (fun _ _ => rfl) (c_X3_goesSo_5_73 l4 σ) (j_dd rfl hd) rfl (fun v1 => ?_)
      refine j_ql (Φl := (fun r Q => j_Tr true τ M_cX11_fits d 56 [some (.ref 0), some (.int (3 : Int32)), none, some (.int r), some (.int l4)] [] σ Q)) ?_ (fun v2 => ?_)
      · refine j_twoT (pT := 53) (pF := 56) (L1 := [some (.ref 0), some (.int (3 : Int32)), none, some (.int l3), some (.int l4)]) (st1 := []) (fun o kT kF => ?_) (fun h1 => ?_) (fun h1 => ?_)
        · refine j_ifeq (t := 56) (pc' := 53) rfl rfl rfl (fun h2 => ?_) (fun h2 => ?_)
          · exact kF (fun z => z h2)
          · exact kT h2
        · refine j_iincx (pc' := 56) (y := (1 : Int32)) (L' := [some (.ref 0), some (.int (3 : Int32)), none, some (.int (l3 + (1 : Int32))), some (.int l4)]) rfl rfl rfl rfl rfl ?_
          exact j_end (fun _ h => h)
        · exact j_end (fun _ h => h)
      show j_J true τ M_cX11_fits d 56 [some (.ref 0), some (.int (3 : Int32)), none, some (.int v2), some (.int l4)] [] σ _ _
      refine j_iincx (pc' := 59) (y := (1 : Int32)) (L' := [some (.ref 0), some (.int (3 : Int32)), none, some (.int v2), some (.int (l4 + (1 : Int32)))]) rfl rfl rfl rfl rfl ?_
      refine j_goto (t := 17) rfl rfl ?_
      exact ih v2 (l4 + (1 : Int32))
    · refine j_wk [false, false, true, true, false] (L' := [none, none, none, some (.int l3), none]) rfl ?_
      exact j_end (fun _ h => h)

theorem c_X11_fits (l1 : Int32) (σ : j_G) : j_K true 3 151 [.ref 0, .int l1] σ (f_X11_fits l1 σ) (j_Pi σ) := by
  refine j_mkK (M := M_cX11_fits) (L := [some (.ref 0), some (.int l1), none, none, none]) (m := 3) t_151 rfl (j_rcvO j_a0 rfl) rfl (fun d hd τ => ?_)
  unfold f_X11_fits
  refine j_aload_n (pc' := 1) rfl rfl rfl ?_
  refine j_iload_n (pc' := 2) rfl rfl rfl ?_
  refine j_callPi (pc' := 5) (ai := 193) (vs := [.ref 0, .int l1]) (rest := []) rfl rfl (fun _ _ => rfl) (c_X11_whyUnheard l1 σ) (j_dd rfl hd) rfl (fun v1 => ?_)
  refine j_istore_n (pc' := 6) (L' := [some (.ref 0), some (.int l1), some (.int v1), none, none]) rfl rfl rfl ?_
  refine j_iload_n (pc' := 7) rfl rfl rfl ?_
  refine j_two (pT := 10) (pF := 12) (L1 := [some (.ref 0), some (.int l1), some (.int v1), none, none]) (st1 := []) (fun o kT kF => ?_) (fun h5 => ?_) (fun h5 => ?_)
  · refine j_ifeq (t := 12) (pc' := 10) rfl rfl rfl (fun h6 => ?_) (fun h6 => ?_)
    · exact kF (fun z => z h6)
    · exact kT h6
  · refine j_iload_n (pc' := 11) rfl rfl rfl ?_
    exact j_ret rfl rfl rfl (fun _ h => h)
  · refine j_iconst (pc' := 13) (x := (0 : Int32)) rfl rfl rfl ?_
    refine j_istore_n (pc' := 14) (L' := [some (.ref 0), some (.int l1), some (.int v1), some (.int (0 : Int32)), none]) rfl rfl rfl ?_
    refine j_iconst (pc' := 15) (x := (0 : Int32)) rfl rfl rfl ?_
    refine j_istore (pc' := 17) (L' := [some (.ref 0), some (.int l1), some (.int v1), some (.int (0 : Int32)), some (.int (0 : Int32))]) rfl rfl rfl ?_
    refine j_splx (i := l1) (k := (0 : Int32)) (fun h1 => ?_) (fun h1 => ?_)
    · subst h1
      refine j_wk [true, true, false, true, true] (L' := [some (.ref 0), some (.int (0 : Int32)), none, some (.int (0 : Int32)), some (.int (0 : Int32))]) rfl ?_
      refine j_q1 (l_X11_fits_17_67_68 hd τ σ j_F (0 : Int32) (0 : Int32)) (fun v2 => ?_)
      show j_J true τ M_cX11_fits d 62 [none, none, none, some (.int v2), none] [] σ _ _
      refine j_iload_n (pc' := 63) rfl rfl rfl ?_
      exact j_ret rfl rfl rfl (fun _ h => h)
    refine j_splx (i := l1) (k := (1 : Int32)) (fun h2 => ?_) (fun h2 => ?_)
    · subst h2
      refine j_wk [true, true, false, true, true] (L' := [some (.ref 0), some (.int (1 : Int32)), none, some (.int (0 : Int32)), some (.int (0 : Int32))]) rfl ?_
      refine j_q1 (l_X11_fits_17_69_70 hd τ σ j_F (0 : Int32) (0 : Int32)) (fun v3 => ?_)
      show j_J true τ M_cX11_fits d 62 [none, none, none, some (.int v3), none] [] σ _ _
      refine j_iload_n (pc' := 63) rfl rfl rfl ?_
      exact j_ret rfl rfl rfl (fun _ h => h)
    refine j_splx (i := l1) (k := (2 : Int32)) (fun h3 => ?_) (fun h3 => ?_)
    · subst h3
      refine j_wk [true, true, false, true, true] (L' := [some (.ref 0), some (.int (2 : Int32)), none, some (.int (0 : Int32)), some (.int (0 : Int32))]) rfl ?_
      refine j_q1 (l_X11_fits_17_71_72 hd τ σ j_F (0 : Int32) (0 : Int32)) (fun v4 => ?_)
      show j_J true τ M_cX11_fits d 62 [none, none, none, some (.int v4), none] [] σ _ _
      refine j_iload_n (pc' := 63) rfl rfl rfl ?_
      exact j_ret rfl rfl rfl (fun _ h => h)
    refine j_splx (i := l1) (k := (3 : Int32)) (fun h4 => ?_) (fun h4 => ?_)
    · subst h4
      refine j_wk [true, true, false, true, true] (L' := [some (.ref 0), some (.int (3 : Int32)), none, some (.int (0 : Int32)), some (.int (0 : Int32))]) rfl ?_
      refine j_q1 (l_X11_fits_17_73_74 hd τ σ j_F (0 : Int32) (0 : Int32)) (fun v5 => ?_)
      show j_J true τ M_cX11_fits d 62 [none, none, none, some (.int v5), none] [] σ _ _
      refine j_iload_n (pc' := 63) rfl rfl rfl ?_
      exact j_ret rfl rfl rfl (fun _ h => h)
    exact j_none

noncomputable def p_X12_fitsFrom_2 (l1 : Int32) (l2 : Int32) (σ : j_G) : Nat → Int32 → Option Int32
  | 0, _ => none
  | n + 1, l3 =>
    j_ix l1 4 (
    if l3 < (σ.1 94 (l1).toNatClampNeg) then (j_b1 (f_X12_holeAt (l2 + l3) σ) fun v1 =>
    j_b1 (f_X12_numberAt l1 l3 σ) fun v2 =>
    if ¬ (v1).toInt64 = v2 then (some (0 : Int32)) else (p_X12_fitsFrom_2 l1 l2 σ n (l3 + (1 : Int32)))) else (some (1 : Int32)))

noncomputable def f_X12_fitsFrom (l1 : Int32) (l2 : Int32) (σ : j_G) : Option Int32 :=
  p_X12_fitsFrom_2 l1 l2 σ j_F (0 : Int32)
theorem l_X12_fitsFrom_2 {d : Nat} (hd : 2 ≤ d) (τ : j_G) (l1 : Int32) (l2 : Int32) (σ : j_G) : ∀ (n : Nat) (l3 : Int32), j_J false τ M_cX12_fitsFrom d 2 [some (.ref 75), some (.int l1), some (.int l2), some (.int l3)] [] σ (p_X12_fitsFrom_2 l1 l2 σ n l3) (j_Pi σ) := by
  intro n
  induction n with
  | zero => intro l3; exact j_none
  | succ n ih =>
    intro l3
    unfold p_X12_fitsFrom_2
    refine j_iload_n (pc' := 3) rfl rfl rfl ?_
    refine j_aload_n (pc' := 4) rfl rfl rfl ?_
    refine j_gfr (pc' := 7) (x := 94) rfl rfl j_a75 rfl rfl ?_
    refine j_iload_n (pc' := 8) rfl rfl rfl ?_
    refine j_iald (pc' := 9) rfl rfl j_a94 ?_
    refine j_two (pT := 12) (pF := 38) (L1 := [some (.ref 75), some (.int l1), some (.int l2), some (.int l3)]) (st1 := []) (fun o kT kF => ?_) (fun h3 => ?_) (fun h3 => ?_)
    · refine j_icge (t := 38) (pc' := 12) rfl rfl rfl (fun h4 => ?_) (fun h4 => ?_)
      · exact kF h4
      · exact kT h4
    · refine j_aload_n (pc' := 13) rfl rfl rfl ?_
      refine j_iload_n (pc' := 14) rfl rfl rfl ?_
      refine j_iload_n (pc' := 15) rfl rfl rfl ?_
      refine j_iadd (pc' := 16) rfl rfl ?_
      refine j_callPi (pc' := 19) (ai := 296) (vs := [.ref 75, .int (l2 + l3)]) (rest := []) rfl rfl (fun _ _ => rfl) (c_X12_holeAt (l2 + l3) σ) (j_dd rfl hd) rfl (fun v1 => ?_)
      refine j_i2l (pc' := 20) rfl rfl ?_
      refine j_aload_n (pc' := 21) rfl rfl rfl ?_
      refine j_iload_n (pc' := 22) rfl rfl rfl ?_
      refine j_iload_n (pc' := 23) rfl rfl rfl ?_
      refine j_callPl (pc' := 26) (ai := 298) (vs := [.ref 75, .int l1, .int l3]) (rest := [.long (v1).toInt64]) rfl rfl (fun _ _ => rfl) (c_X12_numberAt l1 l3 σ) (j_dd rfl hd) rfl (fun v2 => ?_)
      refine j_lcmp (pc' := 27) rfl rfl ?_
      refine j_two (pT := 30) (pF := 32) (L1 := [some (.ref 75), some (.int l1), some (.int l2), some (.int l3)]) (st1 := []) (fun o kT kF => ?_) (fun h1 => ?_) (fun h1 => ?_)
      · refine j_ifeqL (t := 32) (pc' := 30) rfl rfl rfl (fun h2 => ?_) (fun h2 => ?_)
        · exact kF (fun z => z h2)
        · exact kT h2
      · refine j_iconst (pc' := 31) (x := (0 : Int32)) rfl rfl rfl ?_
        exact j_ret rfl rfl rfl (fun _ h => h)
      · refine j_iincx (pc' := 35) (y := (1 : Int32)) (L' := [some (.ref 75), some (.int l1), some (.int l2), some (.int (l3 + (1 : Int32)))]) rfl rfl rfl rfl rfl ?_
        refine j_goto (t := 2) rfl rfl ?_
        exact ih (l3 + (1 : Int32))
    · refine j_iconst (pc' := 39) (x := (1 : Int32)) rfl rfl rfl ?_
      exact j_ret rfl rfl rfl (fun _ h => h)

theorem c_X12_fitsFrom (l1 : Int32) (l2 : Int32) (σ : j_G) : j_K false 2 305 [.ref 75, .int l1, .int l2] σ (f_X12_fitsFrom l1 l2 σ) (j_Pi σ) := by
  refine j_mkK (M := M_cX12_fitsFrom) (L := [some (.ref 75), some (.int l1), some (.int l2), none]) (m := 1) t_305 rfl (j_rcvO j_a75 rfl) rfl (fun d hd τ => ?_)
  unfold f_X12_fitsFrom
  refine j_iconst (pc' := 1) (x := (0 : Int32)) rfl rfl rfl ?_
  refine j_istore_n (pc' := 2) (L' := [some (.ref 75), some (.int l1), some (.int l2), some (.int (0 : Int32))]) rfl rfl rfl ?_
  exact (l_X12_fitsFrom_2 hd τ l1 l2 σ j_F (0 : Int32))

noncomputable def p_X12_fits_17 (l1 : Int32) (σ : j_G) : Nat → Int32 → Int32 → Option Int32
  | 0, _, _ => none
  | n + 1, l3, l4 =>
    j_ix (5 : Int32) 116 (
    if l4 < (σ.1 76 ((5 : Int32)).toNatClampNeg) then (j_b1 (f_X12_fitsFrom l1 l4 σ) fun v1 =>
    j_lt (if ¬ v1 = 0 then ((1 : Int32)) else ((0 : Int32))) fun v2 =>
    j_lt (l3 + v2) fun v3 =>
    p_X12_fits_17 l1 σ n v3 (l4 + (1 : Int32))) else (some l3))

noncomputable def f_X12_fits (l1 : Int32) (σ : j_G) : Option Int32 :=
  j_b1 (f_X12_asksHeard l1 σ) fun v1 =>
  if v1 < 0 then (some v1) else (j_b1 (p_X12_fits_17 l1 σ j_F (0 : Int32) (0 : Int32)) fun v2 =>
  some v2)
theorem l_X12_fits_17 {d : Nat} (hd : 3 ≤ d) (τ : j_G) (l1 : Int32) (σ : j_G) : ∀ (n : Nat) (l3 : Int32) (l4 : Int32), j_J false τ M_cX12_fits d 17 [some (.ref 75), some (.int l1), none, some (.int l3), some (.int l4)] [] σ (p_X12_fits_17 l1 σ n l3 l4) (fun r Q => j_Tr false τ M_cX12_fits d 52 [none, none, none, some (.int r), none] [] σ Q) := by
  intro n
  induction n with
  | zero => intro l3 l4; exact j_none
  | succ n ih =>
    intro l3 l4
    unfold p_X12_fits_17
    refine j_iload (pc' := 19) rfl rfl rfl ?_
    refine j_aload_n (pc' := 20) rfl rfl rfl ?_
    refine j_gfr (pc' := 23) (x := 76) rfl rfl j_a75 rfl rfl ?_
    refine j_iconst (pc' := 24) (x := (5 : Int32)) rfl rfl rfl ?_
    refine j_iald (pc' := 25) rfl rfl j_a76 ?_
    refine j_two (pT := 28) (pF := 52) (L1 := [some (.ref 75), some (.int l1), none, some (.int l3), some (.int l4)]) (st1 := []) (fun o kT kF => ?_) (fun h3 => ?_) (fun h3 => ?_)
    · refine j_icge (t := 52) (pc' := 28) rfl rfl rfl (fun h4 => ?_) (fun h4 => ?_)
      · exact kF h4
      · exact kT h4
    · refine j_iload_n (pc' := 29) rfl rfl rfl ?_
      refine j_aload_n (pc' := 30) rfl rfl rfl ?_
      refine j_iload_n (pc' := 31) rfl rfl rfl ?_
      refine j_iload (pc' := 33) rfl rfl rfl ?_
      refine j_callPi (pc' := 36) (ai := 305) (vs := [.ref 75, .int l1, .int l4]) (rest := [.int l3]) rfl rfl (fun _ _ => rfl) (c_X12_fitsFrom l1 l4 σ) (j_dd rfl hd) rfl (fun v1 => ?_)
      refine j_ql (Φl := (fun r Q => j_Tr false τ M_cX12_fits d 44 [some (.ref 75), some (.int l1), none, none, some (.int l4)] [.int r, .int l3] σ Q)) ?_ (fun v2 => ?_)
      · refine j_twoT (pT := 39) (pF := 43) (L1 := [some (.ref 75), some (.int l1), none, some (.int l3), some (.int l4)]) (st1 := [.int l3]) (fun o kT kF => ?_) (fun h1 => ?_) (fun h1 => ?_)
        · refine j_ifeq (t := 43) (pc' := 39) rfl rfl rfl (fun h2 => ?_) (fun h2 => ?_)
          · exact kF (fun z => z h2)
          · exact kT h2
        · refine j_iconst (pc' := 40) (x := (1 : Int32)) rfl rfl rfl ?_
          refine j_goto (t := 44) rfl rfl ?_
          refine j_wk [true, true, true, false, true] (L' := [some (.ref 75), some (.int l1), none, none, some (.int l4)]) rfl ?_
          exact j_end (fun _ h => h)
        · refine j_iconst (pc' := 44) (x := (0 : Int32)) rfl rfl rfl ?_
          refine j_wk [true, true, true, false, true] (L' := [some (.ref 75), some (.int l1), none, none, some (.int l4)]) rfl ?_
          exact j_end (fun _ h => h)
      show j_J false τ M_cX12_fits d 44 [some (.ref 75), some (.int l1), none, none, some (.int l4)] [.int v2, .int l3] σ _ _
      refine j_iadd (pc' := 45) rfl rfl ?_
      refine j_leti (fun v3 => ?_)
      refine j_istore_n (pc' := 46) (L' := [some (.ref 75), some (.int l1), none, some (.int v3), some (.int l4)]) rfl rfl rfl ?_
      refine j_iincx (pc' := 49) (y := (1 : Int32)) (L' := [some (.ref 75), some (.int l1), none, some (.int v3), some (.int (l4 + (1 : Int32)))]) rfl rfl rfl rfl rfl ?_
      refine j_goto (t := 17) rfl rfl ?_
      exact ih v3 (l4 + (1 : Int32))
    · refine j_wk [false, false, true, true, false] (L' := [none, none, none, some (.int l3), none]) rfl ?_
      exact j_end (fun _ h => h)

theorem c_X12_fits (l1 : Int32) (σ : j_G) : j_K false 3 306 [.ref 75, .int l1] σ (f_X12_fits l1 σ) (j_Pi σ) := by
  refine j_mkK (M := M_cX12_fits) (L := [some (.ref 75), some (.int l1), none, none, none]) (m := 3) t_306 rfl (j_rcvO j_a75 rfl) rfl (fun d hd τ => ?_)
  unfold f_X12_fits
  refine j_aload_n (pc' := 1) rfl rfl rfl ?_
  refine j_iload_n (pc' := 2) rfl rfl rfl ?_
  refine j_callPi (pc' := 5) (ai := 299) (vs := [.ref 75, .int l1]) (rest := []) rfl rfl (fun _ _ => rfl) (c_X12_asksHeard l1 σ) (j_dd rfl hd) rfl (fun v1 => ?_)
  refine j_istore_n (pc' := 6) (L' := [some (.ref 75), some (.int l1), some (.int v1), none, none]) rfl rfl rfl ?_
  refine j_iload_n (pc' := 7) rfl rfl rfl ?_
  refine j_two (pT := 10) (pF := 12) (L1 := [some (.ref 75), some (.int l1), some (.int v1), none, none]) (st1 := []) (fun o kT kF => ?_) (fun h1 => ?_) (fun h1 => ?_)
  · refine j_ifge (t := 12) (pc' := 10) rfl rfl rfl (fun h2 => ?_) (fun h2 => ?_)
    · exact kF h2
    · exact kT h2
  · refine j_iload_n (pc' := 11) rfl rfl rfl ?_
    exact j_ret rfl rfl rfl (fun _ h => h)
  · refine j_iconst (pc' := 13) (x := (0 : Int32)) rfl rfl rfl ?_
    refine j_istore_n (pc' := 14) (L' := [some (.ref 75), some (.int l1), some (.int v1), some (.int (0 : Int32)), none]) rfl rfl rfl ?_
    refine j_iconst (pc' := 15) (x := (0 : Int32)) rfl rfl rfl ?_
    refine j_istore (pc' := 17) (L' := [some (.ref 75), some (.int l1), some (.int v1), some (.int (0 : Int32)), some (.int (0 : Int32))]) rfl rfl rfl ?_
    refine j_wk [true, true, false, true, true] (L' := [some (.ref 75), some (.int l1), none, some (.int (0 : Int32)), some (.int (0 : Int32))]) rfl ?_
    refine j_q1 (l_X12_fits_17 hd τ l1 σ j_F (0 : Int32) (0 : Int32)) (fun v2 => ?_)
    show j_J false τ M_cX12_fits d 52 [none, none, none, some (.int v2), none] [] σ _ _
    refine j_iload_n (pc' := 53) rfl rfl rfl ?_
    exact j_ret rfl rfl rfl (fun _ h => h)

noncomputable def p_X11_place_18 (s47 : Nat) (s47_2 : Nat) (l2 : Int32) (σ : j_G) : Nat → Int32 → Int32 → Option Int32
  | 0, _, _ => none
  | n + 1, l4, l5 =>
    if l5 < (σ.1 5 0) then (j_b1 (f_X3_goesSo s47 s47_2 l5 σ) fun v1 =>
    j_lt (fun (v3 : Int32) => (p_X11_place_18 s47 s47_2 l2 σ n v3 (l5 + (1 : Int32)))) fun (k2 : Int32 → Option Int32) =>
    if ¬ v1 = 0 then (if l4 = l2 then (some l5) else (k2 (l4 + (1 : Int32)))) else (k2 l4)) else (some (-1 : Int32))

noncomputable def f_X11_place (l1 : Int32) (l2 : Int32) (σ : j_G) : Option Int32 :=
  j_b1 (f_X11_whyUnheard l1 σ) fun v1 =>
  if ¬ v1 = 0 then (some v1) else (if l1 = 0 then (p_X11_place_18 67 68 l2 σ j_F (0 : Int32) (0 : Int32)) else
  if l1 = 1 then (p_X11_place_18 69 70 l2 σ j_F (0 : Int32) (0 : Int32)) else
  if l1 = 2 then (p_X11_place_18 71 72 l2 σ j_F (0 : Int32) (0 : Int32)) else
  if l1 = 3 then (p_X11_place_18 73 74 l2 σ j_F (0 : Int32) (0 : Int32)) else
  none)
theorem l_X11_place_18_67_68 {d : Nat} (hd : 3 ≤ d) (τ : j_G) (l2 : Int32) (σ : j_G) : ∀ (n : Nat) (l4 : Int32) (l5 : Int32), j_J true τ M_cX11_place d 18 [some (.ref 0), some (.int (0 : Int32)), some (.int l2), none, some (.int l4), some (.int l5)] [] σ (p_X11_place_18 67 68 l2 σ n l4 l5) (j_Pi σ) := by
  intro n
  induction n with
  | zero => intro l4 l5; exact j_none
  | succ n ih =>
    intro l4 l5
    unfold p_X11_place_18
    refine j_iload (pc' := 20) rfl rfl rfl ?_
    refine j_aload_n (pc' := 21) rfl rfl rfl ?_
    refine j_gfr (pc' := 24) (x := 1) rfl rfl j_a0 rfl rfl ?_
    refine j_gfr (pc' := 27) (x := 5) rfl rfl j_a1 rfl rfl ?_
    refine j_gfi (pc' := 30) rfl rfl j_a5 rfl ?_
    refine j_two (pT := 33) (pF := 72) (L1 := [some (.ref 0), some (.int (0 : Int32)), some (.int l2), none, some (.int l4), some (.int l5)]) (st1 := []) (fun o kT kF => ?_) (fun h5 => ?_) (fun h5 => ?_)
    · refine j_icge (t := 72) (pc' := 33) rfl rfl rfl (fun h6 => ?_) (fun h6 => ?_)
      · exact kF h6
      · exact kT h6
    · refine j_aload_n (pc' := 34) rfl rfl rfl ?_
      refine j_gfr (pc' := 37) (x := 1) rfl rfl j_a0 rfl rfl ?_
      refine j_gfr (pc' := 40) (x := 5) rfl rfl j_a1 rfl rfl ?_
      refine j_iload (pc' := 42) rfl rfl rfl ?_
      refine j_aload_n (pc' := 43) rfl rfl rfl ?_
      refine j_gfr (pc' := 46) (x := 42) rfl rfl j_a0 rfl rfl ?_
      refine j_iload_n (pc' := 47) rfl rfl rfl ?_
      refine j_aald (pc' := 48) (r := 67) rfl rfl j_a42 (by decide) rfl ?_
      refine j_callPi (pc' := 51) (ai := 37) (vs := [.ref 5, .int l5, .ref 67]) (rest := []) rfl rfl (fun _ _ => rfl) (c_X3_goesSo_5_67 l5 σ) (j_dd rfl hd) rfl (fun v1 => ?_)
      refine j_jn (P := (fun k => ∀ (v3 : Int32), j_J true τ M_cX11_place d 66 [some (.ref 0), some (.int (0 : Int32)), some (.int l2), none, some (.int v3), some (.int l5)] [] σ (k v3) (j_Pi σ))) ?_ (fun k2 k2_h => ?_)
      · intro v3
        refine j_iincx (pc' := 69) (y := (1 : Int32)) (L' := [some (.ref 0), some (.int (0 : Int32)), some (.int l2), none, some (.int v3), some (.int (l5 + (1 : Int32)))]) rfl rfl rfl rfl rfl ?_
        refine j_goto (t := 18) rfl rfl ?_
        exact ih v3 (l5 + (1 : Int32))
      · refine j_two (pT := 54) (pF := 66) (L1 := [some (.ref 0), some (.int (0 : Int32)), some (.int l2), none, some (.int l4), some (.int l5)]) (st1 := []) (fun o kT kF => ?_) (fun h3 => ?_) (fun h3 => ?_)
        · refine j_ifeq (t := 66) (pc' := 54) rfl rfl rfl (fun h4 => ?_) (fun h4 => ?_)
          · exact kF (fun z => z h4)
          · exact kT h4
        · refine j_iload (pc' := 56) rfl rfl rfl ?_
          refine j_iload_n (pc' := 57) rfl rfl rfl ?_
          refine j_two (pT := 60) (pF := 63) (L1 := [some (.ref 0), some (.int (0 : Int32)), some (.int l2), none, some (.int l4), some (.int l5)]) (st1 := []) (fun o kT kF => ?_) (fun h1 => ?_) (fun h1 => ?_)
          · refine j_icne (t := 63) (pc' := 60) rfl rfl rfl (fun h2 => ?_) (fun h2 => ?_)
            · exact kF h2
            · exact kT h2
          · refine j_iload (pc' := 62) rfl rfl rfl ?_
            exact j_ret rfl rfl rfl (fun _ h => h)
          · refine j_iincx (pc' := 66) (y := (1 : Int32)) (L' := [some (.ref 0), some (.int (0 : Int32)), some (.int l2), none, some (.int (l4 + (1 : Int32))), some (.int l5)]) rfl rfl rfl rfl rfl ?_
            exact k2_h (l4 + (1 : Int32))
        · exact k2_h l4
    · refine j_iconst (pc' := 73) (x := (-1 : Int32)) rfl rfl rfl ?_
      exact j_ret rfl rfl rfl (fun _ h => h)

theorem l_X11_place_18_69_70 {d : Nat} (hd : 3 ≤ d) (τ : j_G) (l2 : Int32) (σ : j_G) : ∀ (n : Nat) (l4 : Int32) (l5 : Int32), j_J true τ M_cX11_place d 18 [some (.ref 0), some (.int (1 : Int32)), some (.int l2), none, some (.int l4), some (.int l5)] [] σ (p_X11_place_18 69 70 l2 σ n l4 l5) (j_Pi σ) := by
  intro n
  induction n with
  | zero => intro l4 l5; exact j_none
  | succ n ih =>
    intro l4 l5
    unfold p_X11_place_18
    refine j_iload (pc' := 20) rfl rfl rfl ?_
    refine j_aload_n (pc' := 21) rfl rfl rfl ?_
    refine j_gfr (pc' := 24) (x := 1) rfl rfl j_a0 rfl rfl ?_
    refine j_gfr (pc' := 27) (x := 5) rfl rfl j_a1 rfl rfl ?_
    refine j_gfi (pc' := 30) rfl rfl j_a5 rfl ?_
    refine j_two (pT := 33) (pF := 72) (L1 := [some (.ref 0), some (.int (1 : Int32)), some (.int l2), none, some (.int l4), some (.int l5)]) (st1 := []) (fun o kT kF => ?_) (fun h5 => ?_) (fun h5 => ?_)
    · refine j_icge (t := 72) (pc' := 33) rfl rfl rfl (fun h6 => ?_) (fun h6 => ?_)
      · exact kF h6
      · exact kT h6
    · refine j_aload_n (pc' := 34) rfl rfl rfl ?_
      refine j_gfr (pc' := 37) (x := 1) rfl rfl j_a0 rfl rfl ?_
      refine j_gfr (pc' := 40) (x := 5) rfl rfl j_a1 rfl rfl ?_
      refine j_iload (pc' := 42) rfl rfl rfl ?_
      refine j_aload_n (pc' := 43) rfl rfl rfl ?_
      refine j_gfr (pc' := 46) (x := 42) rfl rfl j_a0 rfl rfl ?_
      refine j_iload_n (pc' := 47) rfl rfl rfl ?_
      refine j_aald (pc' := 48) (r := 69) rfl rfl j_a42 (by decide) rfl ?_
      refine j_callPi (pc' := 51) (ai := 37) (vs := [.ref 5, .int l5, .ref 69]) (rest := []) rfl rfl (fun _ _ => rfl) (c_X3_goesSo_5_69 l5 σ) (j_dd rfl hd) rfl (fun v1 => ?_)
      refine j_jn (P := (fun k => ∀ (v3 : Int32), j_J true τ M_cX11_place d 66 [some (.ref 0), some (.int (1 : Int32)), some (.int l2), none, some (.int v3), some (.int l5)] [] σ (k v3) (j_Pi σ))) ?_ (fun k2 k2_h => ?_)
      · intro v3
        refine j_iincx (pc' := 69) (y := (1 : Int32)) (L' := [some (.ref 0), some (.int (1 : Int32)), some (.int l2), none, some (.int v3), some (.int (l5 + (1 : Int32)))]) rfl rfl rfl rfl rfl ?_
        refine j_goto (t := 18) rfl rfl ?_
        exact ih v3 (l5 + (1 : Int32))
      · refine j_two (pT := 54) (pF := 66) (L1 := [some (.ref 0), some (.int (1 : Int32)), some (.int l2), none, some (.int l4), some (.int l5)]) (st1 := []) (fun o kT kF => ?_) (fun h3 => ?_) (fun h3 => ?_)
        · refine j_ifeq (t := 66) (pc' := 54) rfl rfl rfl (fun h4 => ?_) (fun h4 => ?_)
          · exact kF (fun z => z h4)
          · exact kT h4
        · refine j_iload (pc' := 56) rfl rfl rfl ?_
          refine j_iload_n (pc' := 57) rfl rfl rfl ?_
          refine j_two (pT := 60) (pF := 63) (L1 := [some (.ref 0), some (.int (1 : Int32)), some (.int l2), none, some (.int l4), some (.int l5)]) (st1 := []) (fun o kT kF => ?_) (fun h1 => ?_) (fun h1 => ?_)
          · refine j_icne (t := 63) (pc' := 60) rfl rfl rfl (fun h2 => ?_) (fun h2 => ?_)
            · exact kF h2
            · exact kT h2
          · refine j_iload (pc' := 62) rfl rfl rfl ?_
            exact j_ret rfl rfl rfl (fun _ h => h)
          · refine j_iincx (pc' := 66) (y := (1 : Int32)) (L' := [some (.ref 0), some (.int (1 : Int32)), some (.int l2), none, some (.int (l4 + (1 : Int32))), some (.int l5)]) rfl rfl rfl rfl rfl ?_
            exact k2_h (l4 + (1 : Int32))
        · exact k2_h l4
    · refine j_iconst (pc' := 73) (x := (-1 : Int32)) rfl rfl rfl ?_
      exact j_ret rfl rfl rfl (fun _ h => h)

theorem l_X11_place_18_71_72 {d : Nat} (hd : 3 ≤ d) (τ : j_G) (l2 : Int32) (σ : j_G) : ∀ (n : Nat) (l4 : Int32) (l5 : Int32), j_J true τ M_cX11_place d 18 [some (.ref 0), some (.int (2 : Int32)), some (.int l2), none, some (.int l4), some (.int l5)] [] σ (p_X11_place_18 71 72 l2 σ n l4 l5) (j_Pi σ) := by
  intro n
  induction n with
  | zero => intro l4 l5; exact j_none
  | succ n ih =>
    intro l4 l5
    unfold p_X11_place_18
    refine j_iload (pc' := 20) rfl rfl rfl ?_
    refine j_aload_n (pc' := 21) rfl rfl rfl ?_
    refine j_gfr (pc' := 24) (x := 1) rfl rfl j_a0 rfl rfl ?_
    refine j_gfr (pc' := 27) (x := 5) rfl rfl j_a1 rfl rfl ?_
    refine j_gfi (pc' := 30) rfl rfl j_a5 rfl ?_
    refine j_two (pT := 33) (pF := 72) (L1 := [some (.ref 0), some (.int (2 : Int32)), some (.int l2), none, some (.int l4), some (.int l5)]) (st1 := []) (fun o kT kF => ?_) (fun h5 => ?_) (fun h5 => ?_)
    · refine j_icge (t := 72) (pc' := 33) rfl rfl rfl (fun h6 => ?_) (fun h6 => ?_)
      · exact kF h6
      · exact kT h6
    · refine j_aload_n (pc' := 34) rfl rfl rfl ?_
      refine j_gfr (pc' := 37) (x := 1) rfl rfl j_a0 rfl rfl ?_
      refine j_gfr (pc' := 40) (x := 5) rfl rfl j_a1 rfl rfl ?_
      refine j_iload (pc' := 42) rfl rfl rfl ?_
      refine j_aload_n (pc' := 43) rfl rfl rfl ?_
      refine j_gfr (pc' := 46) (x := 42) rfl rfl j_a0 rfl rfl ?_
      refine j_iload_n (pc' := 47) rfl rfl rfl ?_
      refine j_aald (pc' := 48) (r := 71) rfl rfl j_a42 (by decide) rfl ?_
      refine j_callPi (pc' := 51) (ai := 37) (vs := [.ref 5, .int l5, .ref 71]) (rest := []) rfl rfl (fun _ _ => rfl) (c_X3_goesSo_5_71 l5 σ) (j_dd rfl hd) rfl (fun v1 => ?_)
      refine j_jn (P := (fun k => ∀ (v3 : Int32), j_J true τ M_cX11_place d 66 [some (.ref 0), some (.int (2 : Int32)), some (.int l2), none, some (.int v3), some (.int l5)] [] σ (k v3) (j_Pi σ))) ?_ (fun k2 k2_h => ?_)
      · intro v3
        refine j_iincx (pc' := 69) (y := (1 : Int32)) (L' := [some (.ref 0), some (.int (2 : Int32)), some (.int l2), none, some (.int v3), some (.int (l5 + (1 : Int32)))]) rfl rfl rfl rfl rfl ?_
        refine j_goto (t := 18) rfl rfl ?_
        exact ih v3 (l5 + (1 : Int32))
      · refine j_two (pT := 54) (pF := 66) (L1 := [some (.ref 0), some (.int (2 : Int32)), some (.int l2), none, some (.int l4), some (.int l5)]) (st1 := []) (fun o kT kF => ?_) (fun h3 => ?_) (fun h3 => ?_)
        · refine j_ifeq (t := 66) (pc' := 54) rfl rfl rfl (fun h4 => ?_) (fun h4 => ?_)
          · exact kF (fun z => z h4)
          · exact kT h4
        · refine j_iload (pc' := 56) rfl rfl rfl ?_
          refine j_iload_n (pc' := 57) rfl rfl rfl ?_
          refine j_two (pT := 60) (pF := 63) (L1 := [some (.ref 0), some (.int (2 : Int32)), some (.int l2), none, some (.int l4), some (.int l5)]) (st1 := []) (fun o kT kF => ?_) (fun h1 => ?_) (fun h1 => ?_)
          · refine j_icne (t := 63) (pc' := 60) rfl rfl rfl (fun h2 => ?_) (fun h2 => ?_)
            · exact kF h2
            · exact kT h2
          · refine j_iload (pc' := 62) rfl rfl rfl ?_
            exact j_ret rfl rfl rfl (fun _ h => h)
          · refine j_iincx (pc' := 66) (y := (1 : Int32)) (L' := [some (.ref 0), some (.int (2 : Int32)), some (.int l2), none, some (.int (l4 + (1 : Int32))), some (.int l5)]) rfl rfl rfl rfl rfl ?_
            exact k2_h (l4 + (1 : Int32))
        · exact k2_h l4
    · refine j_iconst (pc' := 73) (x := (-1 : Int32)) rfl rfl rfl ?_
      exact j_ret rfl rfl rfl (fun _ h => h)

theorem l_X11_place_18_73_74 {d : Nat} (hd : 3 ≤ d) (τ : j_G) (l2 : Int32) (σ : j_G) : ∀ (n : Nat) (l4 : Int32) (l5 : Int32), j_J true τ M_cX11_place d 18 [some (.ref 0), some (.int (3 : Int32)), some (.int l2), none, some (.int l4), some (.int l5)] [] σ (p_X11_place_18 73 74 l2 σ n l4 l5) (j_Pi σ) := by
  intro n
  induction n with
  | zero => intro l4 l5; exact j_none
  | succ n ih =>
    intro l4 l5
    unfold p_X11_place_18
    refine j_iload (pc' := 20) rfl rfl rfl ?_
    refine j_aload_n (pc' := 21) rfl rfl rfl ?_
    refine j_gfr (pc' := 24) (x := 1) rfl rfl j_a0 rfl rfl ?_
    refine j_gfr (pc' := 27) (x := 5) rfl rfl j_a1 rfl rfl ?_
    refine j_gfi (pc' := 30) rfl rfl j_a5 rfl ?_
    refine j_two (pT := 33) (pF := 72) (L1 := [some (.ref 0), some (.int (3 : Int32)), some (.int l2), none, some (.int l4), some (.int l5)]) (st1 := []) (fun o kT kF => ?_) (fun h5 => ?_) (fun h5 => ?_)
    · refine j_icge (t := 72) (pc' := 33) rfl rfl rfl (fun h6 => ?_) (fun h6 => ?_)
      · exact kF h6
      · exact kT h6
    · refine j_aload_n (pc' := 34) rfl rfl rfl ?_
      refine j_gfr (pc' := 37) (x := 1) rfl rfl j_a0 rfl rfl ?_
      refine j_gfr (pc' := 40) (x := 5) rfl rfl j_a1 rfl rfl ?_
      refine j_iload (pc' := 42) rfl rfl rfl ?_
      refine j_aload_n (pc' := 43) rfl rfl rfl ?_
      refine j_gfr (pc' := 46) (x := 42) rfl rfl j_a0 rfl rfl ?_
      refine j_iload_n (pc' := 47) rfl rfl rfl ?_
      refine j_aald (pc' := 48) (r := 73) rfl rfl j_a42 (by decide) rfl ?_
      refine j_callPi (pc' := 51) (ai := 37) (vs := [.ref 5, .int l5, .ref 73]) (rest := []) rfl rfl (fun _ _ => rfl) (c_X3_goesSo_5_73 l5 σ) (j_dd rfl hd) rfl (fun v1 => ?_)
      refine j_jn (P := (fun k => ∀ (v3 : Int32), j_J true τ M_cX11_place d 66 [some (.ref 0), some (.int (3 : Int32)), some (.int l2), none, some (.int v3), some (.int l5)] [] σ (k v3) (j_Pi σ))) ?_ (fun k2 k2_h => ?_)
      · intro v3
        refine j_iincx (pc' := 69) (y := (1 : Int32)) (L' := [some (.ref 0), some (.int (3 : Int32)), some (.int l2), none, some (.int v3), some (.int (l5 + (1 : Int32)))]) rfl rfl rfl rfl rfl ?_
        refine j_goto (t := 18) rfl rfl ?_
        exact ih v3 (l5 + (1 : Int32))
      · refine j_two (pT := 54) (pF := 66) (L1 := [some (.ref 0), some (.int (3 : Int32)), some (.int l2), none, some (.int l4), some (.int l5)]) (st1 := []) (fun o kT kF => ?_) (fun h3 => ?_) (fun h3 => ?_)
        · refine j_ifeq (t := 66) (pc' := 54) rfl rfl rfl (fun h4 => ?_) (fun h4 => ?_)
          · exact kF (fun z => z h4)
          · exact kT h4
        · refine j_iload (pc' := 56) rfl rfl rfl ?_
          refine j_iload_n (pc' := 57) rfl rfl rfl ?_
          refine j_two (pT := 60) (pF := 63) (L1 := [some (.ref 0), some (.int (3 : Int32)), some (.int l2), none, some (.int l4), some (.int l5)]) (st1 := []) (fun o kT kF => ?_) (fun h1 => ?_) (fun h1 => ?_)
          · refine j_icne (t := 63) (pc' := 60) rfl rfl rfl (fun h2 => ?_) (fun h2 => ?_)
            · exact kF h2
            · exact kT h2
          · refine j_iload (pc' := 62) rfl rfl rfl ?_
            exact j_ret rfl rfl rfl (fun _ h => h)
          · refine j_iincx (pc' := 66) (y := (1 : Int32)) (L' := [some (.ref 0), some (.int (3 : Int32)), some (.int l2), none, some (.int (l4 + (1 : Int32))), some (.int l5)]) rfl rfl rfl rfl rfl ?_
            exact k2_h (l4 + (1 : Int32))
        · exact k2_h l4
    · refine j_iconst (pc' := 73) (x := (-1 : Int32)) rfl rfl rfl ?_
      exact j_ret rfl rfl rfl (fun _ h => h)

theorem c_X11_place (l1 : Int32) (l2 : Int32) (σ : j_G) : j_K true 3 152 [.ref 0, .int l1, .int l2] σ (f_X11_place l1 l2 σ) (j_Pi σ) := by
  refine j_mkK (M := M_cX11_place) (L := [some (.ref 0), some (.int l1), some (.int l2), none, none, none]) (m := 3) t_152 rfl (j_rcvO j_a0 rfl) rfl (fun d hd τ => ?_)
  unfold f_X11_place
  refine j_aload_n (pc' := 1) rfl rfl rfl ?_
  refine j_iload_n (pc' := 2) rfl rfl rfl ?_
  refine j_callPi (pc' := 5) (ai := 193) (vs := [.ref 0, .int l1]) (rest := []) rfl rfl (fun _ _ => rfl) (c_X11_whyUnheard l1 σ) (j_dd rfl hd) rfl (fun v1 => ?_)
  refine j_istore_n (pc' := 6) (L' := [some (.ref 0), some (.int l1), some (.int l2), some (.int v1), none, none]) rfl rfl rfl ?_
  refine j_iload_n (pc' := 7) rfl rfl rfl ?_
  refine j_two (pT := 10) (pF := 12) (L1 := [some (.ref 0), some (.int l1), some (.int l2), some (.int v1), none, none]) (st1 := []) (fun o kT kF => ?_) (fun h5 => ?_) (fun h5 => ?_)
  · refine j_ifeq (t := 12) (pc' := 10) rfl rfl rfl (fun h6 => ?_) (fun h6 => ?_)
    · exact kF (fun z => z h6)
    · exact kT h6
  · refine j_iload_n (pc' := 11) rfl rfl rfl ?_
    exact j_ret rfl rfl rfl (fun _ h => h)
  · refine j_iconst (pc' := 13) (x := (0 : Int32)) rfl rfl rfl ?_
    refine j_istore (pc' := 15) (L' := [some (.ref 0), some (.int l1), some (.int l2), some (.int v1), some (.int (0 : Int32)), none]) rfl rfl rfl ?_
    refine j_iconst (pc' := 16) (x := (0 : Int32)) rfl rfl rfl ?_
    refine j_istore (pc' := 18) (L' := [some (.ref 0), some (.int l1), some (.int l2), some (.int v1), some (.int (0 : Int32)), some (.int (0 : Int32))]) rfl rfl rfl ?_
    refine j_splx (i := l1) (k := (0 : Int32)) (fun h1 => ?_) (fun h1 => ?_)
    · subst h1
      refine j_wk [true, true, true, false, true, true] (L' := [some (.ref 0), some (.int (0 : Int32)), some (.int l2), none, some (.int (0 : Int32)), some (.int (0 : Int32))]) rfl ?_
      exact (l_X11_place_18_67_68 hd τ l2 σ j_F (0 : Int32) (0 : Int32))
    refine j_splx (i := l1) (k := (1 : Int32)) (fun h2 => ?_) (fun h2 => ?_)
    · subst h2
      refine j_wk [true, true, true, false, true, true] (L' := [some (.ref 0), some (.int (1 : Int32)), some (.int l2), none, some (.int (0 : Int32)), some (.int (0 : Int32))]) rfl ?_
      exact (l_X11_place_18_69_70 hd τ l2 σ j_F (0 : Int32) (0 : Int32))
    refine j_splx (i := l1) (k := (2 : Int32)) (fun h3 => ?_) (fun h3 => ?_)
    · subst h3
      refine j_wk [true, true, true, false, true, true] (L' := [some (.ref 0), some (.int (2 : Int32)), some (.int l2), none, some (.int (0 : Int32)), some (.int (0 : Int32))]) rfl ?_
      exact (l_X11_place_18_71_72 hd τ l2 σ j_F (0 : Int32) (0 : Int32))
    refine j_splx (i := l1) (k := (3 : Int32)) (fun h4 => ?_) (fun h4 => ?_)
    · subst h4
      refine j_wk [true, true, true, false, true, true] (L' := [some (.ref 0), some (.int (3 : Int32)), some (.int l2), none, some (.int (0 : Int32)), some (.int (0 : Int32))]) rfl ?_
      exact (l_X11_place_18_73_74 hd τ l2 σ j_F (0 : Int32) (0 : Int32))
    exact j_none

noncomputable def p_X12_place_18 (l1 : Int32) (σ : j_G) : Nat → Int32 → Int32 → Option Int32
  | 0, _, _ => none
  | n + 1, l4, l5 =>
    j_ix (5 : Int32) 116 (
    if (l5 < (σ.1 76 ((5 : Int32)).toNatClampNeg)) ∧ (¬ l4 < 0) then (j_b1 (f_X12_fitsFrom l1 l5 σ) fun v1 =>
    j_lt (fun (v3 : Int32) => (p_X12_place_18 l1 σ n v3 (l5 + (1 : Int32)))) fun (k2 : Int32 → Option Int32) =>
    if v1 = 0 then (k2 l4) else (if l4 = 0 then (some l5) else (k2 (l4 + (-1 : Int32))))) else (some (-1 : Int32)))

noncomputable def f_X12_place (l1 : Int32) (l2 : Int32) (σ : j_G) : Option Int32 :=
  j_b1 (f_X12_asksHeard l1 σ) fun v1 =>
  if v1 < 0 then (some v1) else (p_X12_place_18 l1 σ j_F l2 (0 : Int32))
theorem l_X12_place_18 {d : Nat} (hd : 3 ≤ d) (τ : j_G) (l1 : Int32) (σ : j_G) : ∀ (n : Nat) (l4 : Int32) (l5 : Int32), j_J false τ M_cX12_place d 18 [some (.ref 75), some (.int l1), none, none, some (.int l4), some (.int l5)] [] σ (p_X12_place_18 l1 σ n l4 l5) (j_Pi σ) := by
  intro n
  induction n with
  | zero => intro l4 l5; exact j_none
  | succ n ih =>
    intro l4 l5
    unfold p_X12_place_18
    refine j_iload (pc' := 20) rfl rfl rfl ?_
    refine j_aload_n (pc' := 21) rfl rfl rfl ?_
    refine j_gfr (pc' := 24) (x := 76) rfl rfl j_a75 rfl rfl ?_
    refine j_iconst (pc' := 25) (x := (5 : Int32)) rfl rfl rfl ?_
    refine j_iald (pc' := 26) rfl rfl j_a76 ?_
    refine j_two (pT := 34) (pF := 64) (L1 := [some (.ref 75), some (.int l1), none, none, some (.int l4), some (.int l5)]) (st1 := []) (fun o kT kF => ?_) (fun h5 => ?_) (fun h5 => ?_)
    · refine j_icge (t := 64) (pc' := 29) rfl rfl rfl (fun h6 => ?_) (fun h6 => ?_)
      · exact kF (fun z => h6 z.1)
      · refine j_iload (pc' := 31) rfl rfl rfl ?_
        refine j_iflt (t := 64) (pc' := 34) rfl rfl rfl (fun h7 => ?_) (fun h7 => ?_)
        · exact kF (fun z => (fun z => z h7) z.2)
        · exact kT (⟨h6, h7⟩)
    · refine j_aload_n (pc' := 35) rfl rfl rfl ?_
      refine j_iload_n (pc' := 36) rfl rfl rfl ?_
      refine j_iload (pc' := 38) rfl rfl rfl ?_
      refine j_callPi (pc' := 41) (ai := 305) (vs := [.ref 75, .int l1, .int l5]) (rest := []) rfl rfl (fun _ _ => rfl) (c_X12_fitsFrom l1 l5 σ) (j_dd rfl hd) rfl (fun v1 => ?_)
      refine j_jn (P := (fun k => ∀ (v3 : Int32), j_J false τ M_cX12_place d 58 [some (.ref 75), some (.int l1), none, none, some (.int v3), some (.int l5)] [] σ (k v3) (j_Pi σ))) ?_ (fun k2 k2_h => ?_)
      · intro v3
        refine j_iincx (pc' := 61) (y := (1 : Int32)) (L' := [some (.ref 75), some (.int l1), none, none, some (.int v3), some (.int (l5 + (1 : Int32)))]) rfl rfl rfl rfl rfl ?_
        refine j_goto (t := 18) rfl rfl ?_
        exact ih v3 (l5 + (1 : Int32))
      · refine j_two (pT := 44) (pF := 47) (L1 := [some (.ref 75), some (.int l1), none, none, some (.int l4), some (.int l5)]) (st1 := []) (fun o kT kF => ?_) (fun h3 => ?_) (fun h3 => ?_)
        · refine j_ifne (t := 47) (pc' := 44) rfl rfl rfl (fun h4 => ?_) (fun h4 => ?_)
          · exact kF h4
          · exact kT h4
        · refine j_goto (t := 58) rfl rfl ?_
          exact k2_h l4
        · refine j_iload (pc' := 49) rfl rfl rfl ?_
          refine j_two (pT := 52) (pF := 55) (L1 := [some (.ref 75), some (.int l1), none, none, some (.int l4), some (.int l5)]) (st1 := []) (fun o kT kF => ?_) (fun h1 => ?_) (fun h1 => ?_)
          · refine j_ifne (t := 55) (pc' := 52) rfl rfl rfl (fun h2 => ?_) (fun h2 => ?_)
            · exact kF h2
            · exact kT h2
          · refine j_iload (pc' := 54) rfl rfl rfl ?_
            exact j_ret rfl rfl rfl (fun _ h => h)
          · refine j_iincx (pc' := 58) (y := (-1 : Int32)) (L' := [some (.ref 75), some (.int l1), none, none, some (.int (l4 + (-1 : Int32))), some (.int l5)]) rfl rfl rfl rfl rfl ?_
            exact k2_h (l4 + (-1 : Int32))
    · refine j_iconst (pc' := 65) (x := (-1 : Int32)) rfl rfl rfl ?_
      exact j_ret rfl rfl rfl (fun _ h => h)

theorem c_X12_place (l1 : Int32) (l2 : Int32) (σ : j_G) : j_K false 3 307 [.ref 75, .int l1, .int l2] σ (f_X12_place l1 l2 σ) (j_Pi σ) := by
  refine j_mkK (M := M_cX12_place) (L := [some (.ref 75), some (.int l1), some (.int l2), none, none, none]) (m := 3) t_307 rfl (j_rcvO j_a75 rfl) rfl (fun d hd τ => ?_)
  unfold f_X12_place
  refine j_aload_n (pc' := 1) rfl rfl rfl ?_
  refine j_iload_n (pc' := 2) rfl rfl rfl ?_
  refine j_callPi (pc' := 5) (ai := 299) (vs := [.ref 75, .int l1]) (rest := []) rfl rfl (fun _ _ => rfl) (c_X12_asksHeard l1 σ) (j_dd rfl hd) rfl (fun v1 => ?_)
  refine j_istore_n (pc' := 6) (L' := [some (.ref 75), some (.int l1), some (.int l2), some (.int v1), none, none]) rfl rfl rfl ?_
  refine j_iload_n (pc' := 7) rfl rfl rfl ?_
  refine j_two (pT := 10) (pF := 12) (L1 := [some (.ref 75), some (.int l1), some (.int l2), some (.int v1), none, none]) (st1 := []) (fun o kT kF => ?_) (fun h1 => ?_) (fun h1 => ?_)
  · refine j_ifge (t := 12) (pc' := 10) rfl rfl rfl (fun h2 => ?_) (fun h2 => ?_)
    · exact kF h2
    · exact kT h2
  · refine j_iload_n (pc' := 11) rfl rfl rfl ?_
    exact j_ret rfl rfl rfl (fun _ h => h)
  · refine j_iload_n (pc' := 13) rfl rfl rfl ?_
    refine j_istore (pc' := 15) (L' := [some (.ref 75), some (.int l1), some (.int l2), some (.int v1), some (.int l2), none]) rfl rfl rfl ?_
    refine j_iconst (pc' := 16) (x := (0 : Int32)) rfl rfl rfl ?_
    refine j_istore (pc' := 18) (L' := [some (.ref 75), some (.int l1), some (.int l2), some (.int v1), some (.int l2), some (.int (0 : Int32))]) rfl rfl rfl ?_
    refine j_wk [true, true, false, false, true, true] (L' := [some (.ref 75), some (.int l1), none, none, some (.int l2), some (.int (0 : Int32))]) rfl ?_
    exact (l_X12_place_18 hd τ l1 σ j_F l2 (0 : Int32))

noncomputable def p_X11_next_17 (s46 : Nat) (s46_2 : Nat) (s67 : Nat) (σ : j_G) : Nat → Int32 → Int32 → Option Int32
  | 0, _, _ => none
  | n + 1, l3, l4 =>
    if l4 < (σ.1 5 0) then (j_b1 (f_X3_goesSo s46 s46_2 l4 σ) fun v1 =>
    j_lt (fun (v4 : Int32) => (p_X11_next_17 s46 s46_2 s67 σ n v4 (l4 + (1 : Int32)))) fun (k2 : Int32 → Option Int32) =>
    if ¬ v1 = 0 then (j_b1 (f_X3_round (l4 + (σ.1 s67 0)) σ) fun v3 =>
    if (¬ l3 = (-1 : Int32)) ∧ (¬ l3 = v3) then (some (-1 : Int32)) else (k2 v3)) else (k2 l3)) else (some l3)

noncomputable def f_X11_next (l1 : Int32) (σ : j_G) : Option Int32 :=
  j_b1 (f_X11_whyUnheard l1 σ) fun v1 =>
  if ¬ v1 = 0 then (some v1) else (if l1 = 0 then (p_X11_next_17 67 68 67 σ j_F (-1 : Int32) (0 : Int32)) else
  if l1 = 1 then (p_X11_next_17 69 70 69 σ j_F (-1 : Int32) (0 : Int32)) else
  if l1 = 2 then (p_X11_next_17 71 72 71 σ j_F (-1 : Int32) (0 : Int32)) else
  if l1 = 3 then (p_X11_next_17 73 74 73 σ j_F (-1 : Int32) (0 : Int32)) else
  none)
theorem l_X11_next_17_67_68_67 {d : Nat} (hd : 3 ≤ d) (τ : j_G) (σ : j_G) : ∀ (n : Nat) (l3 : Int32) (l4 : Int32), j_J true τ M_cX11_next d 17 [some (.ref 0), some (.int (0 : Int32)), none, some (.int l3), some (.int l4), none] [] σ (p_X11_next_17 67 68 67 σ n l3 l4) (j_Pi σ) := by
  intro n
  induction n with
  | zero => intro l3 l4; exact j_none
  | succ n ih =>
    intro l3 l4
    unfold p_X11_next_17
    refine j_iload (pc' := 19) rfl rfl rfl ?_
    refine j_aload_n (pc' := 20) rfl rfl rfl ?_
    refine j_gfr (pc' := 23) (x := 1) rfl rfl j_a0 rfl rfl ?_
    refine j_gfr (pc' := 26) (x := 5) rfl rfl j_a1 rfl rfl ?_
    refine j_gfi (pc' := 29) rfl rfl j_a5 rfl ?_
    refine j_two (pT := 32) (pF := 99) (L1 := [some (.ref 0), some (.int (0 : Int32)), none, some (.int l3), some (.int l4), none]) (st1 := []) (fun o kT kF => ?_) (fun h6 => ?_) (fun h6 => ?_)
    · refine j_icge (t := 99) (pc' := 32) rfl rfl rfl (fun h7 => ?_) (fun h7 => ?_)
      · exact kF h7
      · exact kT h7
    · refine j_aload_n (pc' := 33) rfl rfl rfl ?_
      refine j_gfr (pc' := 36) (x := 1) rfl rfl j_a0 rfl rfl ?_
      refine j_gfr (pc' := 39) (x := 5) rfl rfl j_a1 rfl rfl ?_
      refine j_iload (pc' := 41) rfl rfl rfl ?_
      refine j_aload_n (pc' := 42) rfl rfl rfl ?_
      refine j_gfr (pc' := 45) (x := 42) rfl rfl j_a0 rfl rfl ?_
      refine j_iload_n (pc' := 46) rfl rfl rfl ?_
      refine j_aald (pc' := 47) (r := 67) rfl rfl j_a42 (by decide) rfl ?_
      refine j_callPi (pc' := 50) (ai := 37) (vs := [.ref 5, .int l4, .ref 67]) (rest := []) rfl rfl (fun _ _ => rfl) (c_X3_goesSo_5_67 l4 σ) (j_dd rfl hd) rfl (fun v1 => ?_)
      refine j_jn (P := (fun k => ∀ (v4 : Int32), j_J true τ M_cX11_next d 93 [some (.ref 0), some (.int (0 : Int32)), none, some (.int v4), some (.int l4), none] [] σ (k v4) (j_Pi σ))) ?_ (fun k2 k2_h => ?_)
      · intro v4
        refine j_iincx (pc' := 96) (y := (1 : Int32)) (L' := [some (.ref 0), some (.int (0 : Int32)), none, some (.int v4), some (.int (l4 + (1 : Int32))), none]) rfl rfl rfl rfl rfl ?_
        refine j_goto (t := 17) rfl rfl ?_
        exact ih v4 (l4 + (1 : Int32))
      · refine j_two (pT := 53) (pF := 93) (L1 := [some (.ref 0), some (.int (0 : Int32)), none, some (.int l3), some (.int l4), none]) (st1 := []) (fun o kT kF => ?_) (fun h4 => ?_) (fun h4 => ?_)
        · refine j_ifeq (t := 93) (pc' := 53) rfl rfl rfl (fun h5 => ?_) (fun h5 => ?_)
          · exact kF (fun z => z h5)
          · exact kT h5
        · refine j_aload_n (pc' := 54) rfl rfl rfl ?_
          refine j_gfr (pc' := 57) (x := 1) rfl rfl j_a0 rfl rfl ?_
          refine j_gfr (pc' := 60) (x := 5) rfl rfl j_a1 rfl rfl ?_
          refine j_iload (pc' := 62) rfl rfl rfl ?_
          refine j_aload_n (pc' := 63) rfl rfl rfl ?_
          refine j_gfr (pc' := 66) (x := 42) rfl rfl j_a0 rfl rfl ?_
          refine j_iload_n (pc' := 67) rfl rfl rfl ?_
          refine j_aald (pc' := 68) (r := 67) rfl rfl j_a42 (by decide) rfl ?_
          refine j_gfi (pc' := 71) rfl rfl j_a67 rfl ?_
          refine j_iadd (pc' := 72) rfl rfl ?_
          refine j_callPi (pc' := 75) (ai := 35) (vs := [.ref 5, .int (l4 + (σ.1 67 0))]) (rest := []) rfl rfl (fun _ _ => rfl) (c_X3_round (l4 + (σ.1 67 0)) σ) (j_dd rfl hd) rfl (fun v3 => ?_)
          refine j_istore (pc' := 77) (L' := [some (.ref 0), some (.int (0 : Int32)), none, some (.int l3), some (.int l4), some (.int v3)]) rfl rfl rfl ?_
          refine j_iload_n (pc' := 78) rfl rfl rfl ?_
          refine j_iconst (pc' := 79) (x := (-1 : Int32)) rfl rfl rfl ?_
          refine j_two (pT := 88) (pF := 90) (L1 := [some (.ref 0), some (.int (0 : Int32)), none, some (.int l3), some (.int l4), some (.int v3)]) (st1 := []) (fun o kT kF => ?_) (fun h1 => ?_) (fun h1 => ?_)
          · refine j_iceq (t := 90) (pc' := 82) rfl rfl rfl (fun h2 => ?_) (fun h2 => ?_)
            · exact kF (fun z => z.1 h2)
            · refine j_iload_n (pc' := 83) rfl rfl rfl ?_
              refine j_iload (pc' := 85) rfl rfl rfl ?_
              refine j_iceq (t := 90) (pc' := 88) rfl rfl rfl (fun h3 => ?_) (fun h3 => ?_)
              · exact kF (fun z => (fun z => z h3) z.2)
              · exact kT (⟨h2, h3⟩)
          · refine j_iconst (pc' := 89) (x := (-1 : Int32)) rfl rfl rfl ?_
            exact j_ret rfl rfl rfl (fun _ h => h)
          · refine j_iload (pc' := 92) rfl rfl rfl ?_
            refine j_istore_n (pc' := 93) (L' := [some (.ref 0), some (.int (0 : Int32)), none, some (.int v3), some (.int l4), some (.int v3)]) rfl rfl rfl ?_
            refine j_wk [true, true, true, true, true, false] (L' := [some (.ref 0), some (.int (0 : Int32)), none, some (.int v3), some (.int l4), none]) rfl ?_
            exact k2_h v3
        · exact k2_h l3
    · refine j_iload_n (pc' := 100) rfl rfl rfl ?_
      exact j_ret rfl rfl rfl (fun _ h => h)

theorem l_X11_next_17_69_70_69 {d : Nat} (hd : 3 ≤ d) (τ : j_G) (σ : j_G) : ∀ (n : Nat) (l3 : Int32) (l4 : Int32), j_J true τ M_cX11_next d 17 [some (.ref 0), some (.int (1 : Int32)), none, some (.int l3), some (.int l4), none] [] σ (p_X11_next_17 69 70 69 σ n l3 l4) (j_Pi σ) := by
  intro n
  induction n with
  | zero => intro l3 l4; exact j_none
  | succ n ih =>
    intro l3 l4
    unfold p_X11_next_17
    refine j_iload (pc' := 19) rfl rfl rfl ?_
    refine j_aload_n (pc' := 20) rfl rfl rfl ?_
    refine j_gfr (pc' := 23) (x := 1) rfl rfl j_a0 rfl rfl ?_
    refine j_gfr (pc' := 26) (x := 5) rfl rfl j_a1 rfl rfl ?_
    refine j_gfi (pc' := 29) rfl rfl j_a5 rfl ?_
    refine j_two (pT := 32) (pF := 99) (L1 := [some (.ref 0), some (.int (1 : Int32)), none, some (.int l3), some (.int l4), none]) (st1 := []) (fun o kT kF => ?_) (fun h6 => ?_) (fun h6 => ?_)
    · refine j_icge (t := 99) (pc' := 32) rfl rfl rfl (fun h7 => ?_) (fun h7 => ?_)
      · exact kF h7
      · exact kT h7
    · refine j_aload_n (pc' := 33) rfl rfl rfl ?_
      refine j_gfr (pc' := 36) (x := 1) rfl rfl j_a0 rfl rfl ?_
      refine j_gfr (pc' := 39) (x := 5) rfl rfl j_a1 rfl rfl ?_
      refine j_iload (pc' := 41) rfl rfl rfl ?_
      refine j_aload_n (pc' := 42) rfl rfl rfl ?_
      refine j_gfr (pc' := 45) (x := 42) rfl rfl j_a0 rfl rfl ?_
      refine j_iload_n (pc' := 46) rfl rfl rfl ?_
      refine j_aald (pc' := 47) (r := 69) rfl rfl j_a42 (by decide) rfl ?_
      refine j_callPi (pc' := 50) (ai := 37) (vs := [.ref 5, .int l4, .ref 69]) (rest := []) rfl rfl (fun _ _ => rfl) (c_X3_goesSo_5_69 l4 σ) (j_dd rfl hd) rfl (fun v1 => ?_)
      refine j_jn (P := (fun k => ∀ (v4 : Int32), j_J true τ M_cX11_next d 93 [some (.ref 0), some (.int (1 : Int32)), none, some (.int v4), some (.int l4), none] [] σ (k v4) (j_Pi σ))) ?_ (fun k2 k2_h => ?_)
      · intro v4
        refine j_iincx (pc' := 96) (y := (1 : Int32)) (L' := [some (.ref 0), some (.int (1 : Int32)), none, some (.int v4), some (.int (l4 + (1 : Int32))), none]) rfl rfl rfl rfl rfl ?_
        refine j_goto (t := 17) rfl rfl ?_
        exact ih v4 (l4 + (1 : Int32))
      · refine j_two (pT := 53) (pF := 93) (L1 := [some (.ref 0), some (.int (1 : Int32)), none, some (.int l3), some (.int l4), none]) (st1 := []) (fun o kT kF => ?_) (fun h4 => ?_) (fun h4 => ?_)
        · refine j_ifeq (t := 93) (pc' := 53) rfl rfl rfl (fun h5 => ?_) (fun h5 => ?_)
          · exact kF (fun z => z h5)
          · exact kT h5
        · refine j_aload_n (pc' := 54) rfl rfl rfl ?_
          refine j_gfr (pc' := 57) (x := 1) rfl rfl j_a0 rfl rfl ?_
          refine j_gfr (pc' := 60) (x := 5) rfl rfl j_a1 rfl rfl ?_
          refine j_iload (pc' := 62) rfl rfl rfl ?_
          refine j_aload_n (pc' := 63) rfl rfl rfl ?_
          refine j_gfr (pc' := 66) (x := 42) rfl rfl j_a0 rfl rfl ?_
          refine j_iload_n (pc' := 67) rfl rfl rfl ?_
          refine j_aald (pc' := 68) (r := 69) rfl rfl j_a42 (by decide) rfl ?_
          refine j_gfi (pc' := 71) rfl rfl j_a69 rfl ?_
          refine j_iadd (pc' := 72) rfl rfl ?_
          refine j_callPi (pc' := 75) (ai := 35) (vs := [.ref 5, .int (l4 + (σ.1 69 0))]) (rest := []) rfl rfl (fun _ _ => rfl) (c_X3_round (l4 + (σ.1 69 0)) σ) (j_dd rfl hd) rfl (fun v3 => ?_)
          refine j_istore (pc' := 77) (L' := [some (.ref 0), some (.int (1 : Int32)), none, some (.int l3), some (.int l4), some (.int v3)]) rfl rfl rfl ?_
          refine j_iload_n (pc' := 78) rfl rfl rfl ?_
          refine j_iconst (pc' := 79) (x := (-1 : Int32)) rfl rfl rfl ?_
          refine j_two (pT := 88) (pF := 90) (L1 := [some (.ref 0), some (.int (1 : Int32)), none, some (.int l3), some (.int l4), some (.int v3)]) (st1 := []) (fun o kT kF => ?_) (fun h1 => ?_) (fun h1 => ?_)
          · refine j_iceq (t := 90) (pc' := 82) rfl rfl rfl (fun h2 => ?_) (fun h2 => ?_)
            · exact kF (fun z => z.1 h2)
            · refine j_iload_n (pc' := 83) rfl rfl rfl ?_
              refine j_iload (pc' := 85) rfl rfl rfl ?_
              refine j_iceq (t := 90) (pc' := 88) rfl rfl rfl (fun h3 => ?_) (fun h3 => ?_)
              · exact kF (fun z => (fun z => z h3) z.2)
              · exact kT (⟨h2, h3⟩)
          · refine j_iconst (pc' := 89) (x := (-1 : Int32)) rfl rfl rfl ?_
            exact j_ret rfl rfl rfl (fun _ h => h)
          · refine j_iload (pc' := 92) rfl rfl rfl ?_
            refine j_istore_n (pc' := 93) (L' := [some (.ref 0), some (.int (1 : Int32)), none, some (.int v3), some (.int l4), some (.int v3)]) rfl rfl rfl ?_
            refine j_wk [true, true, true, true, true, false] (L' := [some (.ref 0), some (.int (1 : Int32)), none, some (.int v3), some (.int l4), none]) rfl ?_
            exact k2_h v3
        · exact k2_h l3
    · refine j_iload_n (pc' := 100) rfl rfl rfl ?_
      exact j_ret rfl rfl rfl (fun _ h => h)

theorem l_X11_next_17_71_72_71 {d : Nat} (hd : 3 ≤ d) (τ : j_G) (σ : j_G) : ∀ (n : Nat) (l3 : Int32) (l4 : Int32), j_J true τ M_cX11_next d 17 [some (.ref 0), some (.int (2 : Int32)), none, some (.int l3), some (.int l4), none] [] σ (p_X11_next_17 71 72 71 σ n l3 l4) (j_Pi σ) := by
  intro n
  induction n with
  | zero => intro l3 l4; exact j_none
  | succ n ih =>
    intro l3 l4
    unfold p_X11_next_17
    refine j_iload (pc' := 19) rfl rfl rfl ?_
    refine j_aload_n (pc' := 20) rfl rfl rfl ?_
    refine j_gfr (pc' := 23) (x := 1) rfl rfl j_a0 rfl rfl ?_
    refine j_gfr (pc' := 26) (x := 5) rfl rfl j_a1 rfl rfl ?_
    refine j_gfi (pc' := 29) rfl rfl j_a5 rfl ?_
    refine j_two (pT := 32) (pF := 99) (L1 := [some (.ref 0), some (.int (2 : Int32)), none, some (.int l3), some (.int l4), none]) (st1 := []) (fun o kT kF => ?_) (fun h6 => ?_) (fun h6 => ?_)
    · refine j_icge (t := 99) (pc' := 32) rfl rfl rfl (fun h7 => ?_) (fun h7 => ?_)
      · exact kF h7
      · exact kT h7
    · refine j_aload_n (pc' := 33) rfl rfl rfl ?_
      refine j_gfr (pc' := 36) (x := 1) rfl rfl j_a0 rfl rfl ?_
      refine j_gfr (pc' := 39) (x := 5) rfl rfl j_a1 rfl rfl ?_
      refine j_iload (pc' := 41) rfl rfl rfl ?_
      refine j_aload_n (pc' := 42) rfl rfl rfl ?_
      refine j_gfr (pc' := 45) (x := 42) rfl rfl j_a0 rfl rfl ?_
      refine j_iload_n (pc' := 46) rfl rfl rfl ?_
      refine j_aald (pc' := 47) (r := 71) rfl rfl j_a42 (by decide) rfl ?_
      refine j_callPi (pc' := 50) (ai := 37) (vs := [.ref 5, .int l4, .ref 71]) (rest := []) rfl rfl (fun _ _ => rfl) (c_X3_goesSo_5_71 l4 σ) (j_dd rfl hd) rfl (fun v1 => ?_)
      refine j_jn (P := (fun k => ∀ (v4 : Int32), j_J true τ M_cX11_next d 93 [some (.ref 0), some (.int (2 : Int32)), none, some (.int v4), some (.int l4), none] [] σ (k v4) (j_Pi σ))) ?_ (fun k2 k2_h => ?_)
      · intro v4
        refine j_iincx (pc' := 96) (y := (1 : Int32)) (L' := [some (.ref 0), some (.int (2 : Int32)), none, some (.int v4), some (.int (l4 + (1 : Int32))), none]) rfl rfl rfl rfl rfl ?_
        refine j_goto (t := 17) rfl rfl ?_
        exact ih v4 (l4 + (1 : Int32))
      · refine j_two (pT := 53) (pF := 93) (L1 := [some (.ref 0), some (.int (2 : Int32)), none, some (.int l3), some (.int l4), none]) (st1 := []) (fun o kT kF => ?_) (fun h4 => ?_) (fun h4 => ?_)
        · refine j_ifeq (t := 93) (pc' := 53) rfl rfl rfl (fun h5 => ?_) (fun h5 => ?_)
          · exact kF (fun z => z h5)
          · exact kT h5
        · refine j_aload_n (pc' := 54) rfl rfl rfl ?_
          refine j_gfr (pc' := 57) (x := 1) rfl rfl j_a0 rfl rfl ?_
          refine j_gfr (pc' := 60) (x := 5) rfl rfl j_a1 rfl rfl ?_
          refine j_iload (pc' := 62) rfl rfl rfl ?_
          refine j_aload_n (pc' := 63) rfl rfl rfl ?_
          refine j_gfr (pc' := 66) (x := 42) rfl rfl j_a0 rfl rfl ?_
          refine j_iload_n (pc' := 67) rfl rfl rfl ?_
          refine j_aald (pc' := 68) (r := 71) rfl rfl j_a42 (by decide) rfl ?_
          refine j_gfi (pc' := 71) rfl rfl j_a71 rfl ?_
          refine j_iadd (pc' := 72) rfl rfl ?_
          refine j_callPi (pc' := 75) (ai := 35) (vs := [.ref 5, .int (l4 + (σ.1 71 0))]) (rest := []) rfl rfl (fun _ _ => rfl) (c_X3_round (l4 + (σ.1 71 0)) σ) (j_dd rfl hd) rfl (fun v3 => ?_)
          refine j_istore (pc' := 77) (L' := [some (.ref 0), some (.int (2 : Int32)), none, some (.int l3), some (.int l4), some (.int v3)]) rfl rfl rfl ?_
          refine j_iload_n (pc' := 78) rfl rfl rfl ?_
          refine j_iconst (pc' := 79) (x := (-1 : Int32)) rfl rfl rfl ?_
          refine j_two (pT := 88) (pF := 90) (L1 := [some (.ref 0), some (.int (2 : Int32)), none, some (.int l3), some (.int l4), some (.int v3)]) (st1 := []) (fun o kT kF => ?_) (fun h1 => ?_) (fun h1 => ?_)
          · refine j_iceq (t := 90) (pc' := 82) rfl rfl rfl (fun h2 => ?_) (fun h2 => ?_)
            · exact kF (fun z => z.1 h2)
            · refine j_iload_n (pc' := 83) rfl rfl rfl ?_
              refine j_iload (pc' := 85) rfl rfl rfl ?_
              refine j_iceq (t := 90) (pc' := 88) rfl rfl rfl (fun h3 => ?_) (fun h3 => ?_)
              · exact kF (fun z => (fun z => z h3) z.2)
              · exact kT (⟨h2, h3⟩)
          · refine j_iconst (pc' := 89) (x := (-1 : Int32)) rfl rfl rfl ?_
            exact j_ret rfl rfl rfl (fun _ h => h)
          · refine j_iload (pc' := 92) rfl rfl rfl ?_
            refine j_istore_n (pc' := 93) (L' := [some (.ref 0), some (.int (2 : Int32)), none, some (.int v3), some (.int l4), some (.int v3)]) rfl rfl rfl ?_
            refine j_wk [true, true, true, true, true, false] (L' := [some (.ref 0), some (.int (2 : Int32)), none, some (.int v3), some (.int l4), none]) rfl ?_
            exact k2_h v3
        · exact k2_h l3
    · refine j_iload_n (pc' := 100) rfl rfl rfl ?_
      exact j_ret rfl rfl rfl (fun _ h => h)

theorem l_X11_next_17_73_74_73 {d : Nat} (hd : 3 ≤ d) (τ : j_G) (σ : j_G) : ∀ (n : Nat) (l3 : Int32) (l4 : Int32), j_J true τ M_cX11_next d 17 [some (.ref 0), some (.int (3 : Int32)), none, some (.int l3), some (.int l4), none] [] σ (p_X11_next_17 73 74 73 σ n l3 l4) (j_Pi σ) := by
  intro n
  induction n with
  | zero => intro l3 l4; exact j_none
  | succ n ih =>
    intro l3 l4
    unfold p_X11_next_17
    refine j_iload (pc' := 19) rfl rfl rfl ?_
    refine j_aload_n (pc' := 20) rfl rfl rfl ?_
    refine j_gfr (pc' := 23) (x := 1) rfl rfl j_a0 rfl rfl ?_
    refine j_gfr (pc' := 26) (x := 5) rfl rfl j_a1 rfl rfl ?_
    refine j_gfi (pc' := 29) rfl rfl j_a5 rfl ?_
    refine j_two (pT := 32) (pF := 99) (L1 := [some (.ref 0), some (.int (3 : Int32)), none, some (.int l3), some (.int l4), none]) (st1 := []) (fun o kT kF => ?_) (fun h6 => ?_) (fun h6 => ?_)
    · refine j_icge (t := 99) (pc' := 32) rfl rfl rfl (fun h7 => ?_) (fun h7 => ?_)
      · exact kF h7
      · exact kT h7
    · refine j_aload_n (pc' := 33) rfl rfl rfl ?_
      refine j_gfr (pc' := 36) (x := 1) rfl rfl j_a0 rfl rfl ?_
      refine j_gfr (pc' := 39) (x := 5) rfl rfl j_a1 rfl rfl ?_
      refine j_iload (pc' := 41) rfl rfl rfl ?_
      refine j_aload_n (pc' := 42) rfl rfl rfl ?_
      refine j_gfr (pc' := 45) (x := 42) rfl rfl j_a0 rfl rfl ?_
      refine j_iload_n (pc' := 46) rfl rfl rfl ?_
      refine j_aald (pc' := 47) (r := 73) rfl rfl j_a42 (by decide) rfl ?_
      refine j_callPi (pc' := 50) (ai := 37) (vs := [.ref 5, .int l4, .ref 73]) (rest := []) rfl rfl (fun _ _ => rfl) (c_X3_goesSo_5_73 l4 σ) (j_dd rfl hd) rfl (fun v1 => ?_)
      refine j_jn (P := (fun k => ∀ (v4 : Int32), j_J true τ M_cX11_next d 93 [some (.ref 0), some (.int (3 : Int32)), none, some (.int v4), some (.int l4), none] [] σ (k v4) (j_Pi σ))) ?_ (fun k2 k2_h => ?_)
      · intro v4
        refine j_iincx (pc' := 96) (y := (1 : Int32)) (L' := [some (.ref 0), some (.int (3 : Int32)), none, some (.int v4), some (.int (l4 + (1 : Int32))), none]) rfl rfl rfl rfl rfl ?_
        refine j_goto (t := 17) rfl rfl ?_
        exact ih v4 (l4 + (1 : Int32))
      · refine j_two (pT := 53) (pF := 93) (L1 := [some (.ref 0), some (.int (3 : Int32)), none, some (.int l3), some (.int l4), none]) (st1 := []) (fun o kT kF => ?_) (fun h4 => ?_) (fun h4 => ?_)
        · refine j_ifeq (t := 93) (pc' := 53) rfl rfl rfl (fun h5 => ?_) (fun h5 => ?_)
          · exact kF (fun z => z h5)
          · exact kT h5
        · refine j_aload_n (pc' := 54) rfl rfl rfl ?_
          refine j_gfr (pc' := 57) (x := 1) rfl rfl j_a0 rfl rfl ?_
          refine j_gfr (pc' := 60) (x := 5) rfl rfl j_a1 rfl rfl ?_
          refine j_iload (pc' := 62) rfl rfl rfl ?_
          refine j_aload_n (pc' := 63) rfl rfl rfl ?_
          refine j_gfr (pc' := 66) (x := 42) rfl rfl j_a0 rfl rfl ?_
          refine j_iload_n (pc' := 67) rfl rfl rfl ?_
          refine j_aald (pc' := 68) (r := 73) rfl rfl j_a42 (by decide) rfl ?_
          refine j_gfi (pc' := 71) rfl rfl j_a73 rfl ?_
          refine j_iadd (pc' := 72) rfl rfl ?_
          refine j_callPi (pc' := 75) (ai := 35) (vs := [.ref 5, .int (l4 + (σ.1 73 0))]) (rest := []) rfl rfl (fun _ _ => rfl) (c_X3_round (l4 + (σ.1 73 0)) σ) (j_dd rfl hd) rfl (fun v3 => ?_)
          refine j_istore (pc' := 77) (L' := [some (.ref 0), some (.int (3 : Int32)), none, some (.int l3), some (.int l4), some (.int v3)]) rfl rfl rfl ?_
          refine j_iload_n (pc' := 78) rfl rfl rfl ?_
          refine j_iconst (pc' := 79) (x := (-1 : Int32)) rfl rfl rfl ?_
          refine j_two (pT := 88) (pF := 90) (L1 := [some (.ref 0), some (.int (3 : Int32)), none, some (.int l3), some (.int l4), some (.int v3)]) (st1 := []) (fun o kT kF => ?_) (fun h1 => ?_) (fun h1 => ?_)
          · refine j_iceq (t := 90) (pc' := 82) rfl rfl rfl (fun h2 => ?_) (fun h2 => ?_)
            · exact kF (fun z => z.1 h2)
            · refine j_iload_n (pc' := 83) rfl rfl rfl ?_
              refine j_iload (pc' := 85) rfl rfl rfl ?_
              refine j_iceq (t := 90) (pc' := 88) rfl rfl rfl (fun h3 => ?_) (fun h3 => ?_)
              · exact kF (fun z => (fun z => z h3) z.2)
              · exact kT (⟨h2, h3⟩)
          · refine j_iconst (pc' := 89) (x := (-1 : Int32)) rfl rfl rfl ?_
            exact j_ret rfl rfl rfl (fun _ h => h)
          · refine j_iload (pc' := 92) rfl rfl rfl ?_
            refine j_istore_n (pc' := 93) (L' := [some (.ref 0), some (.int (3 : Int32)), none, some (.int v3), some (.int l4), some (.int v3)]) rfl rfl rfl ?_
            refine j_wk [true, true, true, true, true, false] (L' := [some (.ref 0), some (.int (3 : Int32)), none, some (.int v3), some (.int l4), none]) rfl ?_
            exact k2_h v3
        · exact k2_h l3
    · refine j_iload_n (pc' := 100) rfl rfl rfl ?_
      exact j_ret rfl rfl rfl (fun _ h => h)

theorem c_X11_next (l1 : Int32) (σ : j_G) : j_K true 3 153 [.ref 0, .int l1] σ (f_X11_next l1 σ) (j_Pi σ) := by
  refine j_mkK (M := M_cX11_next) (L := [some (.ref 0), some (.int l1), none, none, none, none]) (m := 4) t_153 rfl (j_rcvO j_a0 rfl) rfl (fun d hd τ => ?_)
  unfold f_X11_next
  refine j_aload_n (pc' := 1) rfl rfl rfl ?_
  refine j_iload_n (pc' := 2) rfl rfl rfl ?_
  refine j_callPi (pc' := 5) (ai := 193) (vs := [.ref 0, .int l1]) (rest := []) rfl rfl (fun _ _ => rfl) (c_X11_whyUnheard l1 σ) (j_dd rfl hd) rfl (fun v1 => ?_)
  refine j_istore_n (pc' := 6) (L' := [some (.ref 0), some (.int l1), some (.int v1), none, none, none]) rfl rfl rfl ?_
  refine j_iload_n (pc' := 7) rfl rfl rfl ?_
  refine j_two (pT := 10) (pF := 12) (L1 := [some (.ref 0), some (.int l1), some (.int v1), none, none, none]) (st1 := []) (fun o kT kF => ?_) (fun h5 => ?_) (fun h5 => ?_)
  · refine j_ifeq (t := 12) (pc' := 10) rfl rfl rfl (fun h6 => ?_) (fun h6 => ?_)
    · exact kF (fun z => z h6)
    · exact kT h6
  · refine j_iload_n (pc' := 11) rfl rfl rfl ?_
    exact j_ret rfl rfl rfl (fun _ h => h)
  · refine j_iconst (pc' := 13) (x := (-1 : Int32)) rfl rfl rfl ?_
    refine j_istore_n (pc' := 14) (L' := [some (.ref 0), some (.int l1), some (.int v1), some (.int (-1 : Int32)), none, none]) rfl rfl rfl ?_
    refine j_iconst (pc' := 15) (x := (0 : Int32)) rfl rfl rfl ?_
    refine j_istore (pc' := 17) (L' := [some (.ref 0), some (.int l1), some (.int v1), some (.int (-1 : Int32)), some (.int (0 : Int32)), none]) rfl rfl rfl ?_
    refine j_splx (i := l1) (k := (0 : Int32)) (fun h1 => ?_) (fun h1 => ?_)
    · subst h1
      refine j_wk [true, true, false, true, true, true] (L' := [some (.ref 0), some (.int (0 : Int32)), none, some (.int (-1 : Int32)), some (.int (0 : Int32)), none]) rfl ?_
      exact (l_X11_next_17_67_68_67 hd τ σ j_F (-1 : Int32) (0 : Int32))
    refine j_splx (i := l1) (k := (1 : Int32)) (fun h2 => ?_) (fun h2 => ?_)
    · subst h2
      refine j_wk [true, true, false, true, true, true] (L' := [some (.ref 0), some (.int (1 : Int32)), none, some (.int (-1 : Int32)), some (.int (0 : Int32)), none]) rfl ?_
      exact (l_X11_next_17_69_70_69 hd τ σ j_F (-1 : Int32) (0 : Int32))
    refine j_splx (i := l1) (k := (2 : Int32)) (fun h3 => ?_) (fun h3 => ?_)
    · subst h3
      refine j_wk [true, true, false, true, true, true] (L' := [some (.ref 0), some (.int (2 : Int32)), none, some (.int (-1 : Int32)), some (.int (0 : Int32)), none]) rfl ?_
      exact (l_X11_next_17_71_72_71 hd τ σ j_F (-1 : Int32) (0 : Int32))
    refine j_splx (i := l1) (k := (3 : Int32)) (fun h4 => ?_) (fun h4 => ?_)
    · subst h4
      refine j_wk [true, true, false, true, true, true] (L' := [some (.ref 0), some (.int (3 : Int32)), none, some (.int (-1 : Int32)), some (.int (0 : Int32)), none]) rfl ?_
      exact (l_X11_next_17_73_74_73 hd τ σ j_F (-1 : Int32) (0 : Int32))
    exact j_none

noncomputable def p_X12_next_17 (l1 : Int32) (σ : j_G) : Nat → Int32 → Int32 → Option Int32
  | 0, _, _ => none
  | n + 1, l3, l4 =>
    j_ix (5 : Int32) 116 (
    if l4 < (σ.1 76 ((5 : Int32)).toNatClampNeg) then (j_b1 (f_X12_fitsFrom l1 l4 σ) fun v1 =>
    j_lt (fun (v4 : Int32) => (p_X12_next_17 l1 σ n v4 (l4 + (1 : Int32)))) fun (k2 : Int32 → Option Int32) =>
    if v1 = 0 then (k2 l3) else (j_ix l1 4 (
    j_b1 (f_X12_holeAt (l4 + (σ.1 94 (l1).toNatClampNeg)) σ) fun v3 =>
    if (¬ l3 = (-1 : Int32)) ∧ (¬ v3 = l3) then (some (-1 : Int32)) else (k2 v3)))) else (some l3))

noncomputable def f_X12_next (l1 : Int32) (σ : j_G) : Option Int32 :=
  j_b1 (f_X12_asksHeard l1 σ) fun v1 =>
  if v1 < 0 then (some v1) else (p_X12_next_17 l1 σ j_F (-1 : Int32) (0 : Int32))
theorem l_X12_next_17 {d : Nat} (hd : 3 ≤ d) (τ : j_G) (l1 : Int32) (σ : j_G) : ∀ (n : Nat) (l3 : Int32) (l4 : Int32), j_J false τ M_cX12_next d 17 [some (.ref 75), some (.int l1), none, some (.int l3), some (.int l4), none] [] σ (p_X12_next_17 l1 σ n l3 l4) (j_Pi σ) := by
  intro n
  induction n with
  | zero => intro l3 l4; exact j_none
  | succ n ih =>
    intro l3 l4
    unfold p_X12_next_17
    refine j_iload (pc' := 19) rfl rfl rfl ?_
    refine j_aload_n (pc' := 20) rfl rfl rfl ?_
    refine j_gfr (pc' := 23) (x := 76) rfl rfl j_a75 rfl rfl ?_
    refine j_iconst (pc' := 24) (x := (5 : Int32)) rfl rfl rfl ?_
    refine j_iald (pc' := 25) rfl rfl j_a76 ?_
    refine j_two (pT := 28) (pF := 78) (L1 := [some (.ref 75), some (.int l1), none, some (.int l3), some (.int l4), none]) (st1 := []) (fun o kT kF => ?_) (fun h6 => ?_) (fun h6 => ?_)
    · refine j_icge (t := 78) (pc' := 28) rfl rfl rfl (fun h7 => ?_) (fun h7 => ?_)
      · exact kF h7
      · exact kT h7
    · refine j_aload_n (pc' := 29) rfl rfl rfl ?_
      refine j_iload_n (pc' := 30) rfl rfl rfl ?_
      refine j_iload (pc' := 32) rfl rfl rfl ?_
      refine j_callPi (pc' := 35) (ai := 305) (vs := [.ref 75, .int l1, .int l4]) (rest := []) rfl rfl (fun _ _ => rfl) (c_X12_fitsFrom l1 l4 σ) (j_dd rfl hd) rfl (fun v1 => ?_)
      refine j_jn (P := (fun k => ∀ (v4 : Int32), j_J false τ M_cX12_next d 72 [some (.ref 75), some (.int l1), none, some (.int v4), some (.int l4), none] [] σ (k v4) (j_Pi σ))) ?_ (fun k2 k2_h => ?_)
      · intro v4
        refine j_iincx (pc' := 75) (y := (1 : Int32)) (L' := [some (.ref 75), some (.int l1), none, some (.int v4), some (.int (l4 + (1 : Int32))), none]) rfl rfl rfl rfl rfl ?_
        refine j_goto (t := 17) rfl rfl ?_
        exact ih v4 (l4 + (1 : Int32))
      · refine j_two (pT := 38) (pF := 41) (L1 := [some (.ref 75), some (.int l1), none, some (.int l3), some (.int l4), none]) (st1 := []) (fun o kT kF => ?_) (fun h4 => ?_) (fun h4 => ?_)
        · refine j_ifne (t := 41) (pc' := 38) rfl rfl rfl (fun h5 => ?_) (fun h5 => ?_)
          · exact kF h5
          · exact kT h5
        · refine j_goto (t := 72) rfl rfl ?_
          exact k2_h l3
        · refine j_aload_n (pc' := 42) rfl rfl rfl ?_
          refine j_iload (pc' := 44) rfl rfl rfl ?_
          refine j_aload_n (pc' := 45) rfl rfl rfl ?_
          refine j_gfr (pc' := 48) (x := 94) rfl rfl j_a75 rfl rfl ?_
          refine j_iload_n (pc' := 49) rfl rfl rfl ?_
          refine j_iald (pc' := 50) rfl rfl j_a94 ?_
          refine j_iadd (pc' := 51) rfl rfl ?_
          refine j_callPi (pc' := 54) (ai := 296) (vs := [.ref 75, .int (l4 + (σ.1 94 (l1).toNatClampNeg))]) (rest := []) rfl rfl (fun _ _ => rfl) (c_X12_holeAt (l4 + (σ.1 94 (l1).toNatClampNeg)) σ) (j_dd rfl hd) rfl (fun v3 => ?_)
          refine j_istore (pc' := 56) (L' := [some (.ref 75), some (.int l1), none, some (.int l3), some (.int l4), some (.int v3)]) rfl rfl rfl ?_
          refine j_iload_n (pc' := 57) rfl rfl rfl ?_
          refine j_iconst (pc' := 58) (x := (-1 : Int32)) rfl rfl rfl ?_
          refine j_two (pT := 67) (pF := 69) (L1 := [some (.ref 75), some (.int l1), none, some (.int l3), some (.int l4), some (.int v3)]) (st1 := []) (fun o kT kF => ?_) (fun h1 => ?_) (fun h1 => ?_)
          · refine j_iceq (t := 69) (pc' := 61) rfl rfl rfl (fun h2 => ?_) (fun h2 => ?_)
            · exact kF (fun z => z.1 h2)
            · refine j_iload (pc' := 63) rfl rfl rfl ?_
              refine j_iload_n (pc' := 64) rfl rfl rfl ?_
              refine j_iceq (t := 69) (pc' := 67) rfl rfl rfl (fun h3 => ?_) (fun h3 => ?_)
              · exact kF (fun z => (fun z => z h3) z.2)
              · exact kT (⟨h2, h3⟩)
          · refine j_iconst (pc' := 68) (x := (-1 : Int32)) rfl rfl rfl ?_
            exact j_ret rfl rfl rfl (fun _ h => h)
          · refine j_iload (pc' := 71) rfl rfl rfl ?_
            refine j_istore_n (pc' := 72) (L' := [some (.ref 75), some (.int l1), none, some (.int v3), some (.int l4), some (.int v3)]) rfl rfl rfl ?_
            refine j_wk [true, true, true, true, true, false] (L' := [some (.ref 75), some (.int l1), none, some (.int v3), some (.int l4), none]) rfl ?_
            exact k2_h v3
    · refine j_iload_n (pc' := 79) rfl rfl rfl ?_
      exact j_ret rfl rfl rfl (fun _ h => h)

theorem c_X12_next (l1 : Int32) (σ : j_G) : j_K false 3 308 [.ref 75, .int l1] σ (f_X12_next l1 σ) (j_Pi σ) := by
  refine j_mkK (M := M_cX12_next) (L := [some (.ref 75), some (.int l1), none, none, none, none]) (m := 4) t_308 rfl (j_rcvO j_a75 rfl) rfl (fun d hd τ => ?_)
  unfold f_X12_next
  refine j_aload_n (pc' := 1) rfl rfl rfl ?_
  refine j_iload_n (pc' := 2) rfl rfl rfl ?_
  refine j_callPi (pc' := 5) (ai := 299) (vs := [.ref 75, .int l1]) (rest := []) rfl rfl (fun _ _ => rfl) (c_X12_asksHeard l1 σ) (j_dd rfl hd) rfl (fun v1 => ?_)
  refine j_istore_n (pc' := 6) (L' := [some (.ref 75), some (.int l1), some (.int v1), none, none, none]) rfl rfl rfl ?_
  refine j_iload_n (pc' := 7) rfl rfl rfl ?_
  refine j_two (pT := 10) (pF := 12) (L1 := [some (.ref 75), some (.int l1), some (.int v1), none, none, none]) (st1 := []) (fun o kT kF => ?_) (fun h1 => ?_) (fun h1 => ?_)
  · refine j_ifge (t := 12) (pc' := 10) rfl rfl rfl (fun h2 => ?_) (fun h2 => ?_)
    · exact kF h2
    · exact kT h2
  · refine j_iload_n (pc' := 11) rfl rfl rfl ?_
    exact j_ret rfl rfl rfl (fun _ h => h)
  · refine j_iconst (pc' := 13) (x := (-1 : Int32)) rfl rfl rfl ?_
    refine j_istore_n (pc' := 14) (L' := [some (.ref 75), some (.int l1), some (.int v1), some (.int (-1 : Int32)), none, none]) rfl rfl rfl ?_
    refine j_iconst (pc' := 15) (x := (0 : Int32)) rfl rfl rfl ?_
    refine j_istore (pc' := 17) (L' := [some (.ref 75), some (.int l1), some (.int v1), some (.int (-1 : Int32)), some (.int (0 : Int32)), none]) rfl rfl rfl ?_
    refine j_wk [true, true, false, true, true, true] (L' := [some (.ref 75), some (.int l1), none, some (.int (-1 : Int32)), some (.int (0 : Int32)), none]) rfl ?_
    exact (l_X12_next_17 hd τ l1 σ j_F (-1 : Int32) (0 : Int32))

noncomputable def p_X3_alike_2 (l1 : Int32) (l2 : Int32) (σ : j_G) : Nat → Int32 → Option Int32
  | 0, _ => none
  | n + 1, l3 =>
    if l3 < (σ.1 5 0) then (j_b1 (f_X3_round (l1 + l3) σ) fun v1 =>
    j_b1 (f_X3_round (l2 + l3) σ) fun v2 =>
    if v1 = v2 then (p_X3_alike_2 l1 l2 σ n (l3 + (1 : Int32))) else (some l3)) else (some l3)

noncomputable def f_X3_alike (l1 : Int32) (l2 : Int32) (σ : j_G) : Option Int32 :=
  j_b1 (p_X3_alike_2 l1 l2 σ j_F (0 : Int32)) fun v1 =>
  some v1
theorem l_X3_alike_2 {d : Nat} (hd : 2 ≤ d) (τ : j_G) (l1 : Int32) (l2 : Int32) (σ : j_G) : ∀ (n : Nat) (l3 : Int32), j_J true τ M_cX3_alike d 2 [some (.ref 5), some (.int l1), some (.int l2), some (.int l3)] [] σ (p_X3_alike_2 l1 l2 σ n l3) (fun r Q => j_Tr true τ M_cX3_alike d 33 [none, none, none, some (.int r)] [] σ Q) := by
  intro n
  induction n with
  | zero => intro l3; exact j_none
  | succ n ih =>
    intro l3
    unfold p_X3_alike_2
    refine j_iload_n (pc' := 3) rfl rfl rfl ?_
    refine j_aload_n (pc' := 4) rfl rfl rfl ?_
    refine j_gfi (pc' := 7) rfl rfl j_a5 rfl ?_
    refine j_two (pT := 10) (pF := 33) (L1 := [some (.ref 5), some (.int l1), some (.int l2), some (.int l3)]) (st1 := []) (fun o kT kF => ?_) (fun h3 => ?_) (fun h3 => ?_)
    · refine j_icge (t := 33) (pc' := 10) rfl rfl rfl (fun h4 => ?_) (fun h4 => ?_)
      · exact kF h4
      · exact kT h4
    · refine j_aload_n (pc' := 11) rfl rfl rfl ?_
      refine j_iload_n (pc' := 12) rfl rfl rfl ?_
      refine j_iload_n (pc' := 13) rfl rfl rfl ?_
      refine j_iadd (pc' := 14) rfl rfl ?_
      refine j_callPi (pc' := 17) (ai := 35) (vs := [.ref 5, .int (l1 + l3)]) (rest := []) rfl rfl (fun _ _ => rfl) (c_X3_round (l1 + l3) σ) (j_dd rfl hd) rfl (fun v1 => ?_)
      refine j_aload_n (pc' := 18) rfl rfl rfl ?_
      refine j_iload_n (pc' := 19) rfl rfl rfl ?_
      refine j_iload_n (pc' := 20) rfl rfl rfl ?_
      refine j_iadd (pc' := 21) rfl rfl ?_
      refine j_callPi (pc' := 24) (ai := 35) (vs := [.ref 5, .int (l2 + l3)]) (rest := [.int v1]) rfl rfl (fun _ _ => rfl) (c_X3_round (l2 + l3) σ) (j_dd rfl hd) rfl (fun v2 => ?_)
      refine j_two (pT := 27) (pF := 33) (L1 := [some (.ref 5), some (.int l1), some (.int l2), some (.int l3)]) (st1 := []) (fun o kT kF => ?_) (fun h1 => ?_) (fun h1 => ?_)
      · refine j_icne (t := 33) (pc' := 27) rfl rfl rfl (fun h2 => ?_) (fun h2 => ?_)
        · exact kF h2
        · exact kT h2
      · refine j_iincx (pc' := 30) (y := (1 : Int32)) (L' := [some (.ref 5), some (.int l1), some (.int l2), some (.int (l3 + (1 : Int32)))]) rfl rfl rfl rfl rfl ?_
        refine j_goto (t := 2) rfl rfl ?_
        exact ih (l3 + (1 : Int32))
      · refine j_wk [false, false, false, true] (L' := [none, none, none, some (.int l3)]) rfl ?_
        exact j_end (fun _ h => h)
    · refine j_wk [false, false, false, true] (L' := [none, none, none, some (.int l3)]) rfl ?_
      exact j_end (fun _ h => h)

theorem c_X3_alike (l1 : Int32) (l2 : Int32) (σ : j_G) : j_K true 2 39 [.ref 5, .int l1, .int l2] σ (f_X3_alike l1 l2 σ) (j_Pi σ) := by
  refine j_mkK (M := M_cX3_alike) (L := [some (.ref 5), some (.int l1), some (.int l2), none]) (m := 1) t_39 rfl (j_rcvO j_a5 rfl) rfl (fun d hd τ => ?_)
  unfold f_X3_alike
  refine j_iconst (pc' := 1) (x := (0 : Int32)) rfl rfl rfl ?_
  refine j_istore_n (pc' := 2) (L' := [some (.ref 5), some (.int l1), some (.int l2), some (.int (0 : Int32))]) rfl rfl rfl ?_
  refine j_q1 (l_X3_alike_2 hd τ l1 l2 σ j_F (0 : Int32)) (fun v1 => ?_)
  show j_J true τ M_cX3_alike d 33 [none, none, none, some (.int v1)] [] σ _ _
  refine j_iload_n (pc' := 34) rfl rfl rfl ?_
  exact j_ret rfl rfl rfl (fun _ h => h)

noncomputable def p_X3_neededFrom_4 (l1 : Int32) (σ : j_G) : Nat → Int32 → Int32 → Option Int32
  | 0, _, _ => none
  | n + 1, l2, l3 =>
    if l3 < (σ.1 5 0) then (j_b1 (if ¬ l3 = l1 then (j_b1 (f_X3_alike l1 l3 σ) fun v2 =>
    j_lt (if l2 < (v2 + (1 : Int32)) then (v2 + (1 : Int32)) else l2) fun v3 =>
    some v3) else (some l2)) fun v1 =>
    p_X3_neededFrom_4 l1 σ n v1 (l3 + (1 : Int32))) else (some l2)

noncomputable def f_X3_neededFrom (l1 : Int32) (σ : j_G) : Option Int32 :=
  j_b1 (p_X3_neededFrom_4 l1 σ j_F (0 : Int32) (0 : Int32)) fun v1 =>
  if (σ.1 5 0) < v1 then (some (-1 : Int32)) else (some v1)
theorem l_X3_neededFrom_4 {d : Nat} (hd : 3 ≤ d) (τ : j_G) (l1 : Int32) (σ : j_G) : ∀ (n : Nat) (l2 : Int32) (l3 : Int32), j_J true τ M_cX3_neededFrom d 4 [some (.ref 5), some (.int l1), some (.int l2), some (.int l3)] [] σ (p_X3_neededFrom_4 l1 σ n l2 l3) (fun r Q => j_Tr true τ M_cX3_neededFrom d 36 [some (.ref 5), none, some (.int r), none] [] σ Q) := by
  intro n
  induction n with
  | zero => intro l2 l3; exact j_none
  | succ n ih =>
    intro l2 l3
    unfold p_X3_neededFrom_4
    refine j_iload_n (pc' := 5) rfl rfl rfl ?_
    refine j_aload_n (pc' := 6) rfl rfl rfl ?_
    refine j_gfi (pc' := 9) rfl rfl j_a5 rfl ?_
    refine j_two (pT := 12) (pF := 36) (L1 := [some (.ref 5), some (.int l1), some (.int l2), some (.int l3)]) (st1 := []) (fun o kT kF => ?_) (fun h3 => ?_) (fun h3 => ?_)
    · refine j_icge (t := 36) (pc' := 12) rfl rfl rfl (fun h4 => ?_) (fun h4 => ?_)
      · exact kF h4
      · exact kT h4
    · refine j_iload_n (pc' := 13) rfl rfl rfl ?_
      refine j_iload_n (pc' := 14) rfl rfl rfl ?_
      refine j_q1 (Φl := (fun r Q => j_Tr true τ M_cX3_neededFrom d 30 [some (.ref 5), some (.int l1), some (.int r), some (.int l3)] [] σ Q)) ?_ (fun v1 => ?_)
      · refine j_two (pT := 17) (pF := 30) (L1 := [some (.ref 5), some (.int l1), some (.int l2), some (.int l3)]) (st1 := []) (fun o kT kF => ?_) (fun h1 => ?_) (fun h1 => ?_)
        · refine j_iceq (t := 30) (pc' := 17) rfl rfl rfl (fun h2 => ?_) (fun h2 => ?_)
          · exact kF (fun z => z h2)
          · exact kT h2
        · refine j_iload_n (pc' := 18) rfl rfl rfl ?_
          refine j_aload_n (pc' := 19) rfl rfl rfl ?_
          refine j_iload_n (pc' := 20) rfl rfl rfl ?_
          refine j_iload_n (pc' := 21) rfl rfl rfl ?_
          refine j_callPi (pc' := 24) (ai := 39) (vs := [.ref 5, .int l1, .int l3]) (rest := [.int l2]) rfl rfl (fun _ _ => rfl) (c_X3_alike l1 l3 σ) (j_dd rfl hd) rfl (fun v2 => ?_)
          refine j_iconst (pc' := 25) (x := (1 : Int32)) rfl rfl rfl ?_
          refine j_iadd (pc' := 26) rfl rfl ?_
          refine j_max (pc' := 29) rfl rfl rfl ?_
          refine j_leti (fun v3 => ?_)
          refine j_istore_n (pc' := 30) (L' := [some (.ref 5), some (.int l1), some (.int v3), some (.int l3)]) rfl rfl rfl ?_
          exact j_end (fun _ h => h)
        · exact j_end (fun _ h => h)
      show j_J true τ M_cX3_neededFrom d 30 [some (.ref 5), some (.int l1), some (.int v1), some (.int l3)] [] σ _ _
      refine j_iincx (pc' := 33) (y := (1 : Int32)) (L' := [some (.ref 5), some (.int l1), some (.int v1), some (.int (l3 + (1 : Int32)))]) rfl rfl rfl rfl rfl ?_
      refine j_goto (t := 4) rfl rfl ?_
      exact ih v1 (l3 + (1 : Int32))
    · refine j_wk [true, false, true, false] (L' := [some (.ref 5), none, some (.int l2), none]) rfl ?_
      exact j_end (fun _ h => h)

theorem c_X3_neededFrom (l1 : Int32) (σ : j_G) : j_K true 3 38 [.ref 5, .int l1] σ (f_X3_neededFrom l1 σ) (j_Pi σ) := by
  refine j_mkK (M := M_cX3_neededFrom) (L := [some (.ref 5), some (.int l1), none, none]) (m := 2) t_38 rfl (j_rcvO j_a5 rfl) rfl (fun d hd τ => ?_)
  unfold f_X3_neededFrom
  refine j_iconst (pc' := 1) (x := (0 : Int32)) rfl rfl rfl ?_
  refine j_istore_n (pc' := 2) (L' := [some (.ref 5), some (.int l1), some (.int (0 : Int32)), none]) rfl rfl rfl ?_
  refine j_iconst (pc' := 3) (x := (0 : Int32)) rfl rfl rfl ?_
  refine j_istore_n (pc' := 4) (L' := [some (.ref 5), some (.int l1), some (.int (0 : Int32)), some (.int (0 : Int32))]) rfl rfl rfl ?_
  refine j_q1 (l_X3_neededFrom_4 hd τ l1 σ j_F (0 : Int32) (0 : Int32)) (fun v1 => ?_)
  show j_J true τ M_cX3_neededFrom d 36 [some (.ref 5), none, some (.int v1), none] [] σ _ _
  refine j_iload_n (pc' := 37) rfl rfl rfl ?_
  refine j_aload_n (pc' := 38) rfl rfl rfl ?_
  refine j_gfi (pc' := 41) rfl rfl j_a5 rfl ?_
  refine j_two (pT := 44) (pF := 48) (L1 := [some (.ref 5), none, some (.int v1), none]) (st1 := []) (fun o kT kF => ?_) (fun h1 => ?_) (fun h1 => ?_)
  · refine j_icle (t := 48) (pc' := 44) rfl rfl rfl (fun h2 => ?_) (fun h2 => ?_)
    · exact kF h2
    · exact kT h2
  · refine j_iconst (pc' := 45) (x := (-1 : Int32)) rfl rfl rfl ?_
    refine j_goto (t := 49) rfl rfl ?_
    exact j_ret rfl rfl rfl (fun _ h => h)
  · refine j_iload_n (pc' := 49) rfl rfl rfl ?_
    exact j_ret rfl rfl rfl (fun _ h => h)

noncomputable def f_X11_needed (l1 : Int32) (σ : j_G) : Option Int32 :=
  if ¬ (f_X3_has l1 σ) = 0 then (j_b1 (f_X3_neededFrom l1 σ) fun v1 =>
  some v1) else (some (-2 : Int32))
theorem c_X11_needed (l1 : Int32) (σ : j_G) : j_K true 4 154 [.ref 0, .int l1] σ (f_X11_needed l1 σ) (j_Pi σ) := by
  refine j_mkK (M := M_cX11_needed) (L := [some (.ref 0), some (.int l1)]) (m := 0) t_154 rfl (j_rcvO j_a0 rfl) rfl (fun d hd τ => ?_)
  unfold f_X11_needed
  refine j_aload_n (pc' := 1) rfl rfl rfl ?_
  refine j_gfr (pc' := 4) (x := 1) rfl rfl j_a0 rfl rfl ?_
  refine j_gfr (pc' := 7) (x := 5) rfl rfl j_a1 rfl rfl ?_
  refine j_iload_n (pc' := 8) rfl rfl rfl ?_
  refine j_callTi (pc' := 11) (ai := 31) (vs := [.ref 5, .int l1]) (rest := []) rfl rfl (fun _ _ => rfl) (c_X3_has l1 σ) (j_dd rfl hd) rfl ?_
  refine j_two (pT := 14) (pF := 28) (L1 := [some (.ref 0), some (.int l1)]) (st1 := []) (fun o kT kF => ?_) (fun h1 => ?_) (fun h1 => ?_)
  · refine j_ifeq (t := 28) (pc' := 14) rfl rfl rfl (fun h2 => ?_) (fun h2 => ?_)
    · exact kF (fun z => z h2)
    · exact kT h2
  · refine j_aload_n (pc' := 15) rfl rfl rfl ?_
    refine j_gfr (pc' := 18) (x := 1) rfl rfl j_a0 rfl rfl ?_
    refine j_gfr (pc' := 21) (x := 5) rfl rfl j_a1 rfl rfl ?_
    refine j_iload_n (pc' := 22) rfl rfl rfl ?_
    refine j_callPi (pc' := 25) (ai := 38) (vs := [.ref 5, .int l1]) (rest := []) rfl rfl (fun _ _ => rfl) (c_X3_neededFrom l1 σ) (j_dd rfl hd) rfl (fun v1 => ?_)
    refine j_goto (t := 30) rfl rfl ?_
    exact j_ret rfl rfl rfl (fun _ h => h)
  · refine j_bipush (pc' := 30) (x := (-2 : Int32)) rfl rfl rfl ?_
    exact j_ret rfl rfl rfl (fun _ h => h)

noncomputable def p_X12_goesAlike_3 (l1 : Int32) (l2 : Int32) (l3 : Int32) (σ : j_G) : Nat → Int32 → Option Int32
  | 0, _ => none
  | n + 1, l4 =>
    if l4 < l3 then (j_b1 (f_X12_holeAt (l1 + l4) σ) fun v1 =>
    j_b1 (f_X12_holeAt (l2 + l4) σ) fun v2 =>
    if ¬ v1 = v2 then (some (0 : Int32)) else (p_X12_goesAlike_3 l1 l2 l3 σ n (l4 + (1 : Int32)))) else (some (1 : Int32))

noncomputable def f_X12_goesAlike (l1 : Int32) (l2 : Int32) (l3 : Int32) (σ : j_G) : Option Int32 :=
  p_X12_goesAlike_3 l1 l2 l3 σ j_F (0 : Int32)
theorem l_X12_goesAlike_3 {d : Nat} (hd : 2 ≤ d) (τ : j_G) (l1 : Int32) (l2 : Int32) (l3 : Int32) (σ : j_G) : ∀ (n : Nat) (l4 : Int32), j_J false τ M_cX12_goesAlike d 3 [some (.ref 75), some (.int l1), some (.int l2), some (.int l3), some (.int l4)] [] σ (p_X12_goesAlike_3 l1 l2 l3 σ n l4) (j_Pi σ) := by
  intro n
  induction n with
  | zero => intro l4; exact j_none
  | succ n ih =>
    intro l4
    unfold p_X12_goesAlike_3
    refine j_iload (pc' := 5) rfl rfl rfl ?_
    refine j_iload_n (pc' := 6) rfl rfl rfl ?_
    refine j_two (pT := 9) (pF := 36) (L1 := [some (.ref 75), some (.int l1), some (.int l2), some (.int l3), some (.int l4)]) (st1 := []) (fun o kT kF => ?_) (fun h3 => ?_) (fun h3 => ?_)
    · refine j_icge (t := 36) (pc' := 9) rfl rfl rfl (fun h4 => ?_) (fun h4 => ?_)
      · exact kF h4
      · exact kT h4
    · refine j_aload_n (pc' := 10) rfl rfl rfl ?_
      refine j_iload_n (pc' := 11) rfl rfl rfl ?_
      refine j_iload (pc' := 13) rfl rfl rfl ?_
      refine j_iadd (pc' := 14) rfl rfl ?_
      refine j_callPi (pc' := 17) (ai := 296) (vs := [.ref 75, .int (l1 + l4)]) (rest := []) rfl rfl (fun _ _ => rfl) (c_X12_holeAt (l1 + l4) σ) (j_dd rfl hd) rfl (fun v1 => ?_)
      refine j_aload_n (pc' := 18) rfl rfl rfl ?_
      refine j_iload_n (pc' := 19) rfl rfl rfl ?_
      refine j_iload (pc' := 21) rfl rfl rfl ?_
      refine j_iadd (pc' := 22) rfl rfl ?_
      refine j_callPi (pc' := 25) (ai := 296) (vs := [.ref 75, .int (l2 + l4)]) (rest := [.int v1]) rfl rfl (fun _ _ => rfl) (c_X12_holeAt (l2 + l4) σ) (j_dd rfl hd) rfl (fun v2 => ?_)
      refine j_two (pT := 28) (pF := 30) (L1 := [some (.ref 75), some (.int l1), some (.int l2), some (.int l3), some (.int l4)]) (st1 := []) (fun o kT kF => ?_) (fun h1 => ?_) (fun h1 => ?_)
      · refine j_iceq (t := 30) (pc' := 28) rfl rfl rfl (fun h2 => ?_) (fun h2 => ?_)
        · exact kF (fun z => z h2)
        · exact kT h2
      · refine j_iconst (pc' := 29) (x := (0 : Int32)) rfl rfl rfl ?_
        exact j_ret rfl rfl rfl (fun _ h => h)
      · refine j_iincx (pc' := 33) (y := (1 : Int32)) (L' := [some (.ref 75), some (.int l1), some (.int l2), some (.int l3), some (.int (l4 + (1 : Int32)))]) rfl rfl rfl rfl rfl ?_
        refine j_goto (t := 3) rfl rfl ?_
        exact ih (l4 + (1 : Int32))
    · refine j_iconst (pc' := 37) (x := (1 : Int32)) rfl rfl rfl ?_
      exact j_ret rfl rfl rfl (fun _ h => h)

theorem c_X12_goesAlike (l1 : Int32) (l2 : Int32) (l3 : Int32) (σ : j_G) : j_K false 2 309 [.ref 75, .int l1, .int l2, .int l3] σ (f_X12_goesAlike l1 l2 l3 σ) (j_Pi σ) := by
  refine j_mkK (M := M_cX12_goesAlike) (L := [some (.ref 75), some (.int l1), some (.int l2), some (.int l3), none]) (m := 1) t_309 rfl (j_rcvO j_a75 rfl) rfl (fun d hd τ => ?_)
  unfold f_X12_goesAlike
  refine j_iconst (pc' := 1) (x := (0 : Int32)) rfl rfl rfl ?_
  refine j_istore (pc' := 3) (L' := [some (.ref 75), some (.int l1), some (.int l2), some (.int l3), some (.int (0 : Int32))]) rfl rfl rfl ?_
  exact (l_X12_goesAlike_3 hd τ l1 l2 l3 σ j_F (0 : Int32))

noncomputable def p_X12_neededFrom_17 (l1 : Int32) (l2 : Int32) (σ : j_G) : Nat → Int32 → Int32 → Option Int32
  | 0, _, _ => none
  | n + 1, l3, l4 =>
    j_ix (5 : Int32) 116 (
    if l4 < (σ.1 76 ((5 : Int32)).toNatClampNeg) then (j_b1 (f_X12_goesAlike l1 l4 l2 σ) fun v1 =>
    j_lt (if ¬ v1 = 0 then ((1 : Int32)) else ((0 : Int32))) fun v2 =>
    j_lt (l3 + v2) fun v3 =>
    p_X12_neededFrom_17 l1 l2 σ n v3 (l4 + (1 : Int32))) else (some l3))

noncomputable def p_X12_neededFrom_2 (l1 : Int32) (σ : j_G) : Nat → Int32 → Option Int32
  | 0, _ => none
  | n + 1, l2 =>
    j_ix (5 : Int32) 116 (
    if ¬ (σ.1 76 ((5 : Int32)).toNatClampNeg) < l2 then (j_b1 (p_X12_neededFrom_17 l1 l2 σ j_F (0 : Int32) (0 : Int32)) fun v1 =>
    if v1 = (1 : Int32) then (some l2) else (p_X12_neededFrom_2 l1 σ n (l2 + (1 : Int32)))) else (some (-1 : Int32)))

noncomputable def f_X12_neededFrom (l1 : Int32) (σ : j_G) : Option Int32 :=
  p_X12_neededFrom_2 l1 σ j_F (0 : Int32)
theorem l_X12_neededFrom_17 {d : Nat} (hd : 3 ≤ d) (τ : j_G) (l1 : Int32) (l2 : Int32) (σ : j_G) : ∀ (n : Nat) (l3 : Int32) (l4 : Int32), j_J false τ M_cX12_neededFrom d 17 [some (.ref 75), some (.int l1), some (.int l2), some (.int l3), some (.int l4)] [] σ (p_X12_neededFrom_17 l1 l2 σ n l3 l4) (fun r Q => j_Tr false τ M_cX12_neededFrom d 53 [some (.ref 75), some (.int l1), some (.int l2), some (.int r), none] [] σ Q) := by
  intro n
  induction n with
  | zero => intro l3 l4; exact j_none
  | succ n ih =>
    intro l3 l4
    unfold p_X12_neededFrom_17
    refine j_iload (pc' := 19) rfl rfl rfl ?_
    refine j_aload_n (pc' := 20) rfl rfl rfl ?_
    refine j_gfr (pc' := 23) (x := 76) rfl rfl j_a75 rfl rfl ?_
    refine j_iconst (pc' := 24) (x := (5 : Int32)) rfl rfl rfl ?_
    refine j_iald (pc' := 25) rfl rfl j_a76 ?_
    refine j_two (pT := 28) (pF := 53) (L1 := [some (.ref 75), some (.int l1), some (.int l2), some (.int l3), some (.int l4)]) (st1 := []) (fun o kT kF => ?_) (fun h3 => ?_) (fun h3 => ?_)
    · refine j_icge (t := 53) (pc' := 28) rfl rfl rfl (fun h4 => ?_) (fun h4 => ?_)
      · exact kF h4
      · exact kT h4
    · refine j_iload_n (pc' := 29) rfl rfl rfl ?_
      refine j_aload_n (pc' := 30) rfl rfl rfl ?_
      refine j_iload_n (pc' := 31) rfl rfl rfl ?_
      refine j_iload (pc' := 33) rfl rfl rfl ?_
      refine j_iload_n (pc' := 34) rfl rfl rfl ?_
      refine j_callPi (pc' := 37) (ai := 309) (vs := [.ref 75, .int l1, .int l4, .int l2]) (rest := [.int l3]) rfl rfl (fun _ _ => rfl) (c_X12_goesAlike l1 l4 l2 σ) (j_dd rfl hd) rfl (fun v1 => ?_)
      refine j_ql (Φl := (fun r Q => j_Tr false τ M_cX12_neededFrom d 45 [some (.ref 75), some (.int l1), some (.int l2), none, some (.int l4)] [.int r, .int l3] σ Q)) ?_ (fun v2 => ?_)
      · refine j_twoT (pT := 40) (pF := 44) (L1 := [some (.ref 75), some (.int l1), some (.int l2), some (.int l3), some (.int l4)]) (st1 := [.int l3]) (fun o kT kF => ?_) (fun h1 => ?_) (fun h1 => ?_)
        · refine j_ifeq (t := 44) (pc' := 40) rfl rfl rfl (fun h2 => ?_) (fun h2 => ?_)
          · exact kF (fun z => z h2)
          · exact kT h2
        · refine j_iconst (pc' := 41) (x := (1 : Int32)) rfl rfl rfl ?_
          refine j_goto (t := 45) rfl rfl ?_
          refine j_wk [true, true, true, false, true] (L' := [some (.ref 75), some (.int l1), some (.int l2), none, some (.int l4)]) rfl ?_
          exact j_end (fun _ h => h)
        · refine j_iconst (pc' := 45) (x := (0 : Int32)) rfl rfl rfl ?_
          refine j_wk [true, true, true, false, true] (L' := [some (.ref 75), some (.int l1), some (.int l2), none, some (.int l4)]) rfl ?_
          exact j_end (fun _ h => h)
      show j_J false τ M_cX12_neededFrom d 45 [some (.ref 75), some (.int l1), some (.int l2), none, some (.int l4)] [.int v2, .int l3] σ _ _
      refine j_iadd (pc' := 46) rfl rfl ?_
      refine j_leti (fun v3 => ?_)
      refine j_istore_n (pc' := 47) (L' := [some (.ref 75), some (.int l1), some (.int l2), some (.int v3), some (.int l4)]) rfl rfl rfl ?_
      refine j_iincx (pc' := 50) (y := (1 : Int32)) (L' := [some (.ref 75), some (.int l1), some (.int l2), some (.int v3), some (.int (l4 + (1 : Int32)))]) rfl rfl rfl rfl rfl ?_
      refine j_goto (t := 17) rfl rfl ?_
      exact ih v3 (l4 + (1 : Int32))
    · refine j_wk [true, true, true, true, false] (L' := [some (.ref 75), some (.int l1), some (.int l2), some (.int l3), none]) rfl ?_
      exact j_end (fun _ h => h)

theorem l_X12_neededFrom_2 {d : Nat} (hd : 3 ≤ d) (τ : j_G) (l1 : Int32) (σ : j_G) : ∀ (n : Nat) (l2 : Int32), j_J false τ M_cX12_neededFrom d 2 [some (.ref 75), some (.int l1), some (.int l2), none, none] [] σ (p_X12_neededFrom_2 l1 σ n l2) (j_Pi σ) := by
  intro n
  induction n with
  | zero => intro l2; exact j_none
  | succ n ih =>
    intro l2
    unfold p_X12_neededFrom_2
    refine j_iload_n (pc' := 3) rfl rfl rfl ?_
    refine j_aload_n (pc' := 4) rfl rfl rfl ?_
    refine j_gfr (pc' := 7) (x := 76) rfl rfl j_a75 rfl rfl ?_
    refine j_iconst (pc' := 8) (x := (5 : Int32)) rfl rfl rfl ?_
    refine j_iald (pc' := 9) rfl rfl j_a76 ?_
    refine j_two (pT := 12) (pF := 66) (L1 := [some (.ref 75), some (.int l1), some (.int l2), none, none]) (st1 := []) (fun o kT kF => ?_) (fun h3 => ?_) (fun h3 => ?_)
    · refine j_icgt (t := 66) (pc' := 12) rfl rfl rfl (fun h4 => ?_) (fun h4 => ?_)
      · exact kF (fun z => z h4)
      · exact kT h4
    · refine j_iconst (pc' := 13) (x := (0 : Int32)) rfl rfl rfl ?_
      refine j_istore_n (pc' := 14) (L' := [some (.ref 75), some (.int l1), some (.int l2), some (.int (0 : Int32)), none]) rfl rfl rfl ?_
      refine j_iconst (pc' := 15) (x := (0 : Int32)) rfl rfl rfl ?_
      refine j_istore (pc' := 17) (L' := [some (.ref 75), some (.int l1), some (.int l2), some (.int (0 : Int32)), some (.int (0 : Int32))]) rfl rfl rfl ?_
      refine j_q1 (l_X12_neededFrom_17 hd τ l1 l2 σ j_F (0 : Int32) (0 : Int32)) (fun v1 => ?_)
      show j_J false τ M_cX12_neededFrom d 53 [some (.ref 75), some (.int l1), some (.int l2), some (.int v1), none] [] σ _ _
      refine j_iload_n (pc' := 54) rfl rfl rfl ?_
      refine j_iconst (pc' := 55) (x := (1 : Int32)) rfl rfl rfl ?_
      refine j_two (pT := 58) (pF := 60) (L1 := [some (.ref 75), some (.int l1), some (.int l2), some (.int v1), none]) (st1 := []) (fun o kT kF => ?_) (fun h1 => ?_) (fun h1 => ?_)
      · refine j_icne (t := 60) (pc' := 58) rfl rfl rfl (fun h2 => ?_) (fun h2 => ?_)
        · exact kF h2
        · exact kT h2
      · refine j_iload_n (pc' := 59) rfl rfl rfl ?_
        exact j_ret rfl rfl rfl (fun _ h => h)
      · refine j_iincx (pc' := 63) (y := (1 : Int32)) (L' := [some (.ref 75), some (.int l1), some (.int (l2 + (1 : Int32))), some (.int v1), none]) rfl rfl rfl rfl rfl ?_
        refine j_goto (t := 2) rfl rfl ?_
        refine j_wk [true, true, true, false, true] (L' := [some (.ref 75), some (.int l1), some (.int (l2 + (1 : Int32))), none, none]) rfl ?_
        exact ih (l2 + (1 : Int32))
    · refine j_iconst (pc' := 67) (x := (-1 : Int32)) rfl rfl rfl ?_
      exact j_ret rfl rfl rfl (fun _ h => h)

theorem c_X12_neededFrom (l1 : Int32) (σ : j_G) : j_K false 3 310 [.ref 75, .int l1] σ (f_X12_neededFrom l1 σ) (j_Pi σ) := by
  refine j_mkK (M := M_cX12_neededFrom) (L := [some (.ref 75), some (.int l1), none, none, none]) (m := 3) t_310 rfl (j_rcvO j_a75 rfl) rfl (fun d hd τ => ?_)
  unfold f_X12_neededFrom
  refine j_iconst (pc' := 1) (x := (0 : Int32)) rfl rfl rfl ?_
  refine j_istore_n (pc' := 2) (L' := [some (.ref 75), some (.int l1), some (.int (0 : Int32)), none, none]) rfl rfl rfl ?_
  exact (l_X12_neededFrom_2 hd τ l1 σ j_F (0 : Int32))

noncomputable def f_X12_needed (l1 : Int32) (σ : j_G) : Option Int32 :=
  j_b1 (f_X12_isComing l1 σ) fun v1 =>
  if ¬ v1 = 0 then (j_b1 (f_X12_neededFrom l1 σ) fun v2 =>
  some v2) else (some (-2 : Int32))
theorem c_X12_needed (l1 : Int32) (σ : j_G) : j_K false 4 311 [.ref 75, .int l1] σ (f_X12_needed l1 σ) (j_Pi σ) := by
  refine j_mkK (M := M_cX12_needed) (L := [some (.ref 75), some (.int l1)]) (m := 0) t_311 rfl (j_rcvO j_a75 rfl) rfl (fun d hd τ => ?_)
  unfold f_X12_needed
  refine j_aload_n (pc' := 1) rfl rfl rfl ?_
  refine j_iload_n (pc' := 2) rfl rfl rfl ?_
  refine j_callPi (pc' := 5) (ai := 204) (vs := [.ref 75, .int l1]) (rest := []) rfl rfl (fun _ _ => rfl) (c_X12_isComing l1 σ) (j_dd rfl hd) rfl (fun v1 => ?_)
  refine j_two (pT := 8) (pF := 16) (L1 := [some (.ref 75), some (.int l1)]) (st1 := []) (fun o kT kF => ?_) (fun h1 => ?_) (fun h1 => ?_)
  · refine j_ifeq (t := 16) (pc' := 8) rfl rfl rfl (fun h2 => ?_) (fun h2 => ?_)
    · exact kF (fun z => z h2)
    · exact kT h2
  · refine j_aload_n (pc' := 9) rfl rfl rfl ?_
    refine j_iload_n (pc' := 10) rfl rfl rfl ?_
    refine j_callPi (pc' := 13) (ai := 310) (vs := [.ref 75, .int l1]) (rest := []) rfl rfl (fun _ _ => rfl) (c_X12_neededFrom l1 σ) (j_dd rfl hd) rfl (fun v2 => ?_)
    refine j_goto (t := 18) rfl rfl ?_
    exact j_ret rfl rfl rfl (fun _ h => h)
  · refine j_bipush (pc' := 18) (x := (-2 : Int32)) rfl rfl rfl ?_
    exact j_ret rfl rfl rfl (fun _ h => h)

noncomputable def p_X11_known_17 (σ : j_G) : Nat → Int32 → Int32 → Option Int32
  | 0, _, _ => none
  | n + 1, l1, l2 =>
    if l2 < (σ.1 5 0) then (j_b1 (f_X3_neededFrom l2 σ) fun v1 =>
    if v1 = (-1 : Int32) then (some (-1 : Int32)) else (j_lt (if l1 < v1 then v1 else l1) fun v2 =>
    p_X11_known_17 σ n v2 (l2 + (1 : Int32)))) else (some l1)

noncomputable def f_X11_known (σ : j_G) : Option Int32 :=
  if (f_X2_isTold σ) = 0 then (some (-2 : Int32)) else (p_X11_known_17 σ j_F (-1 : Int32) (0 : Int32))
theorem l_X11_known_17 {d : Nat} (hd : 4 ≤ d) (τ : j_G) (σ : j_G) : ∀ (n : Nat) (l1 : Int32) (l2 : Int32), j_J true τ M_cX11_known d 17 [some (.ref 0), some (.int l1), some (.int l2), none] [] σ (p_X11_known_17 σ n l1 l2) (j_Pi σ) := by
  intro n
  induction n with
  | zero => intro l1 l2; exact j_none
  | succ n ih =>
    intro l1 l2
    unfold p_X11_known_17
    refine j_iload_n (pc' := 18) rfl rfl rfl ?_
    refine j_aload_n (pc' := 19) rfl rfl rfl ?_
    refine j_gfr (pc' := 22) (x := 1) rfl rfl j_a0 rfl rfl ?_
    refine j_gfr (pc' := 25) (x := 5) rfl rfl j_a1 rfl rfl ?_
    refine j_gfi (pc' := 28) rfl rfl j_a5 rfl ?_
    refine j_two (pT := 31) (pF := 62) (L1 := [some (.ref 0), some (.int l1), some (.int l2), none]) (st1 := []) (fun o kT kF => ?_) (fun h3 => ?_) (fun h3 => ?_)
    · refine j_icge (t := 62) (pc' := 31) rfl rfl rfl (fun h4 => ?_) (fun h4 => ?_)
      · exact kF h4
      · exact kT h4
    · refine j_aload_n (pc' := 32) rfl rfl rfl ?_
      refine j_gfr (pc' := 35) (x := 1) rfl rfl j_a0 rfl rfl ?_
      refine j_gfr (pc' := 38) (x := 5) rfl rfl j_a1 rfl rfl ?_
      refine j_iload_n (pc' := 39) rfl rfl rfl ?_
      refine j_callPi (pc' := 42) (ai := 38) (vs := [.ref 5, .int l2]) (rest := []) rfl rfl (fun _ _ => rfl) (c_X3_neededFrom l2 σ) (j_dd rfl hd) rfl (fun v1 => ?_)
      refine j_istore_n (pc' := 43) (L' := [some (.ref 0), some (.int l1), some (.int l2), some (.int v1)]) rfl rfl rfl ?_
      refine j_iload_n (pc' := 44) rfl rfl rfl ?_
      refine j_iconst (pc' := 45) (x := (-1 : Int32)) rfl rfl rfl ?_
      refine j_two (pT := 48) (pF := 50) (L1 := [some (.ref 0), some (.int l1), some (.int l2), some (.int v1)]) (st1 := []) (fun o kT kF => ?_) (fun h1 => ?_) (fun h1 => ?_)
      · refine j_icne (t := 50) (pc' := 48) rfl rfl rfl (fun h2 => ?_) (fun h2 => ?_)
        · exact kF h2
        · exact kT h2
      · refine j_iconst (pc' := 49) (x := (-1 : Int32)) rfl rfl rfl ?_
        exact j_ret rfl rfl rfl (fun _ h => h)
      · refine j_iload_n (pc' := 51) rfl rfl rfl ?_
        refine j_iload_n (pc' := 52) rfl rfl rfl ?_
        refine j_max (pc' := 55) rfl rfl rfl ?_
        refine j_leti (fun v2 => ?_)
        refine j_istore_n (pc' := 56) (L' := [some (.ref 0), some (.int v2), some (.int l2), some (.int v1)]) rfl rfl rfl ?_
        refine j_iincx (pc' := 59) (y := (1 : Int32)) (L' := [some (.ref 0), some (.int v2), some (.int (l2 + (1 : Int32))), some (.int v1)]) rfl rfl rfl rfl rfl ?_
        refine j_goto (t := 17) rfl rfl ?_
        refine j_wk [true, true, true, false] (L' := [some (.ref 0), some (.int v2), some (.int (l2 + (1 : Int32))), none]) rfl ?_
        exact ih v2 (l2 + (1 : Int32))
    · refine j_iload_n (pc' := 63) rfl rfl rfl ?_
      exact j_ret rfl rfl rfl (fun _ h => h)

theorem c_X11_known (σ : j_G) : j_K true 4 155 [.ref 0] σ (f_X11_known σ) (j_Pi σ) := by
  refine j_mkK (M := M_cX11_known) (L := [some (.ref 0), none, none, none]) (m := 3) t_155 rfl (j_rcvO j_a0 rfl) rfl (fun d hd τ => ?_)
  unfold f_X11_known
  refine j_aload_n (pc' := 1) rfl rfl rfl ?_
  refine j_gfr (pc' := 4) (x := 1) rfl rfl j_a0 rfl rfl ?_
  refine j_callTi (pc' := 7) (ai := 11) (vs := [.ref 1]) (rest := []) rfl rfl (fun _ _ => rfl) (c_X2_isTold  σ) (j_dd rfl hd) rfl ?_
  refine j_two (pT := 10) (pF := 13) (L1 := [some (.ref 0), none, none, none]) (st1 := []) (fun o kT kF => ?_) (fun h1 => ?_) (fun h1 => ?_)
  · refine j_ifne (t := 13) (pc' := 10) rfl rfl rfl (fun h2 => ?_) (fun h2 => ?_)
    · exact kF h2
    · exact kT h2
  · refine j_bipush (pc' := 12) (x := (-2 : Int32)) rfl rfl rfl ?_
    exact j_ret rfl rfl rfl (fun _ h => h)
  · refine j_iconst (pc' := 14) (x := (-1 : Int32)) rfl rfl rfl ?_
    refine j_istore_n (pc' := 15) (L' := [some (.ref 0), some (.int (-1 : Int32)), none, none]) rfl rfl rfl ?_
    refine j_iconst (pc' := 16) (x := (0 : Int32)) rfl rfl rfl ?_
    refine j_istore_n (pc' := 17) (L' := [some (.ref 0), some (.int (-1 : Int32)), some (.int (0 : Int32)), none]) rfl rfl rfl ?_
    exact (l_X11_known_17 hd τ σ j_F (-1 : Int32) (0 : Int32))

noncomputable def p_X12_known_14 (σ : j_G) : Nat → Int32 → Int32 → Option Int32
  | 0, _, _ => none
  | n + 1, l1, l2 =>
    j_ix (5 : Int32) 116 (
    if l2 < (σ.1 76 ((5 : Int32)).toNatClampNeg) then (j_b1 (f_X12_neededFrom l2 σ) fun v1 =>
    if v1 = (-1 : Int32) then (some (-1 : Int32)) else (j_lt (if l1 < v1 then v1 else l1) fun v2 =>
    p_X12_known_14 σ n v2 (l2 + (1 : Int32)))) else (some l1))

noncomputable def f_X12_known (σ : j_G) : Option Int32 :=
  j_b1 (f_X12_isBoard σ) fun v1 =>
  if v1 = 0 then (some (-2 : Int32)) else (p_X12_known_14 σ j_F (-1 : Int32) (0 : Int32))
theorem l_X12_known_14 {d : Nat} (hd : 4 ≤ d) (τ : j_G) (σ : j_G) : ∀ (n : Nat) (l1 : Int32) (l2 : Int32), j_J false τ M_cX12_known d 14 [some (.ref 75), some (.int l1), some (.int l2), none] [] σ (p_X12_known_14 σ n l1 l2) (j_Pi σ) := by
  intro n
  induction n with
  | zero => intro l1 l2; exact j_none
  | succ n ih =>
    intro l1 l2
    unfold p_X12_known_14
    refine j_iload_n (pc' := 15) rfl rfl rfl ?_
    refine j_aload_n (pc' := 16) rfl rfl rfl ?_
    refine j_gfr (pc' := 19) (x := 76) rfl rfl j_a75 rfl rfl ?_
    refine j_iconst (pc' := 20) (x := (5 : Int32)) rfl rfl rfl ?_
    refine j_iald (pc' := 21) rfl rfl j_a76 ?_
    refine j_two (pT := 24) (pF := 49) (L1 := [some (.ref 75), some (.int l1), some (.int l2), none]) (st1 := []) (fun o kT kF => ?_) (fun h3 => ?_) (fun h3 => ?_)
    · refine j_icge (t := 49) (pc' := 24) rfl rfl rfl (fun h4 => ?_) (fun h4 => ?_)
      · exact kF h4
      · exact kT h4
    · refine j_aload_n (pc' := 25) rfl rfl rfl ?_
      refine j_iload_n (pc' := 26) rfl rfl rfl ?_
      refine j_callPi (pc' := 29) (ai := 310) (vs := [.ref 75, .int l2]) (rest := []) rfl rfl (fun _ _ => rfl) (c_X12_neededFrom l2 σ) (j_dd rfl hd) rfl (fun v1 => ?_)
      refine j_istore_n (pc' := 30) (L' := [some (.ref 75), some (.int l1), some (.int l2), some (.int v1)]) rfl rfl rfl ?_
      refine j_iload_n (pc' := 31) rfl rfl rfl ?_
      refine j_iconst (pc' := 32) (x := (-1 : Int32)) rfl rfl rfl ?_
      refine j_two (pT := 35) (pF := 37) (L1 := [some (.ref 75), some (.int l1), some (.int l2), some (.int v1)]) (st1 := []) (fun o kT kF => ?_) (fun h1 => ?_) (fun h1 => ?_)
      · refine j_icne (t := 37) (pc' := 35) rfl rfl rfl (fun h2 => ?_) (fun h2 => ?_)
        · exact kF h2
        · exact kT h2
      · refine j_iconst (pc' := 36) (x := (-1 : Int32)) rfl rfl rfl ?_
        exact j_ret rfl rfl rfl (fun _ h => h)
      · refine j_iload_n (pc' := 38) rfl rfl rfl ?_
        refine j_iload_n (pc' := 39) rfl rfl rfl ?_
        refine j_max (pc' := 42) rfl rfl rfl ?_
        refine j_leti (fun v2 => ?_)
        refine j_istore_n (pc' := 43) (L' := [some (.ref 75), some (.int v2), some (.int l2), some (.int v1)]) rfl rfl rfl ?_
        refine j_iincx (pc' := 46) (y := (1 : Int32)) (L' := [some (.ref 75), some (.int v2), some (.int (l2 + (1 : Int32))), some (.int v1)]) rfl rfl rfl rfl rfl ?_
        refine j_goto (t := 14) rfl rfl ?_
        refine j_wk [true, true, true, false] (L' := [some (.ref 75), some (.int v2), some (.int (l2 + (1 : Int32))), none]) rfl ?_
        exact ih v2 (l2 + (1 : Int32))
    · refine j_iload_n (pc' := 50) rfl rfl rfl ?_
      exact j_ret rfl rfl rfl (fun _ h => h)

theorem c_X12_known (σ : j_G) : j_K false 4 312 [.ref 75] σ (f_X12_known σ) (j_Pi σ) := by
  refine j_mkK (M := M_cX12_known) (L := [some (.ref 75), none, none, none]) (m := 3) t_312 rfl (j_rcvO j_a75 rfl) rfl (fun d hd τ => ?_)
  unfold f_X12_known
  refine j_aload_n (pc' := 1) rfl rfl rfl ?_
  refine j_callPi (pc' := 4) (ai := 199) (vs := [.ref 75]) (rest := []) rfl rfl (fun _ _ => rfl) (c_X12_isBoard  σ) (j_dd rfl hd) rfl (fun v1 => ?_)
  refine j_two (pT := 7) (pF := 10) (L1 := [some (.ref 75), none, none, none]) (st1 := []) (fun o kT kF => ?_) (fun h1 => ?_) (fun h1 => ?_)
  · refine j_ifne (t := 10) (pc' := 7) rfl rfl rfl (fun h2 => ?_) (fun h2 => ?_)
    · exact kF h2
    · exact kT h2
  · refine j_bipush (pc' := 9) (x := (-2 : Int32)) rfl rfl rfl ?_
    exact j_ret rfl rfl rfl (fun _ h => h)
  · refine j_iconst (pc' := 11) (x := (-1 : Int32)) rfl rfl rfl ?_
    refine j_istore_n (pc' := 12) (L' := [some (.ref 75), some (.int (-1 : Int32)), none, none]) rfl rfl rfl ?_
    refine j_iconst (pc' := 13) (x := (0 : Int32)) rfl rfl rfl ?_
    refine j_istore_n (pc' := 14) (L' := [some (.ref 75), some (.int (-1 : Int32)), some (.int (0 : Int32)), none]) rfl rfl rfl ?_
    exact (l_X12_known_14 hd τ σ j_F (-1 : Int32) (0 : Int32))

noncomputable def p_X9_rashPoints_9 : Nat → Int32 → j_G → Option j_G
  | 0, _, _ => none
  | n + 1, l4, σ =>
    if l4 < (σ.1 22 0) then (j_b1 (f_X9_goFor 23 24 30 26 28 33 34 31 32 l4 (-1 : Int32) σ) fun σ1 =>
    j_ix l4 60 (
    j_b1 (if ¬ (σ1.1 25 (l4).toNatClampNeg) = 0 then (j_ix l4 60 (
    j_lt (j_si σ1 30 4 ((σ1.1 30 4) + (σ1.1 32 (l4).toNatClampNeg))) fun σ3 =>
    some σ3)) else (some σ1)) fun σ2 =>
    p_X9_rashPoints_9 n (l4 + (1 : Int32)) σ2)) else (some σ)

noncomputable def f_X9_rashPoints (σ : j_G) : Option (Int32 × j_G) :=
  j_b1 (f_X9_begin 30 28 22 31 32 σ) fun σ1 =>
  j_b1 (p_X9_rashPoints_9 j_F (0 : Int32) σ1) fun σ2 =>
  some ((((10 : Int32) * ((σ2.1 30 0) - (σ2.1 30 4))) - ((20 : Int32) * (σ2.1 30 4))), σ2)
theorem l_X9_rashPoints_9 {d : Nat} (hd : 4 ≤ d) (τ : j_G) : ∀ (n : Nat) (l4 : Int32) (σ : j_G), j_J true τ M_cX9_rashPoints d 9 [some (.ref 30), some (.ref 1), some (.ref 22), some (.ref 28), some (.int l4)] [] σ (p_X9_rashPoints_9 n l4 σ) (fun r Q => j_Tr true τ M_cX9_rashPoints d 60 [some (.ref 30), none, none, none, none] [] r Q) := by
  intro n
  induction n with
  | zero => intro l4 σ; exact j_none
  | succ n ih =>
    intro l4 σ
    unfold p_X9_rashPoints_9
    refine j_iload (pc' := 11) rfl rfl rfl ?_
    refine j_aload_n (pc' := 12) rfl rfl rfl ?_
    refine j_gfi (pc' := 15) rfl rfl j_a22 rfl ?_
    refine j_two (pT := 18) (pF := 60) (L1 := [some (.ref 30), some (.ref 1), some (.ref 22), some (.ref 28), some (.int l4)]) (st1 := []) (fun o kT kF => ?_) (fun h3 => ?_) (fun h3 => ?_)
    · refine j_icge (t := 60) (pc' := 18) rfl rfl rfl (fun h4 => ?_) (fun h4 => ?_)
      · exact kF h4
      · exact kT h4
    · refine j_aload_n (pc' := 19) rfl rfl rfl ?_
      refine j_aload_n (pc' := 20) rfl rfl rfl ?_
      refine j_aload_n (pc' := 21) rfl rfl rfl ?_
      refine j_aload_n (pc' := 22) rfl rfl rfl ?_
      refine j_iload (pc' := 24) rfl rfl rfl ?_
      refine j_iconst (pc' := 25) (x := (-1 : Int32)) rfl rfl rfl ?_
      refine j_callRv (pc' := 28) (ai := 103) (vs := [.ref 30, .ref 1, .ref 22, .ref 28, .int l4, .int (-1 : Int32)]) (rest := []) rfl rfl (fun _ _ => rfl) (c_X9_goFor_30_1_22_28 l4 (-1 : Int32) σ) (j_dd rfl hd) rfl (fun σ1 => ?_)
      refine j_aload_n (pc' := 29) rfl rfl rfl ?_
      refine j_gfr (pc' := 32) (x := 25) rfl rfl j_a22 rfl rfl ?_
      refine j_iload (pc' := 34) rfl rfl rfl ?_
      refine j_iald (pc' := 35) rfl rfl j_a25 ?_
      refine j_q1 (Φl := (fun r Q => j_Tr true τ M_cX9_rashPoints d 54 [some (.ref 30), some (.ref 1), some (.ref 22), some (.ref 28), some (.int l4)] [] r Q)) ?_ (fun σ2 => ?_)
      · refine j_two (pT := 38) (pF := 54) (L1 := [some (.ref 30), some (.ref 1), some (.ref 22), some (.ref 28), some (.int l4)]) (st1 := []) (fun o kT kF => ?_) (fun h1 => ?_) (fun h1 => ?_)
        · refine j_ifeq (t := 54) (pc' := 38) rfl rfl rfl (fun h2 => ?_) (fun h2 => ?_)
          · exact kF (fun z => z h2)
          · exact kT h2
        · refine j_aload_n (pc' := 39) rfl rfl rfl ?_
          refine j_dup (pc' := 40) rfl rfl rfl ?_
          refine j_gfi (pc' := 43) rfl rfl j_a30 rfl ?_
          refine j_aload_n (pc' := 44) rfl rfl rfl ?_
          refine j_gfr (pc' := 47) (x := 32) rfl rfl j_a30 rfl rfl ?_
          refine j_iload (pc' := 49) rfl rfl rfl ?_
          refine j_iald (pc' := 50) rfl rfl j_a32 ?_
          refine j_iadd (pc' := 51) rfl rfl ?_
          refine j_pfi (pc' := 54) rfl rfl j_a30 rfl rfl (fun σ3 => ?_)
          exact j_end (fun _ h => h)
        · exact j_end (fun _ h => h)
      show j_J true τ M_cX9_rashPoints d 54 [some (.ref 30), some (.ref 1), some (.ref 22), some (.ref 28), some (.int l4)] [] σ2 _ _
      refine j_iincx (pc' := 57) (y := (1 : Int32)) (L' := [some (.ref 30), some (.ref 1), some (.ref 22), some (.ref 28), some (.int (l4 + (1 : Int32)))]) rfl rfl rfl rfl rfl ?_
      refine j_goto (t := 9) rfl rfl ?_
      exact ih (l4 + (1 : Int32)) σ2
    · refine j_wk [true, false, false, false, false] (L' := [some (.ref 30), none, none, none, none]) rfl ?_
      exact j_end (fun _ h => h)

theorem c_X9_rashPoints (σ : j_G) : j_K true 4 101 [.ref 30, .ref 1, .ref 22, .ref 28] σ (f_X9_rashPoints σ) j_Ri := by
  refine j_mkK (M := M_cX9_rashPoints) (L := [some (.ref 30), some (.ref 1), some (.ref 22), some (.ref 28), none]) (m := 1) t_101 rfl (j_rcvO j_a30 rfl) rfl (fun d hd τ => ?_)
  unfold f_X9_rashPoints
  refine j_aload_n (pc' := 1) rfl rfl rfl ?_
  refine j_aload_n (pc' := 2) rfl rfl rfl ?_
  refine j_aload_n (pc' := 3) rfl rfl rfl ?_
  refine j_callRv (pc' := 6) (ai := 102) (vs := [.ref 30, .ref 22, .ref 28]) (rest := []) rfl rfl (fun _ _ => rfl) (c_X9_begin_30_22_28  σ) (j_dd rfl hd) rfl (fun σ1 => ?_)
  refine j_iconst (pc' := 7) (x := (0 : Int32)) rfl rfl rfl ?_
  refine j_istore (pc' := 9) (L' := [some (.ref 30), some (.ref 1), some (.ref 22), some (.ref 28), some (.int (0 : Int32))]) rfl rfl rfl ?_
  refine j_q1 (l_X9_rashPoints_9 hd τ j_F (0 : Int32) σ1) (fun σ2 => ?_)
  show j_J true τ M_cX9_rashPoints d 60 [some (.ref 30), none, none, none, none] [] σ2 _ _
  refine j_bipush (pc' := 62) (x := (10 : Int32)) rfl rfl rfl ?_
  refine j_aload_n (pc' := 63) rfl rfl rfl ?_
  refine j_gfi (pc' := 66) rfl rfl j_a30 rfl ?_
  refine j_aload_n (pc' := 67) rfl rfl rfl ?_
  refine j_gfi (pc' := 70) rfl rfl j_a30 rfl ?_
  refine j_isub (pc' := 71) rfl rfl ?_
  refine j_imul (pc' := 72) rfl rfl ?_
  refine j_bipush (pc' := 74) (x := (20 : Int32)) rfl rfl rfl ?_
  refine j_aload_n (pc' := 75) rfl rfl rfl ?_
  refine j_gfi (pc' := 78) rfl rfl j_a30 rfl ?_
  refine j_imul (pc' := 79) rfl rfl ?_
  refine j_isub (pc' := 80) rfl rfl ?_
  exact j_ret rfl rfl rfl (fun _ h => h)

noncomputable def f_X11_rash (l1 : Int32) (σ : j_G) : Option (Int32 × j_G) :=
  j_b2 (f_X11_makeReady l1 σ) fun v2 σ1 =>
  if ¬ v2 = 0 then (j_b2 (f_X9_rashPoints σ1) fun v4 σ3 =>
  some (v4, σ3)) else (some ((-2000 : Int32), σ1))
theorem c_X11_rash (l1 : Int32) (σ : j_G) : j_K true 5 156 [.ref 0, .int l1] σ (f_X11_rash l1 σ) j_Ri := by
  refine j_mkK (M := M_cX11_rash) (L := [some (.ref 0), some (.int l1)]) (m := 0) t_156 rfl (j_rcvO j_a0 rfl) rfl (fun d hd τ => ?_)
  unfold f_X11_rash
  refine j_aload_n (pc' := 1) rfl rfl rfl ?_
  refine j_iload_n (pc' := 2) rfl rfl rfl ?_
  refine j_callRi (pc' := 5) (ai := 186) (vs := [.ref 0, .int l1]) (rest := []) rfl rfl (fun _ _ => rfl) (c_X11_makeReady l1 σ) (j_dd rfl hd) rfl (fun v2 σ1 => ?_)
  refine j_two (pT := 8) (pF := 30) (L1 := [some (.ref 0), some (.int l1)]) (st1 := []) (fun o kT kF => ?_) (fun h1 => ?_) (fun h1 => ?_)
  · refine j_ifeq (t := 30) (pc' := 8) rfl rfl rfl (fun h2 => ?_) (fun h2 => ?_)
    · exact kF (fun z => z h2)
    · exact kT h2
  · refine j_aload_n (pc' := 9) rfl rfl rfl ?_
    refine j_gfr (pc' := 12) (x := 30) rfl rfl j_a0 rfl rfl ?_
    refine j_aload_n (pc' := 13) rfl rfl rfl ?_
    refine j_gfr (pc' := 16) (x := 1) rfl rfl j_a0 rfl rfl ?_
    refine j_aload_n (pc' := 17) rfl rfl rfl ?_
    refine j_gfr (pc' := 20) (x := 22) rfl rfl j_a0 rfl rfl ?_
    refine j_aload_n (pc' := 21) rfl rfl rfl ?_
    refine j_gfr (pc' := 24) (x := 28) rfl rfl j_a0 rfl rfl ?_
    refine j_callRi (pc' := 27) (ai := 101) (vs := [.ref 30, .ref 1, .ref 22, .ref 28]) (rest := []) rfl rfl (fun _ _ => rfl) (c_X9_rashPoints  σ1) (j_dd rfl hd) rfl (fun v4 σ3 => ?_)
    refine j_goto (t := 33) rfl rfl ?_
    exact j_ret rfl rfl rfl (fun _ h => h)
  · refine j_sipush (pc' := 33) (x := (-2000 : Int32)) rfl rfl rfl ?_
    exact j_ret rfl rfl rfl (fun _ h => h)

noncomputable def f_X12_rashOf (l1 : Int32) (σ : j_G) : Option (Int32 × j_G) :=
  j_b1 (f_X12_asTold l1 σ) fun σ1 =>
  j_lt (j_si σ1 75 24 (1 : Int32)) fun σ2 =>
  j_b1 (f_X12_run σ2) fun σ3 =>
  some ((((10 : Int32) * ((σ3.1 75 29) - (σ3.1 75 30))) - ((20 : Int32) * (σ3.1 75 30))), σ3)
theorem c_X12_rashOf (l1 : Int32) (σ : j_G) : j_K false 5 313 [.ref 75, .int l1] σ (f_X12_rashOf l1 σ) j_Ri := by
  refine j_mkK (M := M_cX12_rashOf) (L := [some (.ref 75), some (.int l1)]) (m := 0) t_313 rfl (j_rcvO j_a75 rfl) rfl (fun d hd τ => ?_)
  unfold f_X12_rashOf
  refine j_aload_n (pc' := 1) rfl rfl rfl ?_
  refine j_iload_n (pc' := 2) rfl rfl rfl ?_
  refine j_callRv (pc' := 5) (ai := 252) (vs := [.ref 75, .int l1]) (rest := []) rfl rfl (fun _ _ => rfl) (c_X12_asTold l1 σ) (j_dd rfl hd) rfl (fun σ1 => ?_)
  refine j_aload_n (pc' := 6) rfl rfl rfl ?_
  refine j_iconst (pc' := 7) (x := (1 : Int32)) rfl rfl rfl ?_
  refine j_pfi (pc' := 10) rfl rfl j_a75 rfl rfl (fun σ2 => ?_)
  refine j_aload_n (pc' := 11) rfl rfl rfl ?_
  refine j_callRv (pc' := 14) (ai := 258) (vs := [.ref 75]) (rest := []) rfl rfl (fun _ _ => rfl) (c_X12_run  σ2) (j_dd rfl hd) rfl (fun σ3 => ?_)
  refine j_bipush (pc' := 16) (x := (10 : Int32)) rfl rfl rfl ?_
  refine j_aload_n (pc' := 17) rfl rfl rfl ?_
  refine j_gfi (pc' := 20) rfl rfl j_a75 rfl ?_
  refine j_aload_n (pc' := 21) rfl rfl rfl ?_
  refine j_gfi (pc' := 24) rfl rfl j_a75 rfl ?_
  refine j_isub (pc' := 25) rfl rfl ?_
  refine j_imul (pc' := 26) rfl rfl ?_
  refine j_bipush (pc' := 28) (x := (20 : Int32)) rfl rfl rfl ?_
  refine j_aload_n (pc' := 29) rfl rfl rfl ?_
  refine j_gfi (pc' := 32) rfl rfl j_a75 rfl ?_
  refine j_imul (pc' := 33) rfl rfl ?_
  refine j_isub (pc' := 34) rfl rfl ?_
  exact j_ret rfl rfl rfl (fun _ h => h)

noncomputable def f_X12_rash (l1 : Int32) (σ : j_G) : Option (Int32 × j_G) :=
  j_b1 (f_X12_isPlayer l1 σ) fun v1 =>
  if v1 = 0 then (some ((-2000 : Int32), σ)) else (j_b1 (f_X12_lay σ) fun σ2 =>
  j_b2 (f_X12_rashOf l1 σ2) fun v4 σ3 =>
  some (v4, σ3))
theorem c_X12_rash (l1 : Int32) (σ : j_G) : j_K false 6 314 [.ref 75, .int l1] σ (f_X12_rash l1 σ) j_Ri := by
  refine j_mkK (M := M_cX12_rash) (L := [some (.ref 75), some (.int l1)]) (m := 0) t_314 rfl (j_rcvO j_a75 rfl) rfl (fun d hd τ => ?_)
  unfold f_X12_rash
  refine j_aload_n (pc' := 1) rfl rfl rfl ?_
  refine j_iload_n (pc' := 2) rfl rfl rfl ?_
  refine j_callPi (pc' := 5) (ai := 205) (vs := [.ref 75, .int l1]) (rest := []) rfl rfl (fun _ _ => rfl) (c_X12_isPlayer l1 σ) (j_dd rfl hd) rfl (fun v1 => ?_)
  refine j_two (pT := 8) (pF := 12) (L1 := [some (.ref 75), some (.int l1)]) (st1 := []) (fun o kT kF => ?_) (fun h1 => ?_) (fun h1 => ?_)
  · refine j_ifne (t := 12) (pc' := 8) rfl rfl rfl (fun h2 => ?_) (fun h2 => ?_)
    · exact kF h2
    · exact kT h2
  · refine j_sipush (pc' := 11) (x := (-2000 : Int32)) rfl rfl rfl ?_
    exact j_ret rfl rfl rfl (fun _ h => h)
  · refine j_aload_n (pc' := 13) rfl rfl rfl ?_
    refine j_callRv (pc' := 16) (ai := 237) (vs := [.ref 75]) (rest := []) rfl rfl (fun _ _ => rfl) (c_X12_lay  σ) (j_dd rfl hd) rfl (fun σ2 => ?_)
    refine j_aload_n (pc' := 17) rfl rfl rfl ?_
    refine j_iload_n (pc' := 18) rfl rfl rfl ?_
    refine j_callRi (pc' := 21) (ai := 313) (vs := [.ref 75, .int l1]) (rest := []) rfl rfl (fun _ _ => rfl) (c_X12_rashOf l1 σ2) (j_dd rfl hd) rfl (fun v4 σ3 => ?_)
    exact j_ret rfl rfl rfl (fun _ h => h)

noncomputable def f_X11_lookPoints (l1 : Int32) (σ : j_G) : Option (Int32 × j_G) :=
  j_lt (j_si σ 28 1 l1) fun σ1 =>
  j_lt (j_si σ1 28 3 (0 : Int32)) fun σ2 =>
  j_b2 (f_X9_good 30 28 22 31 32 25 23 24 26 33 34 (-1 : Int32) σ2) fun v4 σ3 =>
  some (((10 : Int32) * v4), σ3)
theorem c_X11_lookPoints (l1 : Int32) (σ : j_G) : j_K true 5 190 [.ref 0, .int l1] σ (f_X11_lookPoints l1 σ) j_Ri := by
  refine j_mkK (M := M_cX11_lookPoints) (L := [some (.ref 0), some (.int l1)]) (m := 0) t_190 rfl (j_rcvO j_a0 rfl) rfl (fun d hd τ => ?_)
  unfold f_X11_lookPoints
  refine j_aload_n (pc' := 1) rfl rfl rfl ?_
  refine j_gfr (pc' := 4) (x := 28) rfl rfl j_a0 rfl rfl ?_
  refine j_iload_n (pc' := 5) rfl rfl rfl ?_
  refine j_pfi (pc' := 8) rfl rfl j_a28 rfl rfl (fun σ1 => ?_)
  refine j_aload_n (pc' := 9) rfl rfl rfl ?_
  refine j_gfr (pc' := 12) (x := 28) rfl rfl j_a0 rfl rfl ?_
  refine j_iconst (pc' := 13) (x := (0 : Int32)) rfl rfl rfl ?_
  refine j_pfi (pc' := 16) rfl rfl j_a28 rfl rfl (fun σ2 => ?_)
  refine j_bipush (pc' := 18) (x := (10 : Int32)) rfl rfl rfl ?_
  refine j_aload_n (pc' := 19) rfl rfl rfl ?_
  refine j_gfr (pc' := 22) (x := 30) rfl rfl j_a0 rfl rfl ?_
  refine j_aload_n (pc' := 23) rfl rfl rfl ?_
  refine j_gfr (pc' := 26) (x := 1) rfl rfl j_a0 rfl rfl ?_
  refine j_aload_n (pc' := 27) rfl rfl rfl ?_
  refine j_gfr (pc' := 30) (x := 22) rfl rfl j_a0 rfl rfl ?_
  refine j_aload_n (pc' := 31) rfl rfl rfl ?_
  refine j_gfr (pc' := 34) (x := 28) rfl rfl j_a0 rfl rfl ?_
  refine j_iconst (pc' := 35) (x := (-1 : Int32)) rfl rfl rfl ?_
  refine j_callRi (pc' := 38) (ai := 100) (vs := [.ref 30, .ref 1, .ref 22, .ref 28, .int (-1 : Int32)]) (rest := [.int (10 : Int32)]) rfl rfl (fun _ _ => rfl) (c_X9_good_30_1_22_28 (-1 : Int32) σ2) (j_dd rfl hd) rfl (fun v4 σ3 => ?_)
  refine j_imul (pc' := 39) rfl rfl ?_
  exact j_ret rfl rfl rfl (fun _ h => h)

noncomputable def f_X11_look (l1 : Int32) (l2 : Int32) (σ : j_G) : Option (Int32 × j_G) :=
  if (¬ l2 < 0) ∧ (¬ (20 : Int32) < l2) then (j_b2 (f_X11_makeReady l1 σ) fun v2 σ1 =>
  if v2 = 0 then (some ((-2000 : Int32), σ1)) else (j_b1 (f_X2_trait l1 (1 : Int32) σ1) fun v3 =>
  j_b2 (f_X11_lookPoints (v3 + l2) σ1) fun v5 σ4 =>
  some (v5, σ4))) else (some ((-2000 : Int32), σ))
theorem c_X11_look (l1 : Int32) (l2 : Int32) (σ : j_G) : j_K true 6 157 [.ref 0, .int l1, .int l2] σ (f_X11_look l1 l2 σ) j_Ri := by
  refine j_mkK (M := M_cX11_look) (L := [some (.ref 0), some (.int l1), some (.int l2)]) (m := 0) t_157 rfl (j_rcvO j_a0 rfl) rfl (fun d hd τ => ?_)
  unfold f_X11_look
  refine j_iload_n (pc' := 1) rfl rfl rfl ?_
  refine j_two (pT := 10) (pF := 18) (L1 := [some (.ref 0), some (.int l1), some (.int l2)]) (st1 := []) (fun o kT kF => ?_) (fun h3 => ?_) (fun h3 => ?_)
  · refine j_iflt (t := 18) (pc' := 4) rfl rfl rfl (fun h4 => ?_) (fun h4 => ?_)
    · exact kF (fun z => z.1 h4)
    · refine j_iload_n (pc' := 5) rfl rfl rfl ?_
      refine j_bipush (pc' := 7) (x := (20 : Int32)) rfl rfl rfl ?_
      refine j_icgt (t := 18) (pc' := 10) rfl rfl rfl (fun h5 => ?_) (fun h5 => ?_)
      · exact kF (fun z => (fun z => z h5) z.2)
      · exact kT (⟨h4, h5⟩)
  · refine j_aload_n (pc' := 11) rfl rfl rfl ?_
    refine j_iload_n (pc' := 12) rfl rfl rfl ?_
    refine j_callRi (pc' := 15) (ai := 186) (vs := [.ref 0, .int l1]) (rest := []) rfl rfl (fun _ _ => rfl) (c_X11_makeReady l1 σ) (j_dd rfl hd) rfl (fun v2 σ1 => ?_)
    refine j_two (pT := 18) (pF := 22) (L1 := [some (.ref 0), some (.int l1), some (.int l2)]) (st1 := []) (fun o kT kF => ?_) (fun h1 => ?_) (fun h1 => ?_)
    · refine j_ifne (t := 22) (pc' := 18) rfl rfl rfl (fun h2 => ?_) (fun h2 => ?_)
      · exact kF h2
      · exact kT h2
    · refine j_sipush (pc' := 21) (x := (-2000 : Int32)) rfl rfl rfl ?_
      exact j_ret rfl rfl rfl (fun _ h => h)
    · refine j_aload_n (pc' := 23) rfl rfl rfl ?_
      refine j_aload_n (pc' := 24) rfl rfl rfl ?_
      refine j_gfr (pc' := 27) (x := 1) rfl rfl j_a0 rfl rfl ?_
      refine j_iload_n (pc' := 28) rfl rfl rfl ?_
      refine j_iconst (pc' := 29) (x := (1 : Int32)) rfl rfl rfl ?_
      refine j_callPi (pc' := 32) (ai := 24) (vs := [.ref 1, .int l1, .int (1 : Int32)]) (rest := [.ref 0]) rfl rfl (fun _ _ => rfl) (c_X2_trait l1 (1 : Int32) σ1) (j_dd rfl hd) rfl (fun v3 => ?_)
      refine j_iload_n (pc' := 33) rfl rfl rfl ?_
      refine j_iadd (pc' := 34) rfl rfl ?_
      refine j_callRi (pc' := 37) (ai := 190) (vs := [.ref 0, .int (v3 + l2)]) (rest := []) rfl rfl (fun _ _ => rfl) (c_X11_lookPoints (v3 + l2) σ1) (j_dd rfl hd) rfl (fun v5 σ4 => ?_)
      exact j_ret rfl rfl rfl (fun _ h => h)
  · refine j_sipush (pc' := 21) (x := (-2000 : Int32)) rfl rfl rfl ?_
    exact j_ret rfl rfl rfl (fun _ h => h)

noncomputable def f_X12_lookOf (l1 : Int32) (l2 : Int32) (σ : j_G) : Option (Int32 × j_G) :=
  j_b1 (f_X12_asTold l1 σ) fun σ1 =>
  j_lt (j_si σ1 75 20 ((σ1.1 75 20) + l2)) fun σ2 =>
  j_lt (j_si σ2 75 21 (0 : Int32)) fun σ3 =>
  j_b1 (f_X12_run σ3) fun σ4 =>
  some (((10 : Int32) * (σ4.1 75 29)), σ4)
theorem c_X12_lookOf (l1 : Int32) (l2 : Int32) (σ : j_G) : j_K false 5 315 [.ref 75, .int l1, .int l2] σ (f_X12_lookOf l1 l2 σ) j_Ri := by
  refine j_mkK (M := M_cX12_lookOf) (L := [some (.ref 75), some (.int l1), some (.int l2)]) (m := 0) t_315 rfl (j_rcvO j_a75 rfl) rfl (fun d hd τ => ?_)
  unfold f_X12_lookOf
  refine j_aload_n (pc' := 1) rfl rfl rfl ?_
  refine j_iload_n (pc' := 2) rfl rfl rfl ?_
  refine j_callRv (pc' := 5) (ai := 252) (vs := [.ref 75, .int l1]) (rest := []) rfl rfl (fun _ _ => rfl) (c_X12_asTold l1 σ) (j_dd rfl hd) rfl (fun σ1 => ?_)
  refine j_aload_n (pc' := 6) rfl rfl rfl ?_
  refine j_dup (pc' := 7) rfl rfl rfl ?_
  refine j_gfi (pc' := 10) rfl rfl j_a75 rfl ?_
  refine j_iload_n (pc' := 11) rfl rfl rfl ?_
  refine j_iadd (pc' := 12) rfl rfl ?_
  refine j_pfi (pc' := 15) rfl rfl j_a75 rfl rfl (fun σ2 => ?_)
  refine j_aload_n (pc' := 16) rfl rfl rfl ?_
  refine j_iconst (pc' := 17) (x := (0 : Int32)) rfl rfl rfl ?_
  refine j_pfi (pc' := 20) rfl rfl j_a75 rfl rfl (fun σ3 => ?_)
  refine j_aload_n (pc' := 21) rfl rfl rfl ?_
  refine j_callRv (pc' := 24) (ai := 258) (vs := [.ref 75]) (rest := []) rfl rfl (fun _ _ => rfl) (c_X12_run  σ3) (j_dd rfl hd) rfl (fun σ4 => ?_)
  refine j_bipush (pc' := 26) (x := (10 : Int32)) rfl rfl rfl ?_
  refine j_aload_n (pc' := 27) rfl rfl rfl ?_
  refine j_gfi (pc' := 30) rfl rfl j_a75 rfl ?_
  refine j_imul (pc' := 31) rfl rfl ?_
  exact j_ret rfl rfl rfl (fun _ h => h)

noncomputable def f_X12_look (l1 : Int32) (l2 : Int32) (σ : j_G) : Option (Int32 × j_G) :=
  j_b1 (f_X12_isPlayer l1 σ) fun v1 =>
  if (v1 = 0) ∨ ((f_X12_in (l2).toInt64 (0 : Int64) (20 : Int64)) = 0) then (some ((-2000 : Int32), σ)) else (j_b1 (f_X12_lay σ) fun σ2 =>
  j_b2 (f_X12_lookOf l1 l2 σ2) fun v4 σ3 =>
  some (v4, σ3))
theorem c_X12_look (l1 : Int32) (l2 : Int32) (σ : j_G) : j_K false 6 316 [.ref 75, .int l1, .int l2] σ (f_X12_look l1 l2 σ) j_Ri := by
  refine j_mkK (M := M_cX12_look) (L := [some (.ref 75), some (.int l1), some (.int l2)]) (m := 0) t_316 rfl (j_rcvO j_a75 rfl) rfl (fun d hd τ => ?_)
  unfold f_X12_look
  refine j_aload_n (pc' := 1) rfl rfl rfl ?_
  refine j_iload_n (pc' := 2) rfl rfl rfl ?_
  refine j_callPi (pc' := 5) (ai := 205) (vs := [.ref 75, .int l1]) (rest := []) rfl rfl (fun _ _ => rfl) (c_X12_isPlayer l1 σ) (j_dd rfl hd) rfl (fun v1 => ?_)
  refine j_two (pT := 20) (pF := 24) (L1 := [some (.ref 75), some (.int l1), some (.int l2)]) (st1 := []) (fun o kT kF => ?_) (fun h1 => ?_) (fun h1 => ?_)
  · refine j_ifeq (t := 20) (pc' := 8) rfl rfl rfl (fun h2 => ?_) (fun h2 => ?_)
    · exact kT (Or.inl h2)
    · refine j_iload_n (pc' := 9) rfl rfl rfl ?_
      refine j_i2l (pc' := 10) rfl rfl ?_
      refine j_lconst (pc' := 11) (x := (0 : Int64)) rfl rfl rfl ?_
      refine j_ldc2_w (pc' := 14) (x := (20 : Int64)) rfl rfl rfl ?_
      refine j_callTi (pc' := 17) (ai := 196) (vs := [.long (l2).toInt64, .long (0 : Int64), .long (20 : Int64)]) (rest := []) rfl rfl (fun _ _ => rfl) (c_X12_in (l2).toInt64 (0 : Int64) (20 : Int64) σ) (j_dd rfl hd) rfl ?_
      refine j_ifne (t := 24) (pc' := 20) rfl rfl rfl (fun h3 => ?_) (fun h3 => ?_)
      · exact kF (fun z => z.elim h2 (h3))
      · exact kT (Or.inr (h3))
  · refine j_sipush (pc' := 23) (x := (-2000 : Int32)) rfl rfl rfl ?_
    exact j_ret rfl rfl rfl (fun _ h => h)
  · refine j_aload_n (pc' := 25) rfl rfl rfl ?_
    refine j_callRv (pc' := 28) (ai := 237) (vs := [.ref 75]) (rest := []) rfl rfl (fun _ _ => rfl) (c_X12_lay  σ) (j_dd rfl hd) rfl (fun σ2 => ?_)
    refine j_aload_n (pc' := 29) rfl rfl rfl ?_
    refine j_iload_n (pc' := 30) rfl rfl rfl ?_
    refine j_iload_n (pc' := 31) rfl rfl rfl ?_
    refine j_callRi (pc' := 34) (ai := 315) (vs := [.ref 75, .int l1, .int l2]) (rest := []) rfl rfl (fun _ _ => rfl) (c_X12_lookOf l1 l2 σ2) (j_dd rfl hd) rfl (fun v4 σ3 => ?_)
    exact j_ret rfl rfl rfl (fun _ h => h)

noncomputable def p_X11_line_45 (l2 : Int32) (l3 : Int32) : Nat → Int32 → j_G → Option (Int32 × j_G)
  | 0, _, _ => none
  | n + 1, l4, σ =>
    if ¬ l4 < 0 then (j_b2 (f_X11_lookPoints (l3 + l4) σ) fun v2 σ1 =>
    if ¬ v2 < l2 then (some (l4, σ1)) else (p_X11_line_45 l2 l3 n (l4 + (-1 : Int32)) σ1)) else (some ((-1 : Int32), σ))

noncomputable def f_X11_line (l1 : Int32) (σ : j_G) : Option (Int32 × j_G) :=
  j_b2 (f_X11_makeReady l1 σ) fun v2 σ1 =>
  if v2 = 0 then (some ((-2 : Int32), σ1)) else (j_b2 (f_X9_rashPoints σ1) fun v4 σ3 =>
  j_b1 (f_X2_trait l1 (1 : Int32) σ3) fun v5 =>
  p_X11_line_45 v4 v5 j_F (20 : Int32) σ3)
theorem l_X11_line_45 {d : Nat} (hd : 6 ≤ d) (τ : j_G) (l2 : Int32) (l3 : Int32) : ∀ (n : Nat) (l4 : Int32) (σ : j_G), j_J true τ M_cX11_line d 45 [some (.ref 0), none, some (.int l2), some (.int l3), some (.int l4)] [] σ (p_X11_line_45 l2 l3 n l4 σ) j_Ri := by
  intro n
  induction n with
  | zero => intro l4 σ; exact j_none
  | succ n ih =>
    intro l4 σ
    unfold p_X11_line_45
    refine j_iload (pc' := 47) rfl rfl rfl ?_
    refine j_two (pT := 50) (pF := 71) (L1 := [some (.ref 0), none, some (.int l2), some (.int l3), some (.int l4)]) (st1 := []) (fun o kT kF => ?_) (fun h3 => ?_) (fun h3 => ?_)
    · refine j_iflt (t := 71) (pc' := 50) rfl rfl rfl (fun h4 => ?_) (fun h4 => ?_)
      · exact kF (fun z => z h4)
      · exact kT h4
    · refine j_aload_n (pc' := 51) rfl rfl rfl ?_
      refine j_iload_n (pc' := 52) rfl rfl rfl ?_
      refine j_iload (pc' := 54) rfl rfl rfl ?_
      refine j_iadd (pc' := 55) rfl rfl ?_
      refine j_callRi (pc' := 58) (ai := 190) (vs := [.ref 0, .int (l3 + l4)]) (rest := []) rfl rfl (fun _ _ => rfl) (c_X11_lookPoints (l3 + l4) σ) (j_dd rfl hd) rfl (fun v2 σ1 => ?_)
      refine j_iload_n (pc' := 59) rfl rfl rfl ?_
      refine j_two (pT := 62) (pF := 65) (L1 := [some (.ref 0), none, some (.int l2), some (.int l3), some (.int l4)]) (st1 := []) (fun o kT kF => ?_) (fun h1 => ?_) (fun h1 => ?_)
      · refine j_iclt (t := 65) (pc' := 62) rfl rfl rfl (fun h2 => ?_) (fun h2 => ?_)
        · exact kF (fun z => z h2)
        · exact kT h2
      · refine j_iload (pc' := 64) rfl rfl rfl ?_
        exact j_ret rfl rfl rfl (fun _ h => h)
      · refine j_iincx (pc' := 68) (y := (-1 : Int32)) (L' := [some (.ref 0), none, some (.int l2), some (.int l3), some (.int (l4 + (-1 : Int32)))]) rfl rfl rfl rfl rfl ?_
        refine j_goto (t := 45) rfl rfl ?_
        exact ih (l4 + (-1 : Int32)) σ1
    · refine j_iconst (pc' := 72) (x := (-1 : Int32)) rfl rfl rfl ?_
      exact j_ret rfl rfl rfl (fun _ h => h)

theorem c_X11_line (l1 : Int32) (σ : j_G) : j_K true 6 158 [.ref 0, .int l1] σ (f_X11_line l1 σ) j_Ri := by
  refine j_mkK (M := M_cX11_line) (L := [some (.ref 0), some (.int l1), none, none, none]) (m := 3) t_158 rfl (j_rcvO j_a0 rfl) rfl (fun d hd τ => ?_)
  unfold f_X11_line
  refine j_aload_n (pc' := 1) rfl rfl rfl ?_
  refine j_iload_n (pc' := 2) rfl rfl rfl ?_
  refine j_callRi (pc' := 5) (ai := 186) (vs := [.ref 0, .int l1]) (rest := []) rfl rfl (fun _ _ => rfl) (c_X11_makeReady l1 σ) (j_dd rfl hd) rfl (fun v2 σ1 => ?_)
  refine j_two (pT := 8) (pF := 11) (L1 := [some (.ref 0), some (.int l1), none, none, none]) (st1 := []) (fun o kT kF => ?_) (fun h1 => ?_) (fun h1 => ?_)
  · refine j_ifne (t := 11) (pc' := 8) rfl rfl rfl (fun h2 => ?_) (fun h2 => ?_)
    · exact kF h2
    · exact kT h2
  · refine j_bipush (pc' := 10) (x := (-2 : Int32)) rfl rfl rfl ?_
    exact j_ret rfl rfl rfl (fun _ h => h)
  · refine j_aload_n (pc' := 12) rfl rfl rfl ?_
    refine j_gfr (pc' := 15) (x := 30) rfl rfl j_a0 rfl rfl ?_
    refine j_aload_n (pc' := 16) rfl rfl rfl ?_
    refine j_gfr (pc' := 19) (x := 1) rfl rfl j_a0 rfl rfl ?_
    refine j_aload_n (pc' := 20) rfl rfl rfl ?_
    refine j_gfr (pc' := 23) (x := 22) rfl rfl j_a0 rfl rfl ?_
    refine j_aload_n (pc' := 24) rfl rfl rfl ?_
    refine j_gfr (pc' := 27) (x := 28) rfl rfl j_a0 rfl rfl ?_
    refine j_callRi (pc' := 30) (ai := 101) (vs := [.ref 30, .ref 1, .ref 22, .ref 28]) (rest := []) rfl rfl (fun _ _ => rfl) (c_X9_rashPoints  σ1) (j_dd rfl hd) rfl (fun v4 σ3 => ?_)
    refine j_istore_n (pc' := 31) (L' := [some (.ref 0), some (.int l1), some (.int v4), none, none]) rfl rfl rfl ?_
    refine j_aload_n (pc' := 32) rfl rfl rfl ?_
    refine j_gfr (pc' := 35) (x := 1) rfl rfl j_a0 rfl rfl ?_
    refine j_iload_n (pc' := 36) rfl rfl rfl ?_
    refine j_iconst (pc' := 37) (x := (1 : Int32)) rfl rfl rfl ?_
    refine j_callPi (pc' := 40) (ai := 24) (vs := [.ref 1, .int l1, .int (1 : Int32)]) (rest := []) rfl rfl (fun _ _ => rfl) (c_X2_trait l1 (1 : Int32) σ3) (j_dd rfl hd) rfl (fun v5 => ?_)
    refine j_istore_n (pc' := 41) (L' := [some (.ref 0), some (.int l1), some (.int v4), some (.int v5), none]) rfl rfl rfl ?_
    refine j_bipush (pc' := 43) (x := (20 : Int32)) rfl rfl rfl ?_
    refine j_istore (pc' := 45) (L' := [some (.ref 0), some (.int l1), some (.int v4), some (.int v5), some (.int (20 : Int32))]) rfl rfl rfl ?_
    refine j_wk [true, false, true, true, true] (L' := [some (.ref 0), none, some (.int v4), some (.int v5), some (.int (20 : Int32))]) rfl ?_
    exact (l_X11_line_45 hd τ v4 v5 j_F (20 : Int32) σ3)

noncomputable def p_X12_line_24 (l1 : Int32) (l2 : Int32) : Nat → Int32 → j_G → Option (Int32 × j_G)
  | 0, _, _ => none
  | n + 1, l3, σ =>
    if ¬ l3 < 0 then (j_b2 (f_X12_lookOf l1 l3 σ) fun v2 σ1 =>
    if ¬ v2 < l2 then (some (l3, σ1)) else (p_X12_line_24 l1 l2 n (l3 + (-1 : Int32)) σ1)) else (some ((-1 : Int32), σ))

noncomputable def f_X12_line (l1 : Int32) (σ : j_G) : Option (Int32 × j_G) :=
  j_b1 (f_X12_isPlayer l1 σ) fun v1 =>
  if v1 = 0 then (some ((-2 : Int32), σ)) else (j_b1 (f_X12_lay σ) fun σ2 =>
  j_b2 (f_X12_rashOf l1 σ2) fun v4 σ3 =>
  p_X12_line_24 l1 v4 j_F (20 : Int32) σ3)
theorem l_X12_line_24 {d : Nat} (hd : 6 ≤ d) (τ : j_G) (l1 : Int32) (l2 : Int32) : ∀ (n : Nat) (l3 : Int32) (σ : j_G), j_J false τ M_cX12_line d 24 [some (.ref 75), some (.int l1), some (.int l2), some (.int l3)] [] σ (p_X12_line_24 l1 l2 n l3 σ) j_Ri := by
  intro n
  induction n with
  | zero => intro l3 σ; exact j_none
  | succ n ih =>
    intro l3 σ
    unfold p_X12_line_24
    refine j_iload_n (pc' := 25) rfl rfl rfl ?_
    refine j_two (pT := 28) (pF := 46) (L1 := [some (.ref 75), some (.int l1), some (.int l2), some (.int l3)]) (st1 := []) (fun o kT kF => ?_) (fun h3 => ?_) (fun h3 => ?_)
    · refine j_iflt (t := 46) (pc' := 28) rfl rfl rfl (fun h4 => ?_) (fun h4 => ?_)
      · exact kF (fun z => z h4)
      · exact kT h4
    · refine j_aload_n (pc' := 29) rfl rfl rfl ?_
      refine j_iload_n (pc' := 30) rfl rfl rfl ?_
      refine j_iload_n (pc' := 31) rfl rfl rfl ?_
      refine j_callRi (pc' := 34) (ai := 315) (vs := [.ref 75, .int l1, .int l3]) (rest := []) rfl rfl (fun _ _ => rfl) (c_X12_lookOf l1 l3 σ) (j_dd rfl hd) rfl (fun v2 σ1 => ?_)
      refine j_iload_n (pc' := 35) rfl rfl rfl ?_
      refine j_two (pT := 38) (pF := 40) (L1 := [some (.ref 75), some (.int l1), some (.int l2), some (.int l3)]) (st1 := []) (fun o kT kF => ?_) (fun h1 => ?_) (fun h1 => ?_)
      · refine j_iclt (t := 40) (pc' := 38) rfl rfl rfl (fun h2 => ?_) (fun h2 => ?_)
        · exact kF (fun z => z h2)
        · exact kT h2
      · refine j_iload_n (pc' := 39) rfl rfl rfl ?_
        exact j_ret rfl rfl rfl (fun _ h => h)
      · refine j_iincx (pc' := 43) (y := (-1 : Int32)) (L' := [some (.ref 75), some (.int l1), some (.int l2), some (.int (l3 + (-1 : Int32)))]) rfl rfl rfl rfl rfl ?_
        refine j_goto (t := 24) rfl rfl ?_
        exact ih (l3 + (-1 : Int32)) σ1
    · refine j_iconst (pc' := 47) (x := (-1 : Int32)) rfl rfl rfl ?_
      exact j_ret rfl rfl rfl (fun _ h => h)

theorem c_X12_line (l1 : Int32) (σ : j_G) : j_K false 6 317 [.ref 75, .int l1] σ (f_X12_line l1 σ) j_Ri := by
  refine j_mkK (M := M_cX12_line) (L := [some (.ref 75), some (.int l1), none, none]) (m := 2) t_317 rfl (j_rcvO j_a75 rfl) rfl (fun d hd τ => ?_)
  unfold f_X12_line
  refine j_aload_n (pc' := 1) rfl rfl rfl ?_
  refine j_iload_n (pc' := 2) rfl rfl rfl ?_
  refine j_callPi (pc' := 5) (ai := 205) (vs := [.ref 75, .int l1]) (rest := []) rfl rfl (fun _ _ => rfl) (c_X12_isPlayer l1 σ) (j_dd rfl hd) rfl (fun v1 => ?_)
  refine j_two (pT := 8) (pF := 11) (L1 := [some (.ref 75), some (.int l1), none, none]) (st1 := []) (fun o kT kF => ?_) (fun h1 => ?_) (fun h1 => ?_)
  · refine j_ifne (t := 11) (pc' := 8) rfl rfl rfl (fun h2 => ?_) (fun h2 => ?_)
    · exact kF h2
    · exact kT h2
  · refine j_bipush (pc' := 10) (x := (-2 : Int32)) rfl rfl rfl ?_
    exact j_ret rfl rfl rfl (fun _ h => h)
  · refine j_aload_n (pc' := 12) rfl rfl rfl ?_
    refine j_callRv (pc' := 15) (ai := 237) (vs := [.ref 75]) (rest := []) rfl rfl (fun _ _ => rfl) (c_X12_lay  σ) (j_dd rfl hd) rfl (fun σ2 => ?_)
    refine j_aload_n (pc' := 16) rfl rfl rfl ?_
    refine j_iload_n (pc' := 17) rfl rfl rfl ?_
    refine j_callRi (pc' := 20) (ai := 313) (vs := [.ref 75, .int l1]) (rest := []) rfl rfl (fun _ _ => rfl) (c_X12_rashOf l1 σ2) (j_dd rfl hd) rfl (fun v4 σ3 => ?_)
    refine j_istore_n (pc' := 21) (L' := [some (.ref 75), some (.int l1), some (.int v4), none]) rfl rfl rfl ?_
    refine j_bipush (pc' := 23) (x := (20 : Int32)) rfl rfl rfl ?_
    refine j_istore_n (pc' := 24) (L' := [some (.ref 75), some (.int l1), some (.int v4), some (.int (20 : Int32))]) rfl rfl rfl ?_
    exact (l_X12_line_24 hd τ l1 v4 j_F (20 : Int32) σ3)

theorem c_X6_take_29_1 (l2 : Int32) (σ : j_G) : j_K true 1 64 [.ref 29, .ref 1, .int l2] σ (f_X6_take 29 l2 σ) j_Rv := by
  refine j_mkK (M := M_cX6_take) (L := [some (.ref 29), some (.ref 1), some (.int l2)]) (m := 0) t_64 rfl (j_rcvO j_a29 rfl) rfl (fun d hd τ => ?_)
  unfold f_X6_take
  refine j_aload_n (pc' := 1) rfl rfl rfl ?_
  refine j_aload_n (pc' := 2) rfl rfl rfl ?_
  refine j_iload_n (pc' := 3) rfl rfl rfl ?_
  refine j_iconst (pc' := 4) (x := (0 : Int32)) rfl rfl rfl ?_
  refine j_callPi (pc' := 7) (ai := 24) (vs := [.ref 1, .int l2, .int (0 : Int32)]) (rest := [.ref 29]) rfl rfl (fun _ _ => rfl) (c_X2_trait l2 (0 : Int32) σ) (j_dd rfl hd) rfl (fun v1 => ?_)
  refine j_pfi (pc' := 10) rfl rfl j_a29 rfl rfl (fun σ2 => ?_)
  refine j_aload_n (pc' := 11) rfl rfl rfl ?_
  refine j_aload_n (pc' := 12) rfl rfl rfl ?_
  refine j_iload_n (pc' := 13) rfl rfl rfl ?_
  refine j_iconst (pc' := 14) (x := (1 : Int32)) rfl rfl rfl ?_
  refine j_callPi (pc' := 17) (ai := 24) (vs := [.ref 1, .int l2, .int (1 : Int32)]) (rest := [.ref 29]) rfl rfl (fun _ _ => rfl) (c_X2_trait l2 (1 : Int32) σ2) (j_dd rfl hd) rfl (fun v3 => ?_)
  refine j_pfi (pc' := 20) rfl rfl j_a29 rfl rfl (fun σ4 => ?_)
  refine j_aload_n (pc' := 21) rfl rfl rfl ?_
  refine j_aload_n (pc' := 22) rfl rfl rfl ?_
  refine j_iload_n (pc' := 23) rfl rfl rfl ?_
  refine j_iconst (pc' := 24) (x := (2 : Int32)) rfl rfl rfl ?_
  refine j_callPi (pc' := 27) (ai := 24) (vs := [.ref 1, .int l2, .int (2 : Int32)]) (rest := [.ref 29]) rfl rfl (fun _ _ => rfl) (c_X2_trait l2 (2 : Int32) σ4) (j_dd rfl hd) rfl (fun v5 => ?_)
  refine j_pfi (pc' := 30) rfl rfl j_a29 rfl rfl (fun σ6 => ?_)
  refine j_aload_n (pc' := 31) rfl rfl rfl ?_
  refine j_aload_n (pc' := 32) rfl rfl rfl ?_
  refine j_iload_n (pc' := 33) rfl rfl rfl ?_
  refine j_iconst (pc' := 34) (x := (3 : Int32)) rfl rfl rfl ?_
  refine j_callPi (pc' := 37) (ai := 24) (vs := [.ref 1, .int l2, .int (3 : Int32)]) (rest := [.ref 29]) rfl rfl (fun _ _ => rfl) (c_X2_trait l2 (3 : Int32) σ6) (j_dd rfl hd) rfl (fun v7 => ?_)
  refine j_pfi (pc' := 40) rfl rfl j_a29 rfl rfl (fun σ8 => ?_)
  refine j_aload_n (pc' := 41) rfl rfl rfl ?_
  refine j_aload_n (pc' := 42) rfl rfl rfl ?_
  refine j_iload_n (pc' := 43) rfl rfl rfl ?_
  refine j_iconst (pc' := 44) (x := (4 : Int32)) rfl rfl rfl ?_
  refine j_callPi (pc' := 47) (ai := 24) (vs := [.ref 1, .int l2, .int (4 : Int32)]) (rest := [.ref 29]) rfl rfl (fun _ _ => rfl) (c_X2_trait l2 (4 : Int32) σ8) (j_dd rfl hd) rfl (fun v9 => ?_)
  refine j_pfi (pc' := 50) rfl rfl j_a29 rfl rfl (fun σ10 => ?_)
  exact j_ret rfl rfl rfl (fun _ h => h)

noncomputable def p_X4_goodHoles_4 (σ : j_G) : Nat → Int32 → Int32 → Option Int32
  | 0, _, _ => none
  | n + 1, l1, l2 =>
    if l2 < (σ.1 22 0) then (j_ix l2 60 (
    j_b1 (if (σ.1 25 (l2).toNatClampNeg) = 0 then (j_b1 (f_X4_holesOf l2 σ) fun v2 =>
    j_lt (l1 ||| v2) fun v3 =>
    some v3) else (some l1)) fun v1 =>
    p_X4_goodHoles_4 σ n v1 (l2 + (1 : Int32)))) else (some l1)

noncomputable def f_X4_goodHoles (σ : j_G) : Option Int32 :=
  j_b1 (p_X4_goodHoles_4 σ j_F (0 : Int32) (0 : Int32)) fun v1 =>
  some v1
theorem l_X4_goodHoles_4 {d : Nat} (hd : 2 ≤ d) (τ : j_G) (σ : j_G) : ∀ (n : Nat) (l1 : Int32) (l2 : Int32), j_J true τ M_cX4_goodHoles d 4 [some (.ref 22), some (.int l1), some (.int l2)] [] σ (p_X4_goodHoles_4 σ n l1 l2) (fun r Q => j_Tr true τ M_cX4_goodHoles d 35 [none, some (.int r), none] [] σ Q) := by
  intro n
  induction n with
  | zero => intro l1 l2; exact j_none
  | succ n ih =>
    intro l1 l2
    unfold p_X4_goodHoles_4
    refine j_iload_n (pc' := 5) rfl rfl rfl ?_
    refine j_aload_n (pc' := 6) rfl rfl rfl ?_
    refine j_gfi (pc' := 9) rfl rfl j_a22 rfl ?_
    refine j_two (pT := 12) (pF := 35) (L1 := [some (.ref 22), some (.int l1), some (.int l2)]) (st1 := []) (fun o kT kF => ?_) (fun h3 => ?_) (fun h3 => ?_)
    · refine j_icge (t := 35) (pc' := 12) rfl rfl rfl (fun h4 => ?_) (fun h4 => ?_)
      · exact kF h4
      · exact kT h4
    · refine j_aload_n (pc' := 13) rfl rfl rfl ?_
      refine j_gfr (pc' := 16) (x := 25) rfl rfl j_a22 rfl rfl ?_
      refine j_iload_n (pc' := 17) rfl rfl rfl ?_
      refine j_iald (pc' := 18) rfl rfl j_a25 ?_
      refine j_q1 (Φl := (fun r Q => j_Tr true τ M_cX4_goodHoles d 29 [some (.ref 22), some (.int r), some (.int l2)] [] σ Q)) ?_ (fun v1 => ?_)
      · refine j_two (pT := 21) (pF := 29) (L1 := [some (.ref 22), some (.int l1), some (.int l2)]) (st1 := []) (fun o kT kF => ?_) (fun h1 => ?_) (fun h1 => ?_)
        · refine j_ifne (t := 29) (pc' := 21) rfl rfl rfl (fun h2 => ?_) (fun h2 => ?_)
          · exact kF h2
          · exact kT h2
        · refine j_iload_n (pc' := 22) rfl rfl rfl ?_
          refine j_aload_n (pc' := 23) rfl rfl rfl ?_
          refine j_iload_n (pc' := 24) rfl rfl rfl ?_
          refine j_callPi (pc' := 27) (ai := 49) (vs := [.ref 22, .int l2]) (rest := [.int l1]) rfl rfl (fun _ _ => rfl) (c_X4_holesOf l2 σ) (j_dd rfl hd) rfl (fun v2 => ?_)
          refine j_ior (pc' := 28) rfl rfl ?_
          refine j_leti (fun v3 => ?_)
          refine j_istore_n (pc' := 29) (L' := [some (.ref 22), some (.int v3), some (.int l2)]) rfl rfl rfl ?_
          exact j_end (fun _ h => h)
        · exact j_end (fun _ h => h)
      show j_J true τ M_cX4_goodHoles d 29 [some (.ref 22), some (.int v1), some (.int l2)] [] σ _ _
      refine j_iincx (pc' := 32) (y := (1 : Int32)) (L' := [some (.ref 22), some (.int v1), some (.int (l2 + (1 : Int32)))]) rfl rfl rfl rfl rfl ?_
      refine j_goto (t := 4) rfl rfl ?_
      exact ih v1 (l2 + (1 : Int32))
    · refine j_wk [false, true, false] (L' := [none, some (.int l1), none]) rfl ?_
      exact j_end (fun _ h => h)

theorem c_X4_goodHoles (σ : j_G) : j_K true 2 50 [.ref 22] σ (f_X4_goodHoles σ) (j_Pi σ) := by
  refine j_mkK (M := M_cX4_goodHoles) (L := [some (.ref 22), none, none]) (m := 2) t_50 rfl (j_rcvO j_a22 rfl) rfl (fun d hd τ => ?_)
  unfold f_X4_goodHoles
  refine j_iconst (pc' := 1) (x := (0 : Int32)) rfl rfl rfl ?_
  refine j_istore_n (pc' := 2) (L' := [some (.ref 22), some (.int (0 : Int32)), none]) rfl rfl rfl ?_
  refine j_iconst (pc' := 3) (x := (0 : Int32)) rfl rfl rfl ?_
  refine j_istore_n (pc' := 4) (L' := [some (.ref 22), some (.int (0 : Int32)), some (.int (0 : Int32))]) rfl rfl rfl ?_
  refine j_q1 (l_X4_goodHoles_4 hd τ σ j_F (0 : Int32) (0 : Int32)) (fun v1 => ?_)
  show j_J true τ M_cX4_goodHoles d 35 [none, some (.int v1), none] [] σ _ _
  refine j_iload_n (pc' := 36) rfl rfl rfl ?_
  exact j_ret rfl rfl rfl (fun _ h => h)

noncomputable def p_X4_goodIn_4 (l1 : Int32) (σ : j_G) : Nat → Int32 → Int32 → Option Int32
  | 0, _, _ => none
  | n + 1, l2, l3 =>
    if l3 < (σ.1 22 0) then (j_ix l3 60 (
    j_b1 (if (σ.1 25 (l3).toNatClampNeg) = 0 then (j_b1 (f_X4_holesOf l3 σ) fun v2 =>
    j_lt (l2 + (f_J6_bitCount_0f7a4 (v2 &&& l1))) fun v3 =>
    some v3) else (some l2)) fun v1 =>
    p_X4_goodIn_4 l1 σ n v1 (l3 + (1 : Int32)))) else (some l2)

noncomputable def f_X4_goodIn (l1 : Int32) (σ : j_G) : Option Int32 :=
  j_b1 (p_X4_goodIn_4 l1 σ j_F (0 : Int32) (0 : Int32)) fun v1 =>
  some v1
theorem l_X4_goodIn_4 {d : Nat} (hd : 2 ≤ d) (τ : j_G) (l1 : Int32) (σ : j_G) : ∀ (n : Nat) (l2 : Int32) (l3 : Int32), j_J true τ M_cX4_goodIn d 4 [some (.ref 22), some (.int l1), some (.int l2), some (.int l3)] [] σ (p_X4_goodIn_4 l1 σ n l2 l3) (fun r Q => j_Tr true τ M_cX4_goodIn d 40 [none, none, some (.int r), none] [] σ Q) := by
  intro n
  induction n with
  | zero => intro l2 l3; exact j_none
  | succ n ih =>
    intro l2 l3
    unfold p_X4_goodIn_4
    refine j_iload_n (pc' := 5) rfl rfl rfl ?_
    refine j_aload_n (pc' := 6) rfl rfl rfl ?_
    refine j_gfi (pc' := 9) rfl rfl j_a22 rfl ?_
    refine j_two (pT := 12) (pF := 40) (L1 := [some (.ref 22), some (.int l1), some (.int l2), some (.int l3)]) (st1 := []) (fun o kT kF => ?_) (fun h3 => ?_) (fun h3 => ?_)
    · refine j_icge (t := 40) (pc' := 12) rfl rfl rfl (fun h4 => ?_) (fun h4 => ?_)
      · exact kF h4
      · exact kT h4
    · refine j_aload_n (pc' := 13) rfl rfl rfl ?_
      refine j_gfr (pc' := 16) (x := 25) rfl rfl j_a22 rfl rfl ?_
      refine j_iload_n (pc' := 17) rfl rfl rfl ?_
      refine j_iald (pc' := 18) rfl rfl j_a25 ?_
      refine j_q1 (Φl := (fun r Q => j_Tr true τ M_cX4_goodIn d 34 [some (.ref 22), some (.int l1), some (.int r), some (.int l3)] [] σ Q)) ?_ (fun v1 => ?_)
      · refine j_two (pT := 21) (pF := 34) (L1 := [some (.ref 22), some (.int l1), some (.int l2), some (.int l3)]) (st1 := []) (fun o kT kF => ?_) (fun h1 => ?_) (fun h1 => ?_)
        · refine j_ifne (t := 34) (pc' := 21) rfl rfl rfl (fun h2 => ?_) (fun h2 => ?_)
          · exact kF h2
          · exact kT h2
        · refine j_iload_n (pc' := 22) rfl rfl rfl ?_
          refine j_aload_n (pc' := 23) rfl rfl rfl ?_
          refine j_iload_n (pc' := 24) rfl rfl rfl ?_
          refine j_callPi (pc' := 27) (ai := 49) (vs := [.ref 22, .int l3]) (rest := [.int l2]) rfl rfl (fun _ _ => rfl) (c_X4_holesOf l3 σ) (j_dd rfl hd) rfl (fun v2 => ?_)
          refine j_iload_n (pc' := 28) rfl rfl rfl ?_
          refine j_iand (pc' := 29) rfl rfl ?_
          refine j_callTi (pc' := 32) (ai := 356) (vs := [.int (v2 &&& l1)]) (rest := [.int l2]) rfl rfl (fun _ _ => rfl) (c_J6_bitCount_0f7a4 (v2 &&& l1) σ) (j_dd rfl hd) rfl ?_
          refine j_iadd (pc' := 33) rfl rfl ?_
          refine j_leti (fun v3 => ?_)
          refine j_istore_n (pc' := 34) (L' := [some (.ref 22), some (.int l1), some (.int v3), some (.int l3)]) rfl rfl rfl ?_
          exact j_end (fun _ h => h)
        · exact j_end (fun _ h => h)
      show j_J true τ M_cX4_goodIn d 34 [some (.ref 22), some (.int l1), some (.int v1), some (.int l3)] [] σ _ _
      refine j_iincx (pc' := 37) (y := (1 : Int32)) (L' := [some (.ref 22), some (.int l1), some (.int v1), some (.int (l3 + (1 : Int32)))]) rfl rfl rfl rfl rfl ?_
      refine j_goto (t := 4) rfl rfl ?_
      exact ih v1 (l3 + (1 : Int32))
    · refine j_wk [false, false, true, false] (L' := [none, none, some (.int l2), none]) rfl ?_
      exact j_end (fun _ h => h)

theorem c_X4_goodIn (l1 : Int32) (σ : j_G) : j_K true 2 51 [.ref 22, .int l1] σ (f_X4_goodIn l1 σ) (j_Pi σ) := by
  refine j_mkK (M := M_cX4_goodIn) (L := [some (.ref 22), some (.int l1), none, none]) (m := 2) t_51 rfl (j_rcvO j_a22 rfl) rfl (fun d hd τ => ?_)
  unfold f_X4_goodIn
  refine j_iconst (pc' := 1) (x := (0 : Int32)) rfl rfl rfl ?_
  refine j_istore_n (pc' := 2) (L' := [some (.ref 22), some (.int l1), some (.int (0 : Int32)), none]) rfl rfl rfl ?_
  refine j_iconst (pc' := 3) (x := (0 : Int32)) rfl rfl rfl ?_
  refine j_istore_n (pc' := 4) (L' := [some (.ref 22), some (.int l1), some (.int (0 : Int32)), some (.int (0 : Int32))]) rfl rfl rfl ?_
  refine j_q1 (l_X4_goodIn_4 hd τ l1 σ j_F (0 : Int32) (0 : Int32)) (fun v1 => ?_)
  show j_J true τ M_cX4_goodIn d 40 [none, none, some (.int v1), none] [] σ _ _
  refine j_iload_n (pc' := 41) rfl rfl rfl ?_
  exact j_ret rfl rfl rfl (fun _ h => h)

theorem l_X9_begin_30_30_22_29 {d : Nat} (hd : 0 ≤ d) (τ : j_G) : ∀ (n : Nat) (l3 : Int32) (σ : j_G), j_J true τ M_cX9_begin d 30 [some (.ref 30), some (.ref 22), none, some (.int l3)] [] σ (p_X9_begin_30 22 31 32 n l3 σ) (fun r Q => j_Tr true τ M_cX9_begin d 58 [none, none, none, none] [] r Q) := by
  intro n
  induction n with
  | zero => intro l3 σ; exact j_none
  | succ n ih =>
    intro l3 σ
    unfold p_X9_begin_30
    refine j_iload_n (pc' := 31) rfl rfl rfl ?_
    refine j_aload_n (pc' := 32) rfl rfl rfl ?_
    refine j_gfi (pc' := 35) rfl rfl j_a22 rfl ?_
    refine j_two (pT := 38) (pF := 58) (L1 := [some (.ref 30), some (.ref 22), none, some (.int l3)]) (st1 := []) (fun o kT kF => ?_) (fun h1 => ?_) (fun h1 => ?_)
    · refine j_icge (t := 58) (pc' := 38) rfl rfl rfl (fun h2 => ?_) (fun h2 => ?_)
      · exact kF h2
      · exact kT h2
    · refine j_aload_n (pc' := 39) rfl rfl rfl ?_
      refine j_gfr (pc' := 42) (x := 31) rfl rfl j_a30 rfl rfl ?_
      refine j_iload_n (pc' := 43) rfl rfl rfl ?_
      refine j_iconst (pc' := 44) (x := (-1 : Int32)) rfl rfl rfl ?_
      refine j_iast (pc' := 45) rfl rfl j_a31 (fun σ1 => ?_)
      refine j_aload_n (pc' := 46) rfl rfl rfl ?_
      refine j_gfr (pc' := 49) (x := 32) rfl rfl j_a30 rfl rfl ?_
      refine j_iload_n (pc' := 50) rfl rfl rfl ?_
      refine j_iconst (pc' := 51) (x := (0 : Int32)) rfl rfl rfl ?_
      refine j_iast (pc' := 52) rfl rfl j_a32 (fun σ2 => ?_)
      refine j_iincx (pc' := 55) (y := (1 : Int32)) (L' := [some (.ref 30), some (.ref 22), none, some (.int (l3 + (1 : Int32)))]) rfl rfl rfl rfl rfl ?_
      refine j_goto (t := 30) rfl rfl ?_
      exact ih (l3 + (1 : Int32)) σ2
    · refine j_wk [false, false, true, false] (L' := [none, none, none, none]) rfl ?_
      exact j_end (fun _ h => h)

theorem c_X9_begin_30_22_29 (σ : j_G) : j_K true 0 102 [.ref 30, .ref 22, .ref 29] σ (f_X9_begin 30 29 22 31 32 σ) j_Rv := by
  refine j_mkK (M := M_cX9_begin) (L := [some (.ref 30), some (.ref 22), some (.ref 29), none]) (m := 1) t_102 rfl (j_rcvO j_a30 rfl) rfl (fun d hd τ => ?_)
  unfold f_X9_begin
  refine j_aload_n (pc' := 1) rfl rfl rfl ?_
  refine j_iconst (pc' := 2) (x := (0 : Int32)) rfl rfl rfl ?_
  refine j_pfi (pc' := 5) rfl rfl j_a30 rfl rfl (fun σ1 => ?_)
  refine j_aload_n (pc' := 6) rfl rfl rfl ?_
  refine j_iconst (pc' := 7) (x := (0 : Int32)) rfl rfl rfl ?_
  refine j_pfi (pc' := 10) rfl rfl j_a30 rfl rfl (fun σ2 => ?_)
  refine j_aload_n (pc' := 11) rfl rfl rfl ?_
  refine j_iconst (pc' := 12) (x := (0 : Int32)) rfl rfl rfl ?_
  refine j_pfi (pc' := 15) rfl rfl j_a30 rfl rfl (fun σ3 => ?_)
  refine j_aload_n (pc' := 16) rfl rfl rfl ?_
  refine j_iconst (pc' := 17) (x := (0 : Int32)) rfl rfl rfl ?_
  refine j_pfi (pc' := 20) rfl rfl j_a30 rfl rfl (fun σ4 => ?_)
  refine j_aload_n (pc' := 21) rfl rfl rfl ?_
  refine j_aload_n (pc' := 22) rfl rfl rfl ?_
  refine j_gfi (pc' := 25) rfl rfl j_a29 rfl ?_
  refine j_pfi (pc' := 28) rfl rfl j_a30 rfl rfl (fun σ5 => ?_)
  refine j_iconst (pc' := 29) (x := (0 : Int32)) rfl rfl rfl ?_
  refine j_istore_n (pc' := 30) (L' := [some (.ref 30), some (.ref 22), some (.ref 29), some (.int (0 : Int32))]) rfl rfl rfl ?_
  refine j_wk [true, true, false, true] (L' := [some (.ref 30), some (.ref 22), none, some (.int (0 : Int32))]) rfl ?_
  refine j_q1 (l_X9_begin_30_30_22_29 hd τ j_F (0 : Int32) σ5) (fun σ6 => ?_)
  show j_J true τ M_cX9_begin d 58 [none, none, none, none] [] σ6 _ _
  exact j_ret rfl rfl rfl (fun _ h => h)

theorem c_X6_awareOf_29_22 (l2 : Int32) (σ : j_G) : j_K true 1 66 [.ref 29, .ref 22, .int l2] σ (f_X6_awareOf 26 29 l2 σ) (j_Pi σ) := by
  refine j_mkK (M := M_cX6_awareOf) (L := [some (.ref 29), some (.ref 22), some (.int l2), none]) (m := 1) t_66 rfl (j_rcvO j_a29 rfl) rfl (fun d hd τ => ?_)
  unfold f_X6_awareOf
  refine j_aload_n (pc' := 1) rfl rfl rfl ?_
  refine j_iload_n (pc' := 2) rfl rfl rfl ?_
  refine j_callTi (pc' := 5) (ai := 41) (vs := [.ref 22, .int l2]) (rest := []) rfl rfl (fun _ _ => rfl) (c_X4_has l2 σ) (j_dd rfl hd) rfl ?_
  refine j_two (pT := 8) (pF := 10) (L1 := [some (.ref 29), some (.ref 22), some (.int l2), none]) (st1 := []) (fun o kT kF => ?_) (fun h5 => ?_) (fun h5 => ?_)
  · refine j_ifne (t := 10) (pc' := 8) rfl rfl rfl (fun h6 => ?_) (fun h6 => ?_)
    · exact kF h6
    · exact kT h6
  · refine j_iconst (pc' := 9) (x := (-1 : Int32)) rfl rfl rfl ?_
    exact j_ret rfl rfl rfl (fun _ h => h)
  · refine j_aload_n (pc' := 11) rfl rfl rfl ?_
    refine j_gfr (pc' := 14) (x := 26) rfl rfl j_a22 rfl rfl ?_
    refine j_iload_n (pc' := 15) rfl rfl rfl ?_
    refine j_iald (pc' := 16) rfl rfl j_a26 ?_
    refine j_aload_n (pc' := 17) rfl rfl rfl ?_
    refine j_gfi (pc' := 20) rfl rfl j_a29 rfl ?_
    refine j_iadd (pc' := 21) rfl rfl ?_
    refine j_leti (fun v1 => ?_)
    refine j_istore_n (pc' := 22) (L' := [some (.ref 29), some (.ref 22), some (.int l2), some (.int v1)]) rfl rfl rfl ?_
    refine j_aload_n (pc' := 23) rfl rfl rfl ?_
    refine j_gfi (pc' := 26) rfl rfl j_a29 rfl ?_
    refine j_two (pT := 29) (pF := 31) (L1 := [some (.ref 29), some (.ref 22), some (.int l2), some (.int v1)]) (st1 := []) (fun o kT kF => ?_) (fun h3 => ?_) (fun h3 => ?_)
    · refine j_ifgt (t := 31) (pc' := 29) rfl rfl rfl (fun h4 => ?_) (fun h4 => ?_)
      · exact kF (fun z => z h4)
      · exact kT h4
    · refine j_iload_n (pc' := 30) rfl rfl rfl ?_
      exact j_ret rfl rfl rfl (fun _ h => h)
    · refine j_iload_n (pc' := 32) rfl rfl rfl ?_
      refine j_aload_n (pc' := 33) rfl rfl rfl ?_
      refine j_iload_n (pc' := 34) rfl rfl rfl ?_
      refine j_aload_n (pc' := 35) rfl rfl rfl ?_
      refine j_gfi (pc' := 38) rfl rfl j_a29 rfl ?_
      refine j_isub (pc' := 39) rfl rfl ?_
      refine j_callTi (pc' := 42) (ai := 41) (vs := [.ref 22, .int (l2 - (σ.1 29 3))]) (rest := [.int v1]) rfl rfl (fun _ _ => rfl) (c_X4_has (l2 - (σ.1 29 3)) σ) (j_dd rfl hd) rfl ?_
      refine j_q1 (Φl := (fun r Q => j_Tr true τ M_cX6_awareOf d 60 [none, none, none, none] [.int r, .int v1] σ Q)) ?_ (fun v2 => ?_)
      · refine j_two (pT := 45) (pF := 59) (L1 := [some (.ref 29), some (.ref 22), some (.int l2), some (.int v1)]) (st1 := [.int v1]) (fun o kT kF => ?_) (fun h1 => ?_) (fun h1 => ?_)
        · refine j_ifeq (t := 59) (pc' := 45) rfl rfl rfl (fun h2 => ?_) (fun h2 => ?_)
          · exact kF (fun z => z h2)
          · exact kT h2
        · refine j_aload_n (pc' := 46) rfl rfl rfl ?_
          refine j_gfr (pc' := 49) (x := 26) rfl rfl j_a22 rfl rfl ?_
          refine j_iload_n (pc' := 50) rfl rfl rfl ?_
          refine j_aload_n (pc' := 51) rfl rfl rfl ?_
          refine j_gfi (pc' := 54) rfl rfl j_a29 rfl ?_
          refine j_isub (pc' := 55) rfl rfl ?_
          refine j_iald (pc' := 56) rfl rfl j_a26 ?_
          refine j_goto (t := 60) rfl rfl ?_
          refine j_wk [false, false, false, false] (L' := [none, none, none, none]) rfl ?_
          exact j_end (fun _ h => h)
        · refine j_iconst (pc' := 60) (x := (0 : Int32)) rfl rfl rfl ?_
          refine j_wk [false, false, false, false] (L' := [none, none, none, none]) rfl ?_
          exact j_end (fun _ h => h)
      show j_J true τ M_cX6_awareOf d 60 [none, none, none, none] [.int v2, .int v1] σ _ _
      refine j_min (pc' := 63) rfl rfl rfl ?_
      exact j_ret rfl rfl rfl (fun _ h => h)

theorem c_X6_paceIn_29 (l1 : Int32) (σ : j_G) : j_K true 0 65 [.ref 29, .int l1] σ (f_X6_paceIn 29 l1 σ) (j_Pi σ) := by
  refine j_mkK (M := M_cX6_paceIn) (L := [some (.ref 29), some (.int l1)]) (m := 0) t_65 rfl (j_rcvO j_a29 rfl) rfl (fun d hd τ => ?_)
  unfold f_X6_paceIn
  refine j_aload_n (pc' := 1) rfl rfl rfl ?_
  refine j_gfi (pc' := 4) rfl rfl j_a29 rfl ?_
  refine j_two (pT := 7) (pF := 21) (L1 := [some (.ref 29), some (.int l1)]) (st1 := []) (fun o kT kF => ?_) (fun h1 => ?_) (fun h1 => ?_)
  · refine j_ifle (t := 21) (pc' := 7) rfl rfl rfl (fun h2 => ?_) (fun h2 => ?_)
    · exact kF h2
    · exact kT h2
  · refine j_aload_n (pc' := 8) rfl rfl rfl ?_
    refine j_gfi (pc' := 11) rfl rfl j_a29 rfl ?_
    refine j_iload_n (pc' := 12) rfl rfl rfl ?_
    refine j_aload_n (pc' := 13) rfl rfl rfl ?_
    refine j_gfi (pc' := 16) rfl rfl j_a29 rfl ?_
    refine j_idiv (pc' := 17) rfl rfl ?_
    refine j_iadd (pc' := 18) rfl rfl ?_
    refine j_goto (t := 25) rfl rfl ?_
    exact j_ret rfl rfl rfl (fun _ h => h)
  · refine j_aload_n (pc' := 22) rfl rfl rfl ?_
    refine j_gfi (pc' := 25) rfl rfl j_a29 rfl ?_
    exact j_ret rfl rfl rfl (fun _ h => h)

theorem c_X6_there_29_1 (l2 : Int32) (l3 : Int32) (l4 : Int32) (σ : j_G) : j_K true 1 67 [.ref 29, .ref 1, .int l2, .int l3, .int l4] σ (f_X6_there 29 l2 l3 l4 σ) (j_Pi σ) := by
  refine j_mkK (M := M_cX6_there) (L := [some (.ref 29), some (.ref 1), some (.int l2), some (.int l3), some (.int l4)]) (m := 0) t_67 rfl (j_rcvO j_a29 rfl) rfl (fun d hd τ => ?_)
  unfold f_X6_there
  refine j_iload (pc' := 2) rfl rfl rfl ?_
  refine j_aload_n (pc' := 3) rfl rfl rfl ?_
  refine j_iload_n (pc' := 4) rfl rfl rfl ?_
  refine j_iload_n (pc' := 5) rfl rfl rfl ?_
  refine j_callPi (pc' := 8) (ai := 18) (vs := [.ref 1, .int l2, .int l3]) (rest := [.int l4]) rfl rfl (fun _ _ => rfl) (c_X2_apart l2 l3 σ) (j_dd rfl hd) rfl (fun v1 => ?_)
  refine j_aload_n (pc' := 9) rfl rfl rfl ?_
  refine j_iload (pc' := 11) rfl rfl rfl ?_
  refine j_callPi (pc' := 14) (ai := 65) (vs := [.ref 29, .int l4]) (rest := [.int v1, .int l4]) rfl rfl (fun _ _ => rfl) (c_X6_paceIn_29 l4 σ) (j_dd rfl hd) rfl (fun v2 => ?_)
  refine j_imul (pc' := 15) rfl rfl ?_
  refine j_iadd (pc' := 16) rfl rfl ?_
  exact j_ret rfl rfl rfl (fun _ h => h)

theorem c_X9_strike_30_1_22_29 (l4 : Int32) (l5 : Int32) (σ : j_G) : j_K true 2 105 [.ref 30, .ref 1, .ref 22, .ref 29, .int l4, .int l5] σ (f_X9_strike 30 26 29 33 34 31 32 l4 l5 σ) j_Ri := by
  refine j_mkK (M := M_cX9_strike) (L := [some (.ref 30), some (.ref 1), some (.ref 22), some (.ref 29), some (.int l4), some (.int l5), none, none]) (m := 2) t_105 rfl (j_rcvO j_a30 rfl) rfl (fun d hd τ => ?_)
  unfold f_X9_strike
  refine j_aload_n (pc' := 1) rfl rfl rfl ?_
  refine j_gfi (pc' := 4) rfl rfl j_a30 rfl ?_
  refine j_aload_n (pc' := 5) rfl rfl rfl ?_
  refine j_aload_n (pc' := 6) rfl rfl rfl ?_
  refine j_iload (pc' := 8) rfl rfl rfl ?_
  refine j_callPi (pc' := 11) (ai := 66) (vs := [.ref 29, .ref 22, .int l4]) (rest := [.int (σ.1 30 8)]) rfl rfl (fun _ _ => rfl) (c_X6_awareOf_29_22 l4 σ) (j_dd rfl hd) rfl (fun v1 => ?_)
  refine j_max (pc' := 14) rfl rfl rfl ?_
  refine j_leti (fun v2 => ?_)
  refine j_istore (pc' := 16) (L' := [some (.ref 30), some (.ref 1), some (.ref 22), some (.ref 29), some (.int l4), some (.int l5), some (.int v2), none]) rfl rfl rfl ?_
  refine j_aload_n (pc' := 17) rfl rfl rfl ?_
  refine j_iload (pc' := 19) rfl rfl rfl ?_
  refine j_aload_n (pc' := 20) rfl rfl rfl ?_
  refine j_aload_n (pc' := 21) rfl rfl rfl ?_
  refine j_aload_n (pc' := 22) rfl rfl rfl ?_
  refine j_gfi (pc' := 25) rfl rfl j_a30 rfl ?_
  refine j_iload (pc' := 27) rfl rfl rfl ?_
  refine j_iload (pc' := 29) rfl rfl rfl ?_
  refine j_callPi (pc' := 32) (ai := 67) (vs := [.ref 29, .ref 1, .int (σ.1 30 7), .int l5, .int v2]) (rest := [.int l4, .ref 22]) rfl rfl (fun _ _ => rfl) (c_X6_there_29_1 (σ.1 30 7) l5 v2 σ) (j_dd rfl hd) rfl (fun v3 => ?_)
  refine j_callPi (pc' := 35) (ai := 52) (vs := [.ref 22, .int l4, .int v3]) (rest := []) rfl rfl (fun _ _ => rfl) (c_X4_strike l4 v3 σ) (j_dd rfl hd) rfl (fun v4 => ?_)
  refine j_istore (pc' := 37) (L' := [some (.ref 30), some (.ref 1), some (.ref 22), some (.ref 29), some (.int l4), some (.int l5), some (.int v2), some (.int v4)]) rfl rfl rfl ?_
  refine j_iload (pc' := 39) rfl rfl rfl ?_
  refine j_iconst (pc' := 40) (x := (-1 : Int32)) rfl rfl rfl ?_
  refine j_two (pT := 55) (pF := 57) (L1 := [some (.ref 30), some (.ref 1), some (.ref 22), some (.ref 29), some (.int l4), some (.int l5), some (.int v2), some (.int v4)]) (st1 := []) (fun o kT kF => ?_) (fun h1 => ?_) (fun h1 => ?_)
  · refine j_iceq (t := 55) (pc' := 43) rfl rfl rfl (fun h2 => ?_) (fun h2 => ?_)
    · exact kT (Or.inl h2)
    · refine j_aload_n (pc' := 44) rfl rfl rfl ?_
      refine j_gfi (pc' := 47) rfl rfl j_a30 rfl ?_
      refine j_aload_n (pc' := 48) rfl rfl rfl ?_
      refine j_gfr (pc' := 51) (x := 33) rfl rfl j_a30 rfl rfl ?_
      refine j_alen (pc' := 52) (v := (120 : Int32)) rfl rfl j_a33 rfl ?_
      refine j_iclt (t := 57) (pc' := 55) rfl rfl rfl (fun h3 => ?_) (fun h3 => ?_)
      · exact kF (fun z => z.elim h2 (fun z => z h3))
      · exact kT (Or.inr (h3))
  · refine j_iconst (pc' := 56) (x := (0 : Int32)) rfl rfl rfl ?_
    exact j_ret rfl rfl rfl (fun _ h => h)
  · refine j_aload_n (pc' := 58) rfl rfl rfl ?_
    refine j_gfr (pc' := 61) (x := 33) rfl rfl j_a30 rfl rfl ?_
    refine j_aload_n (pc' := 62) rfl rfl rfl ?_
    refine j_gfi (pc' := 65) rfl rfl j_a30 rfl ?_
    refine j_iload (pc' := 67) rfl rfl rfl ?_
    refine j_iast (pc' := 68) rfl rfl j_a33 (fun σ5 => ?_)
    refine j_aload_n (pc' := 69) rfl rfl rfl ?_
    refine j_gfr (pc' := 72) (x := 34) rfl rfl j_a30 rfl rfl ?_
    refine j_aload_n (pc' := 73) rfl rfl rfl ?_
    refine j_gfi (pc' := 76) rfl rfl j_a30 rfl ?_
    refine j_iload (pc' := 78) rfl rfl rfl ?_
    refine j_iast (pc' := 79) rfl rfl j_a34 (fun σ6 => ?_)
    refine j_aload_n (pc' := 80) rfl rfl rfl ?_
    refine j_dup (pc' := 81) rfl rfl rfl ?_
    refine j_gfi (pc' := 84) rfl rfl j_a30 rfl ?_
    refine j_iconst (pc' := 85) (x := (1 : Int32)) rfl rfl rfl ?_
    refine j_iadd (pc' := 86) rfl rfl ?_
    refine j_pfi (pc' := 89) rfl rfl j_a30 rfl rfl (fun σ7 => ?_)
    refine j_aload_n (pc' := 90) rfl rfl rfl ?_
    refine j_gfr (pc' := 93) (x := 31) rfl rfl j_a30 rfl rfl ?_
    refine j_iload (pc' := 95) rfl rfl rfl ?_
    refine j_iload (pc' := 97) rfl rfl rfl ?_
    refine j_iast (pc' := 98) rfl rfl j_a31 (fun σ8 => ?_)
    refine j_aload_n (pc' := 99) rfl rfl rfl ?_
    refine j_gfr (pc' := 102) (x := 32) rfl rfl j_a30 rfl rfl ?_
    refine j_iload (pc' := 104) rfl rfl rfl ?_
    refine j_dup2 (pc' := 105) rfl rfl rfl rfl ?_
    refine j_iald (pc' := 106) rfl rfl j_a32 ?_
    refine j_iconst (pc' := 107) (x := (1 : Int32)) rfl rfl rfl ?_
    refine j_iadd (pc' := 108) rfl rfl ?_
    refine j_iast (pc' := 109) rfl rfl j_a32 (fun σ9 => ?_)
    refine j_aload_n (pc' := 110) rfl rfl rfl ?_
    refine j_dup (pc' := 111) rfl rfl rfl ?_
    refine j_gfi (pc' := 114) rfl rfl j_a30 rfl ?_
    refine j_aload_n (pc' := 115) rfl rfl rfl ?_
    refine j_aload_n (pc' := 116) rfl rfl rfl ?_
    refine j_gfi (pc' := 119) rfl rfl j_a30 rfl ?_
    refine j_iload (pc' := 121) rfl rfl rfl ?_
    refine j_callPi (pc' := 124) (ai := 18) (vs := [.ref 1, .int (σ9.1 30 7), .int l5]) (rest := [.int (σ9.1 30 1), .ref 30]) rfl rfl (fun _ _ => rfl) (c_X2_apart (σ9.1 30 7) l5 σ9) (j_dd rfl hd) rfl (fun v10 => ?_)
    refine j_iadd (pc' := 125) rfl rfl ?_
    refine j_pfi (pc' := 128) rfl rfl j_a30 rfl rfl (fun σ11 => ?_)
    refine j_aload_n (pc' := 129) rfl rfl rfl ?_
    refine j_iload (pc' := 131) rfl rfl rfl ?_
    refine j_pfi (pc' := 134) rfl rfl j_a30 rfl rfl (fun σ12 => ?_)
    refine j_aload_n (pc' := 135) rfl rfl rfl ?_
    refine j_iload (pc' := 137) rfl rfl rfl ?_
    refine j_iconst (pc' := 138) (x := (1 : Int32)) rfl rfl rfl ?_
    refine j_iadd (pc' := 139) rfl rfl ?_
    refine j_pfi (pc' := 142) rfl rfl j_a30 rfl rfl (fun σ13 => ?_)
    refine j_iconst (pc' := 143) (x := (1 : Int32)) rfl rfl rfl ?_
    exact j_ret rfl rfl rfl (fun _ h => h)

theorem c_X9_goFor_30_1_22_29 (l4 : Int32) (l5 : Int32) (σ : j_G) : j_K true 3 103 [.ref 30, .ref 1, .ref 22, .ref 29, .int l4, .int l5] σ (f_X9_goFor 23 24 30 26 29 33 34 31 32 l4 l5 σ) j_Rv := by
  refine j_mkK (M := M_cX9_goFor) (L := [some (.ref 30), some (.ref 1), some (.ref 22), some (.ref 29), some (.int l4), some (.int l5), none, none, none, none, none]) (m := 5) t_103 rfl (j_rcvO j_a30 rfl) rfl (fun d hd τ => ?_)
  unfold f_X9_goFor
  refine j_aload_n (pc' := 1) rfl rfl rfl ?_
  refine j_gfr (pc' := 4) (x := 23) rfl rfl j_a22 rfl rfl ?_
  refine j_iload (pc' := 6) rfl rfl rfl ?_
  refine j_iald (pc' := 7) rfl rfl j_a23 ?_
  refine j_iload (pc' := 9) rfl rfl rfl ?_
  refine j_callTi (pc' := 12) (ai := 104) (vs := [.int (σ.1 23 (l4).toNatClampNeg), .int l5]) (rest := []) rfl rfl (fun _ _ => rfl) (c_X9_among (σ.1 23 (l4).toNatClampNeg) l5 σ) (j_dd rfl hd) rfl ?_
  refine j_leti (fun v1 => ?_)
  refine j_istore (pc' := 14) (L' := [some (.ref 30), some (.ref 1), some (.ref 22), some (.ref 29), some (.int l4), some (.int l5), some (.int v1), none, none, none, none]) rfl rfl rfl ?_
  refine j_aload_n (pc' := 15) rfl rfl rfl ?_
  refine j_gfr (pc' := 18) (x := 24) rfl rfl j_a22 rfl rfl ?_
  refine j_iload (pc' := 20) rfl rfl rfl ?_
  refine j_iald (pc' := 21) rfl rfl j_a24 ?_
  refine j_iload (pc' := 23) rfl rfl rfl ?_
  refine j_callTi (pc' := 26) (ai := 104) (vs := [.int (σ.1 24 (l4).toNatClampNeg), .int l5]) (rest := []) rfl rfl (fun _ _ => rfl) (c_X9_among (σ.1 24 (l4).toNatClampNeg) l5 σ) (j_dd rfl hd) rfl ?_
  refine j_leti (fun v2 => ?_)
  refine j_istore (pc' := 28) (L' := [some (.ref 30), some (.ref 1), some (.ref 22), some (.ref 29), some (.int l4), some (.int l5), some (.int v1), some (.int v2), none, none, none]) rfl rfl rfl ?_
  refine j_iload (pc' := 30) rfl rfl rfl ?_
  refine j_iconst (pc' := 31) (x := (-1 : Int32)) rfl rfl rfl ?_
  refine j_q1 (Φl := (fun r Q => j_Tr true τ M_cX9_goFor d 68 [some (.ref 30), some (.ref 1), some (.ref 22), some (.ref 29), some (.int l4), none, some (.int v1), some (.int v2), none, none, none] [.int r] σ Q)) ?_ (fun v3 => ?_)
  · refine j_two (pT := 34) (pF := 63) (L1 := [some (.ref 30), some (.ref 1), some (.ref 22), some (.ref 29), some (.int l4), some (.int l5), some (.int v1), some (.int v2), none, none, none]) (st1 := []) (fun o kT kF => ?_) (fun h5 => ?_) (fun h5 => ?_)
    · refine j_iceq (t := 63) (pc' := 34) rfl rfl rfl (fun h6 => ?_) (fun h6 => ?_)
      · exact kF (fun z => z h6)
      · exact kT h6
    · refine j_iload (pc' := 36) rfl rfl rfl ?_
      refine j_iconst (pc' := 37) (x := (-1 : Int32)) rfl rfl rfl ?_
      refine j_jn (P := (fun k => j_J true τ M_cX9_goFor d 67 [some (.ref 30), some (.ref 1), some (.ref 22), some (.ref 29), some (.int l4), none, some (.int v1), some (.int v2), none, none, none] [] σ (k ) (fun r Q => j_Tr true τ M_cX9_goFor d 68 [some (.ref 30), some (.ref 1), some (.ref 22), some (.ref 29), some (.int l4), none, some (.int v1), some (.int v2), none, none, none] [.int r] σ Q))) ?_ (fun k4 k4_h => ?_)
      · refine j_iconst (pc' := 68) (x := (0 : Int32)) rfl rfl rfl ?_
        exact j_end (fun _ h => h)
      · refine j_two (pT := 40) (pF := 67) (L1 := [some (.ref 30), some (.ref 1), some (.ref 22), some (.ref 29), some (.int l4), some (.int l5), some (.int v1), some (.int v2), none, none, none]) (st1 := []) (fun o kT kF => ?_) (fun h3 => ?_) (fun h3 => ?_)
        · refine j_iceq (t := 67) (pc' := 40) rfl rfl rfl (fun h4 => ?_) (fun h4 => ?_)
          · exact kF (fun z => z h4)
          · exact kT h4
        · refine j_aload_n (pc' := 41) rfl rfl rfl ?_
          refine j_aload_n (pc' := 42) rfl rfl rfl ?_
          refine j_gfi (pc' := 45) rfl rfl j_a30 rfl ?_
          refine j_iload (pc' := 47) rfl rfl rfl ?_
          refine j_callPi (pc' := 50) (ai := 18) (vs := [.ref 1, .int (σ.1 30 7), .int v2]) (rest := []) rfl rfl (fun _ _ => rfl) (c_X2_apart (σ.1 30 7) v2 σ) (j_dd rfl hd) rfl (fun v5 => ?_)
          refine j_aload_n (pc' := 51) rfl rfl rfl ?_
          refine j_aload_n (pc' := 52) rfl rfl rfl ?_
          refine j_gfi (pc' := 55) rfl rfl j_a30 rfl ?_
          refine j_iload (pc' := 57) rfl rfl rfl ?_
          refine j_callPi (pc' := 60) (ai := 18) (vs := [.ref 1, .int (σ.1 30 7), .int v1]) (rest := [.int v5]) rfl rfl (fun _ _ => rfl) (c_X2_apart (σ.1 30 7) v1 σ) (j_dd rfl hd) rfl (fun v6 => ?_)
          refine j_two (pT := 63) (pF := 67) (L1 := [some (.ref 30), some (.ref 1), some (.ref 22), some (.ref 29), some (.int l4), some (.int l5), some (.int v1), some (.int v2), none, none, none]) (st1 := []) (fun o kT kF => ?_) (fun h1 => ?_) (fun h1 => ?_)
          · refine j_icge (t := 67) (pc' := 63) rfl rfl rfl (fun h2 => ?_) (fun h2 => ?_)
            · exact kF h2
            · exact kT h2
          · refine j_iconst (pc' := 64) (x := (1 : Int32)) rfl rfl rfl ?_
            refine j_goto (t := 68) rfl rfl ?_
            refine j_wk [true, true, true, true, true, false, true, true, true, true, true] (L' := [some (.ref 30), some (.ref 1), some (.ref 22), some (.ref 29), some (.int l4), none, some (.int v1), some (.int v2), none, none, none]) rfl ?_
            exact j_end (fun _ h => h)
          · refine j_wk [true, true, true, true, true, false, true, true, true, true, true] (L' := [some (.ref 30), some (.ref 1), some (.ref 22), some (.ref 29), some (.int l4), none, some (.int v1), some (.int v2), none, none, none]) rfl ?_
            exact k4_h 
        · refine j_wk [true, true, true, true, true, false, true, true, true, true, true] (L' := [some (.ref 30), some (.ref 1), some (.ref 22), some (.ref 29), some (.int l4), none, some (.int v1), some (.int v2), none, none, none]) rfl ?_
          exact k4_h 
    · refine j_iconst (pc' := 64) (x := (1 : Int32)) rfl rfl rfl ?_
      refine j_goto (t := 68) rfl rfl ?_
      refine j_wk [true, true, true, true, true, false, true, true, true, true, true] (L' := [some (.ref 30), some (.ref 1), some (.ref 22), some (.ref 29), some (.int l4), none, some (.int v1), some (.int v2), none, none, none]) rfl ?_
      exact j_end (fun _ h => h)
  show j_J true τ M_cX9_goFor d 68 [some (.ref 30), some (.ref 1), some (.ref 22), some (.ref 29), some (.int l4), none, some (.int v1), some (.int v2), none, none, none] [.int v3] σ _ _
  refine j_istore (pc' := 70) (L' := [some (.ref 30), some (.ref 1), some (.ref 22), some (.ref 29), some (.int l4), none, some (.int v1), some (.int v2), some (.int v3), none, none]) rfl rfl rfl ?_
  refine j_iload (pc' := 72) rfl rfl rfl ?_
  refine j_ql (Φl := (fun r Q => j_Tr true τ M_cX9_goFor d 82 [some (.ref 30), some (.ref 1), some (.ref 22), some (.ref 29), some (.int l4), none, some (.int v1), some (.int v2), some (.int v3), none, none] [.int r] σ Q)) ?_ (fun v7 => ?_)
  · refine j_twoT (pT := 75) (pF := 80) (L1 := [some (.ref 30), some (.ref 1), some (.ref 22), some (.ref 29), some (.int l4), none, some (.int v1), some (.int v2), some (.int v3), none, none]) (st1 := []) (fun o kT kF => ?_) (fun h7 => ?_) (fun h7 => ?_)
    · refine j_ifeq (t := 80) (pc' := 75) rfl rfl rfl (fun h8 => ?_) (fun h8 => ?_)
      · exact kF (fun z => z h8)
      · exact kT h8
    · refine j_iload (pc' := 77) rfl rfl rfl ?_
      refine j_goto (t := 82) rfl rfl ?_
      exact j_end (fun _ h => h)
    · refine j_iload (pc' := 82) rfl rfl rfl ?_
      exact j_end (fun _ h => h)
  show j_J true τ M_cX9_goFor d 82 [some (.ref 30), some (.ref 1), some (.ref 22), some (.ref 29), some (.int l4), none, some (.int v1), some (.int v2), some (.int v3), none, none] [.int v7] σ _ _
  refine j_istore (pc' := 84) (L' := [some (.ref 30), some (.ref 1), some (.ref 22), some (.ref 29), some (.int l4), none, some (.int v1), some (.int v2), some (.int v3), some (.int v7), none]) rfl rfl rfl ?_
  refine j_iload (pc' := 86) rfl rfl rfl ?_
  refine j_ql (Φl := (fun r Q => j_Tr true τ M_cX9_goFor d 96 [some (.ref 30), some (.ref 1), some (.ref 22), some (.ref 29), some (.int l4), none, none, none, none, some (.int v7), none] [.int r] σ Q)) ?_ (fun v8 => ?_)
  · refine j_twoT (pT := 89) (pF := 94) (L1 := [some (.ref 30), some (.ref 1), some (.ref 22), some (.ref 29), some (.int l4), none, some (.int v1), some (.int v2), some (.int v3), some (.int v7), none]) (st1 := []) (fun o kT kF => ?_) (fun h9 => ?_) (fun h9 => ?_)
    · refine j_ifeq (t := 94) (pc' := 89) rfl rfl rfl (fun h10 => ?_) (fun h10 => ?_)
      · exact kF (fun z => z h10)
      · exact kT h10
    · refine j_iload (pc' := 91) rfl rfl rfl ?_
      refine j_goto (t := 96) rfl rfl ?_
      refine j_wk [true, true, true, true, true, true, false, false, false, true, true] (L' := [some (.ref 30), some (.ref 1), some (.ref 22), some (.ref 29), some (.int l4), none, none, none, none, some (.int v7), none]) rfl ?_
      exact j_end (fun _ h => h)
    · refine j_iload (pc' := 96) rfl rfl rfl ?_
      refine j_wk [true, true, true, true, true, true, false, false, false, true, true] (L' := [some (.ref 30), some (.ref 1), some (.ref 22), some (.ref 29), some (.int l4), none, none, none, none, some (.int v7), none]) rfl ?_
      exact j_end (fun _ h => h)
  show j_J true τ M_cX9_goFor d 96 [some (.ref 30), some (.ref 1), some (.ref 22), some (.ref 29), some (.int l4), none, none, none, none, some (.int v7), none] [.int v8] σ _ _
  refine j_istore (pc' := 98) (L' := [some (.ref 30), some (.ref 1), some (.ref 22), some (.ref 29), some (.int l4), none, none, none, none, some (.int v7), some (.int v8)]) rfl rfl rfl ?_
  refine j_iload (pc' := 100) rfl rfl rfl ?_
  refine j_iconst (pc' := 101) (x := (-1 : Int32)) rfl rfl rfl ?_
  refine j_two (pT := 104) (pF := 136) (L1 := [some (.ref 30), some (.ref 1), some (.ref 22), some (.ref 29), some (.int l4), none, none, none, none, some (.int v7), some (.int v8)]) (st1 := []) (fun o kT kF => ?_) (fun h14 => ?_) (fun h14 => ?_)
  · refine j_iceq (t := 136) (pc' := 104) rfl rfl rfl (fun h15 => ?_) (fun h15 => ?_)
    · exact kF (fun z => z h15)
    · exact kT h15
  · refine j_aload_n (pc' := 105) rfl rfl rfl ?_
    refine j_aload_n (pc' := 106) rfl rfl rfl ?_
    refine j_aload_n (pc' := 107) rfl rfl rfl ?_
    refine j_aload_n (pc' := 108) rfl rfl rfl ?_
    refine j_iload (pc' := 110) rfl rfl rfl ?_
    refine j_iload (pc' := 112) rfl rfl rfl ?_
    refine j_callRi (pc' := 115) (ai := 105) (vs := [.ref 30, .ref 1, .ref 22, .ref 29, .int l4, .int v7]) (rest := []) rfl rfl (fun _ _ => rfl) (c_X9_strike_30_1_22_29 l4 v7 σ) (j_dd rfl hd) rfl (fun v10 σ9 => ?_)
    refine j_two (pT := 124) (pF := 136) (L1 := [some (.ref 30), some (.ref 1), some (.ref 22), some (.ref 29), some (.int l4), none, none, none, none, some (.int v7), some (.int v8)]) (st1 := []) (fun o kT kF => ?_) (fun h11 => ?_) (fun h11 => ?_)
    · refine j_ifeq (t := 136) (pc' := 118) rfl rfl rfl (fun h12 => ?_) (fun h12 => ?_)
      · exact kF (fun z => z.1 h12)
      · refine j_iload (pc' := 120) rfl rfl rfl ?_
        refine j_iconst (pc' := 121) (x := (-1 : Int32)) rfl rfl rfl ?_
        refine j_iceq (t := 136) (pc' := 124) rfl rfl rfl (fun h13 => ?_) (fun h13 => ?_)
        · exact kF (fun z => (fun z => z h13) z.2)
        · exact kT (⟨h12, h13⟩)
    · refine j_aload_n (pc' := 125) rfl rfl rfl ?_
      refine j_aload_n (pc' := 126) rfl rfl rfl ?_
      refine j_aload_n (pc' := 127) rfl rfl rfl ?_
      refine j_aload_n (pc' := 128) rfl rfl rfl ?_
      refine j_iload (pc' := 130) rfl rfl rfl ?_
      refine j_iload (pc' := 132) rfl rfl rfl ?_
      refine j_callRi (pc' := 135) (ai := 105) (vs := [.ref 30, .ref 1, .ref 22, .ref 29, .int l4, .int v8]) (rest := []) rfl rfl (fun _ _ => rfl) (c_X9_strike_30_1_22_29 l4 v8 σ9) (j_dd rfl hd) rfl (fun v12 σ11 => ?_)
      refine j_pop (pc' := 136) rfl rfl rfl ?_
      exact j_ret rfl rfl rfl (fun _ h => h)
    · exact j_ret rfl rfl rfl (fun _ h => h)
  · exact j_ret rfl rfl rfl (fun _ h => h)

theorem l_X9_good_9_30_1_22_29 {d : Nat} (hd : 4 ≤ d) (τ : j_G) (l4 : Int32) : ∀ (n : Nat) (l5 : Int32) (σ : j_G), j_J true τ M_cX9_good d 9 [some (.ref 30), some (.ref 1), some (.ref 22), some (.ref 29), some (.int l4), some (.int l5)] [] σ (p_X9_good_9 22 25 23 24 30 26 29 33 34 31 32 l4 n l5 σ) (fun r Q => j_Tr true τ M_cX9_good d 45 [some (.ref 30), none, none, none, none, none] [] r Q) := by
  intro n
  induction n with
  | zero => intro l5 σ; exact j_none
  | succ n ih =>
    intro l5 σ
    unfold p_X9_good_9
    refine j_iload (pc' := 11) rfl rfl rfl ?_
    refine j_aload_n (pc' := 12) rfl rfl rfl ?_
    refine j_gfi (pc' := 15) rfl rfl j_a22 rfl ?_
    refine j_two (pT := 18) (pF := 45) (L1 := [some (.ref 30), some (.ref 1), some (.ref 22), some (.ref 29), some (.int l4), some (.int l5)]) (st1 := []) (fun o kT kF => ?_) (fun h3 => ?_) (fun h3 => ?_)
    · refine j_icge (t := 45) (pc' := 18) rfl rfl rfl (fun h4 => ?_) (fun h4 => ?_)
      · exact kF h4
      · exact kT h4
    · refine j_aload_n (pc' := 19) rfl rfl rfl ?_
      refine j_gfr (pc' := 22) (x := 25) rfl rfl j_a22 rfl rfl ?_
      refine j_iload (pc' := 24) rfl rfl rfl ?_
      refine j_iald (pc' := 25) rfl rfl j_a25 ?_
      refine j_q1 (Φl := (fun r Q => j_Tr true τ M_cX9_good d 39 [some (.ref 30), some (.ref 1), some (.ref 22), some (.ref 29), some (.int l4), some (.int l5)] [] r Q)) ?_ (fun σ1 => ?_)
      · refine j_two (pT := 28) (pF := 39) (L1 := [some (.ref 30), some (.ref 1), some (.ref 22), some (.ref 29), some (.int l4), some (.int l5)]) (st1 := []) (fun o kT kF => ?_) (fun h1 => ?_) (fun h1 => ?_)
        · refine j_ifne (t := 39) (pc' := 28) rfl rfl rfl (fun h2 => ?_) (fun h2 => ?_)
          · exact kF h2
          · exact kT h2
        · refine j_aload_n (pc' := 29) rfl rfl rfl ?_
          refine j_aload_n (pc' := 30) rfl rfl rfl ?_
          refine j_aload_n (pc' := 31) rfl rfl rfl ?_
          refine j_aload_n (pc' := 32) rfl rfl rfl ?_
          refine j_iload (pc' := 34) rfl rfl rfl ?_
          refine j_iload (pc' := 36) rfl rfl rfl ?_
          refine j_callRv (pc' := 39) (ai := 103) (vs := [.ref 30, .ref 1, .ref 22, .ref 29, .int l5, .int l4]) (rest := []) rfl rfl (fun _ _ => rfl) (c_X9_goFor_30_1_22_29 l5 l4 σ) (j_dd rfl hd) rfl (fun σ2 => ?_)
          exact j_end (fun _ h => h)
        · exact j_end (fun _ h => h)
      show j_J true τ M_cX9_good d 39 [some (.ref 30), some (.ref 1), some (.ref 22), some (.ref 29), some (.int l4), some (.int l5)] [] σ1 _ _
      refine j_iincx (pc' := 42) (y := (1 : Int32)) (L' := [some (.ref 30), some (.ref 1), some (.ref 22), some (.ref 29), some (.int l4), some (.int (l5 + (1 : Int32)))]) rfl rfl rfl rfl rfl ?_
      refine j_goto (t := 9) rfl rfl ?_
      exact ih (l5 + (1 : Int32)) σ1
    · refine j_wk [true, false, false, false, false, false] (L' := [some (.ref 30), none, none, none, none, none]) rfl ?_
      exact j_end (fun _ h => h)

theorem c_X9_good_30_1_22_29 (l4 : Int32) (σ : j_G) : j_K true 4 100 [.ref 30, .ref 1, .ref 22, .ref 29, .int l4] σ (f_X9_good 30 29 22 31 32 25 23 24 26 33 34 l4 σ) j_Ri := by
  refine j_mkK (M := M_cX9_good) (L := [some (.ref 30), some (.ref 1), some (.ref 22), some (.ref 29), some (.int l4), none]) (m := 1) t_100 rfl (j_rcvO j_a30 rfl) rfl (fun d hd τ => ?_)
  unfold f_X9_good
  refine j_aload_n (pc' := 1) rfl rfl rfl ?_
  refine j_aload_n (pc' := 2) rfl rfl rfl ?_
  refine j_aload_n (pc' := 3) rfl rfl rfl ?_
  refine j_callRv (pc' := 6) (ai := 102) (vs := [.ref 30, .ref 22, .ref 29]) (rest := []) rfl rfl (fun _ _ => rfl) (c_X9_begin_30_22_29  σ) (j_dd rfl hd) rfl (fun σ1 => ?_)
  refine j_iconst (pc' := 7) (x := (0 : Int32)) rfl rfl rfl ?_
  refine j_istore (pc' := 9) (L' := [some (.ref 30), some (.ref 1), some (.ref 22), some (.ref 29), some (.int l4), some (.int (0 : Int32))]) rfl rfl rfl ?_
  refine j_q1 (l_X9_good_9_30_1_22_29 hd τ l4 j_F (0 : Int32) σ1) (fun σ2 => ?_)
  show j_J true τ M_cX9_good d 45 [some (.ref 30), none, none, none, none, none] [] σ2 _ _
  refine j_aload_n (pc' := 46) rfl rfl rfl ?_
  refine j_gfi (pc' := 49) rfl rfl j_a30 rfl ?_
  exact j_ret rfl rfl rfl (fun _ h => h)

noncomputable def p_X11_two_77 (l3 : Int32) (l4 : Int32) (l5 : Int32) : Nat → Int32 → Int32 → Int32 → j_G → Option (Int32 × Int32 × j_G)
  | 0, _, _, _, _ => none
  | n + 1, l6, l7, l8, σ =>
    if (¬ l4 < l8) ∧ (l6 < l5) then (j_b3 (if ¬ (l8 &&& (l4 ^^^ (-1 : Int32))) = 0 then (some (l6, l7, σ)) else (j_b2 (f_X9_good 30 28 22 31 32 25 23 24 26 33 34 l8 σ) fun v5 σ4 =>
    j_b1 (f_X4_goodIn (l4 &&& (l8 ^^^ (-1 : Int32))) σ4) fun v6 =>
    if l6 < (v5 + v6) then (j_b2 (f_X9_good 30 29 22 31 32 25 23 24 26 33 34 (l4 &&& (l8 ^^^ (-1 : Int32))) σ4) fun v8 σ7 =>
    j_lt (v5 + v8) fun v9 =>
    if l6 < v9 then (some (v9, l8, σ7)) else (some (l6, l7, σ7))) else (some (l6, l7, σ4)))) fun v1 v2 σ3 =>
    p_X11_two_77 l3 l4 l5 n v1 v2 (l8 + (1 : Int32)) σ3) else (some (l6, l7, σ))

noncomputable def f_X11_two (l1 : Int32) (l2 : Int32) (l3 : Int32) (σ : j_G) : Option (Int32 × j_G) :=
  if (¬ l3 < 0) ∧ ((¬ (1 : Int32) < l3) ∧ ((¬ l1 = l2) ∧ (¬ (f_X2_isPlayer l2 σ) = 0))) then (j_b2 (f_X11_makeReady l1 σ) fun v2 σ1 =>
  if v2 = 0 then (some ((-2 : Int32), σ1)) else (j_b1 (f_X6_take 29 l2 σ1) fun σ3 =>
  j_b1 (f_X4_goodHoles σ3) fun v4 =>
  j_b1 (f_X4_goodIn v4 σ3) fun v5 =>
  j_b3 (p_X11_two_77 l3 v4 v5 j_F (-1 : Int32) (0 : Int32) (0 : Int32) σ3) fun v6 v7 σ8 =>
  if l3 = 0 then (some (v6, σ8)) else (some (v7, σ8)))) else (some ((-2 : Int32), σ))
theorem l_X11_two_77 {d : Nat} (hd : 5 ≤ d) (τ : j_G) (l3 : Int32) (l4 : Int32) (l5 : Int32) : ∀ (n : Nat) (l6 : Int32) (l7 : Int32) (l8 : Int32) (σ : j_G), j_J true τ M_cX11_two d 77 [some (.ref 0), none, none, some (.int l3), some (.int l4), some (.int l5), some (.int l6), some (.int l7), some (.int l8), none] [] σ (p_X11_two_77 l3 l4 l5 n l6 l7 l8 σ) (fun r Q => j_Tr true τ M_cX11_two d 201 [none, none, none, some (.int l3), none, none, some (.int r.1), some (.int r.2.1), none, none] [] r.2.2 Q) := by
  intro n
  induction n with
  | zero => intro l6 l7 l8 σ; exact j_none
  | succ n ih =>
    intro l6 l7 l8 σ
    unfold p_X11_two_77
    refine j_iload (pc' := 79) rfl rfl rfl ?_
    refine j_iload (pc' := 81) rfl rfl rfl ?_
    refine j_two (pT := 91) (pF := 201) (L1 := [some (.ref 0), none, none, some (.int l3), some (.int l4), some (.int l5), some (.int l6), some (.int l7), some (.int l8), none]) (st1 := []) (fun o kT kF => ?_) (fun h7 => ?_) (fun h7 => ?_)
    · refine j_icgt (t := 201) (pc' := 84) rfl rfl rfl (fun h8 => ?_) (fun h8 => ?_)
      · exact kF (fun z => z.1 h8)
      · refine j_iload (pc' := 86) rfl rfl rfl ?_
        refine j_iload (pc' := 88) rfl rfl rfl ?_
        refine j_icge (t := 201) (pc' := 91) rfl rfl rfl (fun h9 => ?_) (fun h9 => ?_)
        · exact kF (fun z => (h9) z.2)
        · exact kT (⟨h8, h9⟩)
    · refine j_iload (pc' := 93) rfl rfl rfl ?_
      refine j_iload (pc' := 95) rfl rfl rfl ?_
      refine j_iconst (pc' := 96) (x := (-1 : Int32)) rfl rfl rfl ?_
      refine j_ixor (pc' := 97) rfl rfl ?_
      refine j_iand (pc' := 98) rfl rfl ?_
      refine j_q3 (Φl := (fun r Q => j_Tr true τ M_cX11_two d 195 [some (.ref 0), none, none, some (.int l3), some (.int l4), some (.int l5), some (.int r.1), some (.int r.2.1), some (.int l8), none] [] r.2.2 Q)) ?_ (fun v1 v2 σ3 => ?_)
      · refine j_two (pT := 101) (pF := 104) (L1 := [some (.ref 0), none, none, some (.int l3), some (.int l4), some (.int l5), some (.int l6), some (.int l7), some (.int l8), none]) (st1 := []) (fun o kT kF => ?_) (fun h5 => ?_) (fun h5 => ?_)
        · refine j_ifeq (t := 104) (pc' := 101) rfl rfl rfl (fun h6 => ?_) (fun h6 => ?_)
          · exact kF (fun z => z h6)
          · exact kT h6
        · refine j_goto (t := 195) rfl rfl ?_
          exact j_end (fun _ h => h)
        · refine j_aload_n (pc' := 105) rfl rfl rfl ?_
          refine j_gfr (pc' := 108) (x := 30) rfl rfl j_a0 rfl rfl ?_
          refine j_aload_n (pc' := 109) rfl rfl rfl ?_
          refine j_gfr (pc' := 112) (x := 1) rfl rfl j_a0 rfl rfl ?_
          refine j_aload_n (pc' := 113) rfl rfl rfl ?_
          refine j_gfr (pc' := 116) (x := 22) rfl rfl j_a0 rfl rfl ?_
          refine j_aload_n (pc' := 117) rfl rfl rfl ?_
          refine j_gfr (pc' := 120) (x := 28) rfl rfl j_a0 rfl rfl ?_
          refine j_iload (pc' := 122) rfl rfl rfl ?_
          refine j_callRi (pc' := 125) (ai := 100) (vs := [.ref 30, .ref 1, .ref 22, .ref 28, .int l8]) (rest := []) rfl rfl (fun _ _ => rfl) (c_X9_good_30_1_22_28 l8 σ) (j_dd rfl hd) rfl (fun v5 σ4 => ?_)
          refine j_istore (pc' := 127) (L' := [some (.ref 0), none, none, some (.int l3), some (.int l4), some (.int l5), some (.int l6), some (.int l7), some (.int l8), some (.int v5)]) rfl rfl rfl ?_
          refine j_iload (pc' := 129) rfl rfl rfl ?_
          refine j_aload_n (pc' := 130) rfl rfl rfl ?_
          refine j_gfr (pc' := 133) (x := 22) rfl rfl j_a0 rfl rfl ?_
          refine j_iload (pc' := 135) rfl rfl rfl ?_
          refine j_iload (pc' := 137) rfl rfl rfl ?_
          refine j_iconst (pc' := 138) (x := (-1 : Int32)) rfl rfl rfl ?_
          refine j_ixor (pc' := 139) rfl rfl ?_
          refine j_iand (pc' := 140) rfl rfl ?_
          refine j_callPi (pc' := 143) (ai := 51) (vs := [.ref 22, .int (l4 &&& (l8 ^^^ (-1 : Int32)))]) (rest := [.int v5]) rfl rfl (fun _ _ => rfl) (c_X4_goodIn (l4 &&& (l8 ^^^ (-1 : Int32))) σ4) (j_dd rfl hd) rfl (fun v6 => ?_)
          refine j_iadd (pc' := 144) rfl rfl ?_
          refine j_iload (pc' := 146) rfl rfl rfl ?_
          refine j_two (pT := 149) (pF := 195) (L1 := [some (.ref 0), none, none, some (.int l3), some (.int l4), some (.int l5), some (.int l6), some (.int l7), some (.int l8), some (.int v5)]) (st1 := []) (fun o kT kF => ?_) (fun h3 => ?_) (fun h3 => ?_)
          · refine j_icle (t := 195) (pc' := 149) rfl rfl rfl (fun h4 => ?_) (fun h4 => ?_)
            · exact kF h4
            · exact kT h4
          · refine j_iload (pc' := 151) rfl rfl rfl ?_
            refine j_aload_n (pc' := 152) rfl rfl rfl ?_
            refine j_gfr (pc' := 155) (x := 30) rfl rfl j_a0 rfl rfl ?_
            refine j_aload_n (pc' := 156) rfl rfl rfl ?_
            refine j_gfr (pc' := 159) (x := 1) rfl rfl j_a0 rfl rfl ?_
            refine j_aload_n (pc' := 160) rfl rfl rfl ?_
            refine j_gfr (pc' := 163) (x := 22) rfl rfl j_a0 rfl rfl ?_
            refine j_aload_n (pc' := 164) rfl rfl rfl ?_
            refine j_gfr (pc' := 167) (x := 29) rfl rfl j_a0 rfl rfl ?_
            refine j_iload (pc' := 169) rfl rfl rfl ?_
            refine j_iload (pc' := 171) rfl rfl rfl ?_
            refine j_iconst (pc' := 172) (x := (-1 : Int32)) rfl rfl rfl ?_
            refine j_ixor (pc' := 173) rfl rfl ?_
            refine j_iand (pc' := 174) rfl rfl ?_
            refine j_callRi (pc' := 177) (ai := 100) (vs := [.ref 30, .ref 1, .ref 22, .ref 29, .int (l4 &&& (l8 ^^^ (-1 : Int32)))]) (rest := [.int v5]) rfl rfl (fun _ _ => rfl) (c_X9_good_30_1_22_29 (l4 &&& (l8 ^^^ (-1 : Int32))) σ4) (j_dd rfl hd) rfl (fun v8 σ7 => ?_)
            refine j_iadd (pc' := 178) rfl rfl ?_
            refine j_leti (fun v9 => ?_)
            refine j_istore (pc' := 180) (L' := [some (.ref 0), none, none, some (.int l3), some (.int l4), some (.int l5), some (.int l6), some (.int l7), some (.int l8), some (.int v9)]) rfl rfl rfl ?_
            refine j_iload (pc' := 182) rfl rfl rfl ?_
            refine j_iload (pc' := 184) rfl rfl rfl ?_
            refine j_two (pT := 187) (pF := 195) (L1 := [some (.ref 0), none, none, some (.int l3), some (.int l4), some (.int l5), some (.int l6), some (.int l7), some (.int l8), some (.int v9)]) (st1 := []) (fun o kT kF => ?_) (fun h1 => ?_) (fun h1 => ?_)
            · refine j_icle (t := 195) (pc' := 187) rfl rfl rfl (fun h2 => ?_) (fun h2 => ?_)
              · exact kF h2
              · exact kT h2
            · refine j_iload (pc' := 189) rfl rfl rfl ?_
              refine j_istore (pc' := 191) (L' := [some (.ref 0), none, none, some (.int l3), some (.int l4), some (.int l5), some (.int v9), some (.int l7), some (.int l8), some (.int v9)]) rfl rfl rfl ?_
              refine j_iload (pc' := 193) rfl rfl rfl ?_
              refine j_istore (pc' := 195) (L' := [some (.ref 0), none, none, some (.int l3), some (.int l4), some (.int l5), some (.int v9), some (.int l8), some (.int l8), some (.int v9)]) rfl rfl rfl ?_
              refine j_wk [true, true, true, true, true, true, true, true, true, false] (L' := [some (.ref 0), none, none, some (.int l3), some (.int l4), some (.int l5), some (.int v9), some (.int l8), some (.int l8), none]) rfl ?_
              exact j_end (fun _ h => h)
            · refine j_wk [true, true, true, true, true, true, true, true, true, false] (L' := [some (.ref 0), none, none, some (.int l3), some (.int l4), some (.int l5), some (.int l6), some (.int l7), some (.int l8), none]) rfl ?_
              exact j_end (fun _ h => h)
          · refine j_wk [true, true, true, true, true, true, true, true, true, false] (L' := [some (.ref 0), none, none, some (.int l3), some (.int l4), some (.int l5), some (.int l6), some (.int l7), some (.int l8), none]) rfl ?_
            exact j_end (fun _ h => h)
      show j_J true τ M_cX11_two d 195 [some (.ref 0), none, none, some (.int l3), some (.int l4), some (.int l5), some (.int v1), some (.int v2), some (.int l8), none] [] σ3 _ _
      refine j_iincx (pc' := 198) (y := (1 : Int32)) (L' := [some (.ref 0), none, none, some (.int l3), some (.int l4), some (.int l5), some (.int v1), some (.int v2), some (.int (l8 + (1 : Int32))), none]) rfl rfl rfl rfl rfl ?_
      refine j_goto (t := 77) rfl rfl ?_
      exact ih v1 v2 (l8 + (1 : Int32)) σ3
    · refine j_wk [false, true, true, true, false, false, true, true, false, true] (L' := [none, none, none, some (.int l3), none, none, some (.int l6), some (.int l7), none, none]) rfl ?_
      exact j_end (fun _ h => h)

theorem c_X11_two (l1 : Int32) (l2 : Int32) (l3 : Int32) (σ : j_G) : j_K true 5 159 [.ref 0, .int l1, .int l2, .int l3] σ (f_X11_two l1 l2 l3 σ) j_Ri := by
  refine j_mkK (M := M_cX11_two) (L := [some (.ref 0), some (.int l1), some (.int l2), some (.int l3), none, none, none, none, none, none]) (m := 6) t_159 rfl (j_rcvO j_a0 rfl) rfl (fun d hd τ => ?_)
  unfold f_X11_two
  refine j_iload_n (pc' := 1) rfl rfl rfl ?_
  refine j_two (pT := 25) (pF := 33) (L1 := [some (.ref 0), some (.int l1), some (.int l2), some (.int l3), none, none, none, none, none, none]) (st1 := []) (fun o kT kF => ?_) (fun h5 => ?_) (fun h5 => ?_)
  · refine j_iflt (t := 33) (pc' := 4) rfl rfl rfl (fun h6 => ?_) (fun h6 => ?_)
    · exact kF (fun z => z.1 h6)
    · refine j_iload_n (pc' := 5) rfl rfl rfl ?_
      refine j_iconst (pc' := 6) (x := (1 : Int32)) rfl rfl rfl ?_
      refine j_icgt (t := 33) (pc' := 9) rfl rfl rfl (fun h7 => ?_) (fun h7 => ?_)
      · exact kF (fun z => (fun z => z.1 h7) z.2)
      · refine j_iload_n (pc' := 10) rfl rfl rfl ?_
        refine j_iload_n (pc' := 11) rfl rfl rfl ?_
        refine j_iceq (t := 33) (pc' := 14) rfl rfl rfl (fun h8 => ?_) (fun h8 => ?_)
        · exact kF (fun z => (fun z => (fun z => z.1 h8) z.2) z.2)
        · refine j_aload_n (pc' := 15) rfl rfl rfl ?_
          refine j_gfr (pc' := 18) (x := 1) rfl rfl j_a0 rfl rfl ?_
          refine j_iload_n (pc' := 19) rfl rfl rfl ?_
          refine j_callTi (pc' := 22) (ai := 15) (vs := [.ref 1, .int l2]) (rest := []) rfl rfl (fun _ _ => rfl) (c_X2_isPlayer l2 σ) (j_dd rfl hd) rfl ?_
          refine j_ifeq (t := 33) (pc' := 25) rfl rfl rfl (fun h9 => ?_) (fun h9 => ?_)
          · exact kF (fun z => (fun z => (fun z => (fun z => z h9) z.2) z.2) z.2)
          · exact kT (⟨h6, ⟨h7, ⟨h8, h9⟩⟩⟩)
  · refine j_aload_n (pc' := 26) rfl rfl rfl ?_
    refine j_iload_n (pc' := 27) rfl rfl rfl ?_
    refine j_callRi (pc' := 30) (ai := 186) (vs := [.ref 0, .int l1]) (rest := []) rfl rfl (fun _ _ => rfl) (c_X11_makeReady l1 σ) (j_dd rfl hd) rfl (fun v2 σ1 => ?_)
    refine j_two (pT := 33) (pF := 36) (L1 := [some (.ref 0), some (.int l1), some (.int l2), some (.int l3), none, none, none, none, none, none]) (st1 := []) (fun o kT kF => ?_) (fun h3 => ?_) (fun h3 => ?_)
    · refine j_ifne (t := 36) (pc' := 33) rfl rfl rfl (fun h4 => ?_) (fun h4 => ?_)
      · exact kF h4
      · exact kT h4
    · refine j_bipush (pc' := 35) (x := (-2 : Int32)) rfl rfl rfl ?_
      exact j_ret rfl rfl rfl (fun _ h => h)
    · refine j_aload_n (pc' := 37) rfl rfl rfl ?_
      refine j_gfr (pc' := 40) (x := 29) rfl rfl j_a0 rfl rfl ?_
      refine j_aload_n (pc' := 41) rfl rfl rfl ?_
      refine j_gfr (pc' := 44) (x := 1) rfl rfl j_a0 rfl rfl ?_
      refine j_iload_n (pc' := 45) rfl rfl rfl ?_
      refine j_callRv (pc' := 48) (ai := 64) (vs := [.ref 29, .ref 1, .int l2]) (rest := []) rfl rfl (fun _ _ => rfl) (c_X6_take_29_1 l2 σ1) (j_dd rfl hd) rfl (fun σ3 => ?_)
      refine j_aload_n (pc' := 49) rfl rfl rfl ?_
      refine j_gfr (pc' := 52) (x := 22) rfl rfl j_a0 rfl rfl ?_
      refine j_callPi (pc' := 55) (ai := 50) (vs := [.ref 22]) (rest := []) rfl rfl (fun _ _ => rfl) (c_X4_goodHoles  σ3) (j_dd rfl hd) rfl (fun v4 => ?_)
      refine j_istore (pc' := 57) (L' := [some (.ref 0), some (.int l1), some (.int l2), some (.int l3), some (.int v4), none, none, none, none, none]) rfl rfl rfl ?_
      refine j_aload_n (pc' := 58) rfl rfl rfl ?_
      refine j_gfr (pc' := 61) (x := 22) rfl rfl j_a0 rfl rfl ?_
      refine j_iload (pc' := 63) rfl rfl rfl ?_
      refine j_callPi (pc' := 66) (ai := 51) (vs := [.ref 22, .int v4]) (rest := []) rfl rfl (fun _ _ => rfl) (c_X4_goodIn v4 σ3) (j_dd rfl hd) rfl (fun v5 => ?_)
      refine j_istore (pc' := 68) (L' := [some (.ref 0), some (.int l1), some (.int l2), some (.int l3), some (.int v4), some (.int v5), none, none, none, none]) rfl rfl rfl ?_
      refine j_iconst (pc' := 69) (x := (-1 : Int32)) rfl rfl rfl ?_
      refine j_istore (pc' := 71) (L' := [some (.ref 0), some (.int l1), some (.int l2), some (.int l3), some (.int v4), some (.int v5), some (.int (-1 : Int32)), none, none, none]) rfl rfl rfl ?_
      refine j_iconst (pc' := 72) (x := (0 : Int32)) rfl rfl rfl ?_
      refine j_istore (pc' := 74) (L' := [some (.ref 0), some (.int l1), some (.int l2), some (.int l3), some (.int v4), some (.int v5), some (.int (-1 : Int32)), some (.int (0 : Int32)), none, none]) rfl rfl rfl ?_
      refine j_iconst (pc' := 75) (x := (0 : Int32)) rfl rfl rfl ?_
      refine j_istore (pc' := 77) (L' := [some (.ref 0), some (.int l1), some (.int l2), some (.int l3), some (.int v4), some (.int v5), some (.int (-1 : Int32)), some (.int (0 : Int32)), some (.int (0 : Int32)), none]) rfl rfl rfl ?_
      refine j_wk [true, false, false, true, true, true, true, true, true, true] (L' := [some (.ref 0), none, none, some (.int l3), some (.int v4), some (.int v5), some (.int (-1 : Int32)), some (.int (0 : Int32)), some (.int (0 : Int32)), none]) rfl ?_
      refine j_q3 (l_X11_two_77 hd τ l3 v4 v5 j_F (-1 : Int32) (0 : Int32) (0 : Int32) σ3) (fun v6 v7 σ8 => ?_)
      show j_J true τ M_cX11_two d 201 [none, none, none, some (.int l3), none, none, some (.int v6), some (.int v7), none, none] [] σ8 _ _
      refine j_iload_n (pc' := 202) rfl rfl rfl ?_
      refine j_two (pT := 205) (pF := 210) (L1 := [none, none, none, some (.int l3), none, none, some (.int v6), some (.int v7), none, none]) (st1 := []) (fun o kT kF => ?_) (fun h1 => ?_) (fun h1 => ?_)
      · refine j_ifne (t := 210) (pc' := 205) rfl rfl rfl (fun h2 => ?_) (fun h2 => ?_)
        · exact kF h2
        · exact kT h2
      · refine j_iload (pc' := 207) rfl rfl rfl ?_
        refine j_goto (t := 212) rfl rfl ?_
        exact j_ret rfl rfl rfl (fun _ h => h)
      · refine j_iload (pc' := 212) rfl rfl rfl ?_
        exact j_ret rfl rfl rfl (fun _ h => h)
  · refine j_bipush (pc' := 35) (x := (-2 : Int32)) rfl rfl rfl ?_
    exact j_ret rfl rfl rfl (fun _ h => h)

noncomputable def f_X12_hitsOn (l1 : Int32) (l2 : Int32) (σ : j_G) : Option (Int32 × j_G) :=
  j_b1 (f_X12_asTold l1 σ) fun σ1 =>
  j_lt (j_si σ1 75 23 l2) fun σ2 =>
  j_b1 (f_X12_run σ2) fun σ3 =>
  some ((σ3.1 75 29), σ3)
theorem c_X12_hitsOn (l1 : Int32) (l2 : Int32) (σ : j_G) : j_K false 5 318 [.ref 75, .int l1, .int l2] σ (f_X12_hitsOn l1 l2 σ) j_Ri := by
  refine j_mkK (M := M_cX12_hitsOn) (L := [some (.ref 75), some (.int l1), some (.int l2)]) (m := 0) t_318 rfl (j_rcvO j_a75 rfl) rfl (fun d hd τ => ?_)
  unfold f_X12_hitsOn
  refine j_aload_n (pc' := 1) rfl rfl rfl ?_
  refine j_iload_n (pc' := 2) rfl rfl rfl ?_
  refine j_callRv (pc' := 5) (ai := 252) (vs := [.ref 75, .int l1]) (rest := []) rfl rfl (fun _ _ => rfl) (c_X12_asTold l1 σ) (j_dd rfl hd) rfl (fun σ1 => ?_)
  refine j_aload_n (pc' := 6) rfl rfl rfl ?_
  refine j_iload_n (pc' := 7) rfl rfl rfl ?_
  refine j_pfi (pc' := 10) rfl rfl j_a75 rfl rfl (fun σ2 => ?_)
  refine j_aload_n (pc' := 11) rfl rfl rfl ?_
  refine j_callRv (pc' := 14) (ai := 258) (vs := [.ref 75]) (rest := []) rfl rfl (fun _ _ => rfl) (c_X12_run  σ2) (j_dd rfl hd) rfl (fun σ3 => ?_)
  refine j_aload_n (pc' := 15) rfl rfl rfl ?_
  refine j_gfi (pc' := 18) rfl rfl j_a75 rfl ?_
  exact j_ret rfl rfl rfl (fun _ h => h)

noncomputable def p_X12_two_57 (l1 : Int32) (l2 : Int32) (l3 : Int32) (l4 : Int32) : Nat → Int32 → Int32 → Int32 → j_G → Option (Int32 × Int32 × j_G)
  | 0, _, _, _, _ => none
  | n + 1, l5, l6, l7, σ =>
    if ¬ l4 < l7 then (j_b2 (f_X12_hitsOn l1 l7 σ) fun v2 σ1 =>
    j_b2 (f_X12_hitsOn l2 (l4 &&& (l7 ^^^ (-1 : Int32))) σ1) fun v4 σ3 =>
    j_lt (v2 + v4) fun v5 =>
    j_lt (if ¬ l6 < v5 then ((l5, l6)) else ((l7, v5))) fun r8 =>
    p_X12_two_57 l1 l2 l3 l4 n (r8.1) (r8.2) (l7 + (1 : Int32)) σ3) else (some (l5, l6, σ))

noncomputable def f_X12_two (l1 : Int32) (l2 : Int32) (l3 : Int32) (σ : j_G) : Option (Int32 × j_G) :=
  j_b1 (f_X12_isPlayer l1 σ) fun v1 =>
  if ¬ v1 = 0 then (j_b1 (f_X12_isPlayer l2 σ) fun v2 =>
  if (v2 = 0) ∨ ((l1 = l2) ∨ ((f_X12_in (l3).toInt64 (0 : Int64) (1 : Int64)) = 0)) then (some ((-2 : Int32), σ)) else (j_b1 (f_X12_lay σ) fun σ3 =>
  j_b1 (f_X12_holes σ3) fun v4 =>
  j_lt (((1 : Int32) <<< (v4 &&& 31)) - (1 : Int32)) fun v5 =>
  j_b3 (p_X12_two_57 l1 l2 l3 v5 j_F (0 : Int32) (-1 : Int32) (0 : Int32) σ3) fun v6 v7 σ8 =>
  if l3 = 0 then (some (v7, σ8)) else (some (v6, σ8)))) else (some ((-2 : Int32), σ))
theorem l_X12_two_57 {d : Nat} (hd : 6 ≤ d) (τ : j_G) (l1 : Int32) (l2 : Int32) (l3 : Int32) (l4 : Int32) : ∀ (n : Nat) (l5 : Int32) (l6 : Int32) (l7 : Int32) (σ : j_G), j_J false τ M_cX12_two d 57 [some (.ref 75), some (.int l1), some (.int l2), some (.int l3), some (.int l4), some (.int l5), some (.int l6), some (.int l7), none] [] σ (p_X12_two_57 l1 l2 l3 l4 n l5 l6 l7 σ) (fun r Q => j_Tr false τ M_cX12_two d 110 [none, none, none, some (.int l3), none, some (.int r.1), some (.int r.2.1), none, none] [] r.2.2 Q) := by
  intro n
  induction n with
  | zero => intro l5 l6 l7 σ; exact j_none
  | succ n ih =>
    intro l5 l6 l7 σ
    unfold p_X12_two_57
    refine j_iload (pc' := 59) rfl rfl rfl ?_
    refine j_iload (pc' := 61) rfl rfl rfl ?_
    refine j_two (pT := 64) (pF := 110) (L1 := [some (.ref 75), some (.int l1), some (.int l2), some (.int l3), some (.int l4), some (.int l5), some (.int l6), some (.int l7), none]) (st1 := []) (fun o kT kF => ?_) (fun h3 => ?_) (fun h3 => ?_)
    · refine j_icgt (t := 110) (pc' := 64) rfl rfl rfl (fun h4 => ?_) (fun h4 => ?_)
      · exact kF (fun z => z h4)
      · exact kT h4
    · refine j_aload_n (pc' := 65) rfl rfl rfl ?_
      refine j_iload_n (pc' := 66) rfl rfl rfl ?_
      refine j_iload (pc' := 68) rfl rfl rfl ?_
      refine j_callRi (pc' := 71) (ai := 318) (vs := [.ref 75, .int l1, .int l7]) (rest := []) rfl rfl (fun _ _ => rfl) (c_X12_hitsOn l1 l7 σ) (j_dd rfl hd) rfl (fun v2 σ1 => ?_)
      refine j_aload_n (pc' := 72) rfl rfl rfl ?_
      refine j_iload_n (pc' := 73) rfl rfl rfl ?_
      refine j_iload (pc' := 75) rfl rfl rfl ?_
      refine j_iload (pc' := 77) rfl rfl rfl ?_
      refine j_iconst (pc' := 78) (x := (-1 : Int32)) rfl rfl rfl ?_
      refine j_ixor (pc' := 79) rfl rfl ?_
      refine j_iand (pc' := 80) rfl rfl ?_
      refine j_callRi (pc' := 83) (ai := 318) (vs := [.ref 75, .int l2, .int (l4 &&& (l7 ^^^ (-1 : Int32)))]) (rest := [.int v2]) rfl rfl (fun _ _ => rfl) (c_X12_hitsOn l2 (l4 &&& (l7 ^^^ (-1 : Int32))) σ1) (j_dd rfl hd) rfl (fun v4 σ3 => ?_)
      refine j_iadd (pc' := 84) rfl rfl ?_
      refine j_leti (fun v5 => ?_)
      refine j_istore (pc' := 86) (L' := [some (.ref 75), some (.int l1), some (.int l2), some (.int l3), some (.int l4), some (.int l5), some (.int l6), some (.int l7), some (.int v5)]) rfl rfl rfl ?_
      refine j_iload (pc' := 88) rfl rfl rfl ?_
      refine j_iload (pc' := 90) rfl rfl rfl ?_
      refine j_ql (Φl := (fun r Q => j_Tr false τ M_cX12_two d 104 [some (.ref 75), some (.int l1), some (.int l2), some (.int l3), some (.int l4), some (.int r.1), some (.int r.2), some (.int l7), none] [] σ3 Q)) ?_ (fun r8 => ?_)
      · refine j_twoT (pT := 93) (pF := 96) (L1 := [some (.ref 75), some (.int l1), some (.int l2), some (.int l3), some (.int l4), some (.int l5), some (.int l6), some (.int l7), some (.int v5)]) (st1 := []) (fun o kT kF => ?_) (fun h1 => ?_) (fun h1 => ?_)
        · refine j_icgt (t := 96) (pc' := 93) rfl rfl rfl (fun h2 => ?_) (fun h2 => ?_)
          · exact kF (fun z => z h2)
          · exact kT h2
        · refine j_goto (t := 104) rfl rfl ?_
          refine j_wk [true, true, true, true, true, true, true, true, false] (L' := [some (.ref 75), some (.int l1), some (.int l2), some (.int l3), some (.int l4), some (.int l5), some (.int l6), some (.int l7), none]) rfl ?_
          exact j_end (fun _ h => h)
        · refine j_iload (pc' := 98) rfl rfl rfl ?_
          refine j_istore (pc' := 100) (L' := [some (.ref 75), some (.int l1), some (.int l2), some (.int l3), some (.int l4), some (.int l5), some (.int v5), some (.int l7), some (.int v5)]) rfl rfl rfl ?_
          refine j_iload (pc' := 102) rfl rfl rfl ?_
          refine j_istore (pc' := 104) (L' := [some (.ref 75), some (.int l1), some (.int l2), some (.int l3), some (.int l4), some (.int l7), some (.int v5), some (.int l7), some (.int v5)]) rfl rfl rfl ?_
          refine j_wk [true, true, true, true, true, true, true, true, false] (L' := [some (.ref 75), some (.int l1), some (.int l2), some (.int l3), some (.int l4), some (.int l7), some (.int v5), some (.int l7), none]) rfl ?_
          exact j_end (fun _ h => h)
      show j_J false τ M_cX12_two d 104 [some (.ref 75), some (.int l1), some (.int l2), some (.int l3), some (.int l4), some (.int (r8.1)), some (.int (r8.2)), some (.int l7), none] [] σ3 _ _
      refine j_iincx (pc' := 107) (y := (1 : Int32)) (L' := [some (.ref 75), some (.int l1), some (.int l2), some (.int l3), some (.int l4), some (.int (r8.1)), some (.int (r8.2)), some (.int (l7 + (1 : Int32))), none]) rfl rfl rfl rfl rfl ?_
      refine j_goto (t := 57) rfl rfl ?_
      exact ih (r8.1) (r8.2) (l7 + (1 : Int32)) σ3
    · refine j_wk [false, false, false, true, false, true, true, false, true] (L' := [none, none, none, some (.int l3), none, some (.int l5), some (.int l6), none, none]) rfl ?_
      exact j_end (fun _ h => h)

theorem c_X12_two (l1 : Int32) (l2 : Int32) (l3 : Int32) (σ : j_G) : j_K false 6 319 [.ref 75, .int l1, .int l2, .int l3] σ (f_X12_two l1 l2 l3 σ) j_Ri := by
  refine j_mkK (M := M_cX12_two) (L := [some (.ref 75), some (.int l1), some (.int l2), some (.int l3), none, none, none, none, none]) (m := 5) t_319 rfl (j_rcvO j_a75 rfl) rfl (fun d hd τ => ?_)
  unfold f_X12_two
  refine j_aload_n (pc' := 1) rfl rfl rfl ?_
  refine j_iload_n (pc' := 2) rfl rfl rfl ?_
  refine j_callPi (pc' := 5) (ai := 205) (vs := [.ref 75, .int l1]) (rest := []) rfl rfl (fun _ _ => rfl) (c_X12_isPlayer l1 σ) (j_dd rfl hd) rfl (fun v1 => ?_)
  refine j_two (pT := 8) (pF := 31) (L1 := [some (.ref 75), some (.int l1), some (.int l2), some (.int l3), none, none, none, none, none]) (st1 := []) (fun o kT kF => ?_) (fun h7 => ?_) (fun h7 => ?_)
  · refine j_ifeq (t := 31) (pc' := 8) rfl rfl rfl (fun h8 => ?_) (fun h8 => ?_)
    · exact kF (fun z => z h8)
    · exact kT h8
  · refine j_aload_n (pc' := 9) rfl rfl rfl ?_
    refine j_iload_n (pc' := 10) rfl rfl rfl ?_
    refine j_callPi (pc' := 13) (ai := 205) (vs := [.ref 75, .int l2]) (rest := []) rfl rfl (fun _ _ => rfl) (c_X12_isPlayer l2 σ) (j_dd rfl hd) rfl (fun v2 => ?_)
    refine j_two (pT := 31) (pF := 34) (L1 := [some (.ref 75), some (.int l1), some (.int l2), some (.int l3), none, none, none, none, none]) (st1 := []) (fun o kT kF => ?_) (fun h3 => ?_) (fun h3 => ?_)
    · refine j_ifeq (t := 31) (pc' := 16) rfl rfl rfl (fun h4 => ?_) (fun h4 => ?_)
      · exact kT (Or.inl h4)
      · refine j_iload_n (pc' := 17) rfl rfl rfl ?_
        refine j_iload_n (pc' := 18) rfl rfl rfl ?_
        refine j_iceq (t := 31) (pc' := 21) rfl rfl rfl (fun h5 => ?_) (fun h5 => ?_)
        · exact kT (Or.inr (Or.inl h5))
        · refine j_iload_n (pc' := 22) rfl rfl rfl ?_
          refine j_i2l (pc' := 23) rfl rfl ?_
          refine j_lconst (pc' := 24) (x := (0 : Int64)) rfl rfl rfl ?_
          refine j_lconst (pc' := 25) (x := (1 : Int64)) rfl rfl rfl ?_
          refine j_callTi (pc' := 28) (ai := 196) (vs := [.long (l3).toInt64, .long (0 : Int64), .long (1 : Int64)]) (rest := []) rfl rfl (fun _ _ => rfl) (c_X12_in (l3).toInt64 (0 : Int64) (1 : Int64) σ) (j_dd rfl hd) rfl ?_
          refine j_ifne (t := 34) (pc' := 31) rfl rfl rfl (fun h6 => ?_) (fun h6 => ?_)
          · exact kF (fun z => z.elim h4 (fun z => z.elim h5 (h6)))
          · exact kT (Or.inr (Or.inr (h6)))
    · refine j_bipush (pc' := 33) (x := (-2 : Int32)) rfl rfl rfl ?_
      exact j_ret rfl rfl rfl (fun _ h => h)
    · refine j_aload_n (pc' := 35) rfl rfl rfl ?_
      refine j_callRv (pc' := 38) (ai := 237) (vs := [.ref 75]) (rest := []) rfl rfl (fun _ _ => rfl) (c_X12_lay  σ) (j_dd rfl hd) rfl (fun σ3 => ?_)
      refine j_iconst (pc' := 39) (x := (1 : Int32)) rfl rfl rfl ?_
      refine j_aload_n (pc' := 40) rfl rfl rfl ?_
      refine j_callPi (pc' := 43) (ai := 200) (vs := [.ref 75]) (rest := [.int (1 : Int32)]) rfl rfl (fun _ _ => rfl) (c_X12_holes  σ3) (j_dd rfl hd) rfl (fun v4 => ?_)
      refine j_ishl (pc' := 44) rfl rfl ?_
      refine j_iconst (pc' := 45) (x := (1 : Int32)) rfl rfl rfl ?_
      refine j_isub (pc' := 46) rfl rfl ?_
      refine j_leti (fun v5 => ?_)
      refine j_istore (pc' := 48) (L' := [some (.ref 75), some (.int l1), some (.int l2), some (.int l3), some (.int v5), none, none, none, none]) rfl rfl rfl ?_
      refine j_iconst (pc' := 49) (x := (0 : Int32)) rfl rfl rfl ?_
      refine j_istore (pc' := 51) (L' := [some (.ref 75), some (.int l1), some (.int l2), some (.int l3), some (.int v5), some (.int (0 : Int32)), none, none, none]) rfl rfl rfl ?_
      refine j_iconst (pc' := 52) (x := (-1 : Int32)) rfl rfl rfl ?_
      refine j_istore (pc' := 54) (L' := [some (.ref 75), some (.int l1), some (.int l2), some (.int l3), some (.int v5), some (.int (0 : Int32)), some (.int (-1 : Int32)), none, none]) rfl rfl rfl ?_
      refine j_iconst (pc' := 55) (x := (0 : Int32)) rfl rfl rfl ?_
      refine j_istore (pc' := 57) (L' := [some (.ref 75), some (.int l1), some (.int l2), some (.int l3), some (.int v5), some (.int (0 : Int32)), some (.int (-1 : Int32)), some (.int (0 : Int32)), none]) rfl rfl rfl ?_
      refine j_q3 (l_X12_two_57 hd τ l1 l2 l3 v5 j_F (0 : Int32) (-1 : Int32) (0 : Int32) σ3) (fun v6 v7 σ8 => ?_)
      show j_J false τ M_cX12_two d 110 [none, none, none, some (.int l3), none, some (.int v6), some (.int v7), none, none] [] σ8 _ _
      refine j_iload_n (pc' := 111) rfl rfl rfl ?_
      refine j_two (pT := 114) (pF := 119) (L1 := [none, none, none, some (.int l3), none, some (.int v6), some (.int v7), none, none]) (st1 := []) (fun o kT kF => ?_) (fun h1 => ?_) (fun h1 => ?_)
      · refine j_ifne (t := 119) (pc' := 114) rfl rfl rfl (fun h2 => ?_) (fun h2 => ?_)
        · exact kF h2
        · exact kT h2
      · refine j_iload (pc' := 116) rfl rfl rfl ?_
        refine j_goto (t := 121) rfl rfl ?_
        exact j_ret rfl rfl rfl (fun _ h => h)
      · refine j_iload (pc' := 121) rfl rfl rfl ?_
        exact j_ret rfl rfl rfl (fun _ h => h)
  · refine j_bipush (pc' := 33) (x := (-2 : Int32)) rfl rfl rfl ?_
    exact j_ret rfl rfl rfl (fun _ h => h)

noncomputable def f_X11_ticketsOfRun (σ : j_G) : Option Int32 :=
  if 0 < (σ.1 1 9) then (if (σ.1 1 9) = 0 then none else (
  some (((10 : Int32) * (σ.1 30 0)) / (σ.1 1 9)))) else (some (0 : Int32))
theorem c_X11_ticketsOfRun (σ : j_G) : j_K true 0 191 [.ref 0] σ (f_X11_ticketsOfRun σ) (j_Pi σ) := by
  refine j_mkK (M := M_cX11_ticketsOfRun) (L := [some (.ref 0)]) (m := 0) t_191 rfl (j_rcvO j_a0 rfl) rfl (fun d hd τ => ?_)
  unfold f_X11_ticketsOfRun
  refine j_aload_n (pc' := 1) rfl rfl rfl ?_
  refine j_gfr (pc' := 4) (x := 1) rfl rfl j_a0 rfl rfl ?_
  refine j_gfi (pc' := 7) rfl rfl j_a1 rfl ?_
  refine j_two (pT := 10) (pF := 31) (L1 := [some (.ref 0)]) (st1 := []) (fun o kT kF => ?_) (fun h1 => ?_) (fun h1 => ?_)
  · refine j_ifle (t := 31) (pc' := 10) rfl rfl rfl (fun h2 => ?_) (fun h2 => ?_)
    · exact kF h2
    · exact kT h2
  · refine j_bipush (pc' := 12) (x := (10 : Int32)) rfl rfl rfl ?_
    refine j_aload_n (pc' := 13) rfl rfl rfl ?_
    refine j_gfr (pc' := 16) (x := 30) rfl rfl j_a0 rfl rfl ?_
    refine j_gfi (pc' := 19) rfl rfl j_a30 rfl ?_
    refine j_imul (pc' := 20) rfl rfl ?_
    refine j_aload_n (pc' := 21) rfl rfl rfl ?_
    refine j_gfr (pc' := 24) (x := 1) rfl rfl j_a0 rfl rfl ?_
    refine j_gfi (pc' := 27) rfl rfl j_a1 rfl ?_
    refine j_idiv (pc' := 28) rfl rfl ?_
    refine j_goto (t := 32) rfl rfl ?_
    exact j_ret rfl rfl rfl (fun _ h => h)
  · refine j_iconst (pc' := 32) (x := (0 : Int32)) rfl rfl rfl ?_
    exact j_ret rfl rfl rfl (fun _ h => h)

noncomputable def f_X11_tickets (l1 : Int32) (σ : j_G) : Option (Int32 × j_G) :=
  j_b2 (f_X11_runOf l1 σ) fun v2 σ1 =>
  if ¬ v2 = 0 then (j_b1 (f_X11_ticketsOfRun σ1) fun v3 =>
  some (v3, σ1)) else (some ((-2 : Int32), σ1))
theorem c_X11_tickets (l1 : Int32) (σ : j_G) : j_K true 6 160 [.ref 0, .int l1] σ (f_X11_tickets l1 σ) j_Ri := by
  refine j_mkK (M := M_cX11_tickets) (L := [some (.ref 0), some (.int l1)]) (m := 0) t_160 rfl (j_rcvO j_a0 rfl) rfl (fun d hd τ => ?_)
  unfold f_X11_tickets
  refine j_aload_n (pc' := 1) rfl rfl rfl ?_
  refine j_iload_n (pc' := 2) rfl rfl rfl ?_
  refine j_callRi (pc' := 5) (ai := 187) (vs := [.ref 0, .int l1]) (rest := []) rfl rfl (fun _ _ => rfl) (c_X11_runOf l1 σ) (j_dd rfl hd) rfl (fun v2 σ1 => ?_)
  refine j_two (pT := 8) (pF := 15) (L1 := [some (.ref 0), some (.int l1)]) (st1 := []) (fun o kT kF => ?_) (fun h1 => ?_) (fun h1 => ?_)
  · refine j_ifeq (t := 15) (pc' := 8) rfl rfl rfl (fun h2 => ?_) (fun h2 => ?_)
    · exact kF (fun z => z h2)
    · exact kT h2
  · refine j_aload_n (pc' := 9) rfl rfl rfl ?_
    refine j_callPi (pc' := 12) (ai := 191) (vs := [.ref 0]) (rest := []) rfl rfl (fun _ _ => rfl) (c_X11_ticketsOfRun  σ1) (j_dd rfl hd) rfl (fun v3 => ?_)
    refine j_goto (t := 17) rfl rfl ?_
    exact j_ret rfl rfl rfl (fun _ h => h)
  · refine j_bipush (pc' := 17) (x := (-2 : Int32)) rfl rfl rfl ?_
    exact j_ret rfl rfl rfl (fun _ h => h)

noncomputable def f_X12_ticketsOf (l1 : Int32) (σ : j_G) : Option (Int32 × j_G) :=
  j_b1 (f_X12_runAsTold l1 σ) fun σ1 =>
  j_ix (11 : Int32) 116 (
  if (σ1.1 76 ((11 : Int32)).toNatClampNeg) = 0 then none else (
  some ((((10 : Int32) * (σ1.1 75 29)) / (σ1.1 76 ((11 : Int32)).toNatClampNeg)), σ1)))
theorem c_X12_ticketsOf (l1 : Int32) (σ : j_G) : j_K false 6 320 [.ref 75, .int l1] σ (f_X12_ticketsOf l1 σ) j_Ri := by
  refine j_mkK (M := M_cX12_ticketsOf) (L := [some (.ref 75), some (.int l1)]) (m := 0) t_320 rfl (j_rcvO j_a75 rfl) rfl (fun d hd τ => ?_)
  unfold f_X12_ticketsOf
  refine j_aload_n (pc' := 1) rfl rfl rfl ?_
  refine j_iload_n (pc' := 2) rfl rfl rfl ?_
  refine j_callRv (pc' := 5) (ai := 259) (vs := [.ref 75, .int l1]) (rest := []) rfl rfl (fun _ _ => rfl) (c_X12_runAsTold l1 σ) (j_dd rfl hd) rfl (fun σ1 => ?_)
  refine j_bipush (pc' := 7) (x := (10 : Int32)) rfl rfl rfl ?_
  refine j_aload_n (pc' := 8) rfl rfl rfl ?_
  refine j_gfi (pc' := 11) rfl rfl j_a75 rfl ?_
  refine j_imul (pc' := 12) rfl rfl ?_
  refine j_aload_n (pc' := 13) rfl rfl rfl ?_
  refine j_gfr (pc' := 16) (x := 76) rfl rfl j_a75 rfl rfl ?_
  refine j_bipush (pc' := 18) (x := (11 : Int32)) rfl rfl rfl ?_
  refine j_iald (pc' := 19) rfl rfl j_a76 ?_
  refine j_idiv (pc' := 20) rfl rfl ?_
  exact j_ret rfl rfl rfl (fun _ h => h)

noncomputable def f_X12_tickets (l1 : Int32) (σ : j_G) : Option (Int32 × j_G) :=
  j_b1 (f_X12_isPlayer l1 σ) fun v1 =>
  if ¬ v1 = 0 then (j_b2 (f_X12_ticketsOf l1 σ) fun v3 σ2 =>
  some (v3, σ2)) else (some ((-2 : Int32), σ))
theorem c_X12_tickets (l1 : Int32) (σ : j_G) : j_K false 7 321 [.ref 75, .int l1] σ (f_X12_tickets l1 σ) j_Ri := by
  refine j_mkK (M := M_cX12_tickets) (L := [some (.ref 75), some (.int l1)]) (m := 0) t_321 rfl (j_rcvO j_a75 rfl) rfl (fun d hd τ => ?_)
  unfold f_X12_tickets
  refine j_aload_n (pc' := 1) rfl rfl rfl ?_
  refine j_iload_n (pc' := 2) rfl rfl rfl ?_
  refine j_callPi (pc' := 5) (ai := 205) (vs := [.ref 75, .int l1]) (rest := []) rfl rfl (fun _ _ => rfl) (c_X12_isPlayer l1 σ) (j_dd rfl hd) rfl (fun v1 => ?_)
  refine j_two (pT := 8) (pF := 16) (L1 := [some (.ref 75), some (.int l1)]) (st1 := []) (fun o kT kF => ?_) (fun h1 => ?_) (fun h1 => ?_)
  · refine j_ifeq (t := 16) (pc' := 8) rfl rfl rfl (fun h2 => ?_) (fun h2 => ?_)
    · exact kF (fun z => z h2)
    · exact kT h2
  · refine j_aload_n (pc' := 9) rfl rfl rfl ?_
    refine j_iload_n (pc' := 10) rfl rfl rfl ?_
    refine j_callRi (pc' := 13) (ai := 320) (vs := [.ref 75, .int l1]) (rest := []) rfl rfl (fun _ _ => rfl) (c_X12_ticketsOf l1 σ) (j_dd rfl hd) rfl (fun v3 σ2 => ?_)
    refine j_goto (t := 18) rfl rfl ?_
    exact j_ret rfl rfl rfl (fun _ h => h)
  · refine j_bipush (pc' := 18) (x := (-2 : Int32)) rfl rfl rfl ?_
    exact j_ret rfl rfl rfl (fun _ h => h)

noncomputable def f_X11_prize (l1 : Int32) (σ : j_G) : Option (Int32 × j_G) :=
  j_b2 (f_X11_runOf l1 σ) fun v2 σ1 =>
  if v2 = 0 then (some ((-2 : Int32), σ1)) else (j_b1 (f_X11_ticketsOfRun σ1) fun v3 =>
  if 0 < v3 then (if v3 = 0 then none else (
  some (((((σ1.1 1 8) + v3) - (1 : Int32)) / v3), σ1))) else (some ((-1 : Int32), σ1)))
theorem c_X11_prize (l1 : Int32) (σ : j_G) : j_K true 6 161 [.ref 0, .int l1] σ (f_X11_prize l1 σ) j_Ri := by
  refine j_mkK (M := M_cX11_prize) (L := [some (.ref 0), some (.int l1), none]) (m := 1) t_161 rfl (j_rcvO j_a0 rfl) rfl (fun d hd τ => ?_)
  unfold f_X11_prize
  refine j_aload_n (pc' := 1) rfl rfl rfl ?_
  refine j_iload_n (pc' := 2) rfl rfl rfl ?_
  refine j_callRi (pc' := 5) (ai := 187) (vs := [.ref 0, .int l1]) (rest := []) rfl rfl (fun _ _ => rfl) (c_X11_runOf l1 σ) (j_dd rfl hd) rfl (fun v2 σ1 => ?_)
  refine j_two (pT := 8) (pF := 11) (L1 := [some (.ref 0), some (.int l1), none]) (st1 := []) (fun o kT kF => ?_) (fun h3 => ?_) (fun h3 => ?_)
  · refine j_ifne (t := 11) (pc' := 8) rfl rfl rfl (fun h4 => ?_) (fun h4 => ?_)
    · exact kF h4
    · exact kT h4
  · refine j_bipush (pc' := 10) (x := (-2 : Int32)) rfl rfl rfl ?_
    exact j_ret rfl rfl rfl (fun _ h => h)
  · refine j_aload_n (pc' := 12) rfl rfl rfl ?_
    refine j_callPi (pc' := 15) (ai := 191) (vs := [.ref 0]) (rest := []) rfl rfl (fun _ _ => rfl) (c_X11_ticketsOfRun  σ1) (j_dd rfl hd) rfl (fun v3 => ?_)
    refine j_istore_n (pc' := 16) (L' := [some (.ref 0), some (.int l1), some (.int v3)]) rfl rfl rfl ?_
    refine j_iload_n (pc' := 17) rfl rfl rfl ?_
    refine j_two (pT := 20) (pF := 36) (L1 := [some (.ref 0), some (.int l1), some (.int v3)]) (st1 := []) (fun o kT kF => ?_) (fun h1 => ?_) (fun h1 => ?_)
    · refine j_ifle (t := 36) (pc' := 20) rfl rfl rfl (fun h2 => ?_) (fun h2 => ?_)
      · exact kF h2
      · exact kT h2
    · refine j_aload_n (pc' := 21) rfl rfl rfl ?_
      refine j_gfr (pc' := 24) (x := 1) rfl rfl j_a0 rfl rfl ?_
      refine j_gfi (pc' := 27) rfl rfl j_a1 rfl ?_
      refine j_iload_n (pc' := 28) rfl rfl rfl ?_
      refine j_iadd (pc' := 29) rfl rfl ?_
      refine j_iconst (pc' := 30) (x := (1 : Int32)) rfl rfl rfl ?_
      refine j_isub (pc' := 31) rfl rfl ?_
      refine j_iload_n (pc' := 32) rfl rfl rfl ?_
      refine j_idiv (pc' := 33) rfl rfl ?_
      refine j_goto (t := 37) rfl rfl ?_
      exact j_ret rfl rfl rfl (fun _ h => h)
    · refine j_iconst (pc' := 37) (x := (-1 : Int32)) rfl rfl rfl ?_
      exact j_ret rfl rfl rfl (fun _ h => h)

noncomputable def f_X12_prize (l1 : Int32) (σ : j_G) : Option (Int32 × j_G) :=
  j_b1 (f_X12_isPlayer l1 σ) fun v1 =>
  if v1 = 0 then (some ((-2 : Int32), σ)) else (j_b2 (f_X12_ticketsOf l1 σ) fun v3 σ2 =>
  if v3 = 0 then (some ((-1 : Int32), σ2)) else (j_ix (10 : Int32) 116 (
  if v3 = 0 then none else (
  some (((((σ2.1 76 ((10 : Int32)).toNatClampNeg) + v3) - (1 : Int32)) / v3), σ2)))))
theorem c_X12_prize (l1 : Int32) (σ : j_G) : j_K false 7 322 [.ref 75, .int l1] σ (f_X12_prize l1 σ) j_Ri := by
  refine j_mkK (M := M_cX12_prize) (L := [some (.ref 75), some (.int l1), none]) (m := 1) t_322 rfl (j_rcvO j_a75 rfl) rfl (fun d hd τ => ?_)
  unfold f_X12_prize
  refine j_aload_n (pc' := 1) rfl rfl rfl ?_
  refine j_iload_n (pc' := 2) rfl rfl rfl ?_
  refine j_callPi (pc' := 5) (ai := 205) (vs := [.ref 75, .int l1]) (rest := []) rfl rfl (fun _ _ => rfl) (c_X12_isPlayer l1 σ) (j_dd rfl hd) rfl (fun v1 => ?_)
  refine j_two (pT := 8) (pF := 11) (L1 := [some (.ref 75), some (.int l1), none]) (st1 := []) (fun o kT kF => ?_) (fun h3 => ?_) (fun h3 => ?_)
  · refine j_ifne (t := 11) (pc' := 8) rfl rfl rfl (fun h4 => ?_) (fun h4 => ?_)
    · exact kF h4
    · exact kT h4
  · refine j_bipush (pc' := 10) (x := (-2 : Int32)) rfl rfl rfl ?_
    exact j_ret rfl rfl rfl (fun _ h => h)
  · refine j_aload_n (pc' := 12) rfl rfl rfl ?_
    refine j_iload_n (pc' := 13) rfl rfl rfl ?_
    refine j_callRi (pc' := 16) (ai := 320) (vs := [.ref 75, .int l1]) (rest := []) rfl rfl (fun _ _ => rfl) (c_X12_ticketsOf l1 σ) (j_dd rfl hd) rfl (fun v3 σ2 => ?_)
    refine j_istore_n (pc' := 17) (L' := [some (.ref 75), some (.int l1), some (.int v3)]) rfl rfl rfl ?_
    refine j_iload_n (pc' := 18) rfl rfl rfl ?_
    refine j_two (pT := 21) (pF := 25) (L1 := [some (.ref 75), some (.int l1), some (.int v3)]) (st1 := []) (fun o kT kF => ?_) (fun h1 => ?_) (fun h1 => ?_)
    · refine j_ifne (t := 25) (pc' := 21) rfl rfl rfl (fun h2 => ?_) (fun h2 => ?_)
      · exact kF h2
      · exact kT h2
    · refine j_iconst (pc' := 22) (x := (-1 : Int32)) rfl rfl rfl ?_
      refine j_goto (t := 38) rfl rfl ?_
      exact j_ret rfl rfl rfl (fun _ h => h)
    · refine j_aload_n (pc' := 26) rfl rfl rfl ?_
      refine j_gfr (pc' := 29) (x := 76) rfl rfl j_a75 rfl rfl ?_
      refine j_bipush (pc' := 31) (x := (10 : Int32)) rfl rfl rfl ?_
      refine j_iald (pc' := 32) rfl rfl j_a76 ?_
      refine j_iload_n (pc' := 33) rfl rfl rfl ?_
      refine j_iadd (pc' := 34) rfl rfl ?_
      refine j_iconst (pc' := 35) (x := (1 : Int32)) rfl rfl rfl ?_
      refine j_isub (pc' := 36) rfl rfl ?_
      refine j_iload_n (pc' := 37) rfl rfl rfl ?_
      refine j_idiv (pc' := 38) rfl rfl ?_
      exact j_ret rfl rfl rfl (fun _ h => h)

noncomputable def f_X11_whyNoBlows (l1 : Int32) (σ : j_G) : Option (Int32 × j_G) :=
  if ((f_X11_isSlot l1) = 0) ∨ ((f_X2_isTold σ) = 0) then (some ((-2 : Int32), σ)) else (if l1 = 0 then (if (f_X8_isMade 67 σ) = 0 then (some ((-6 : Int32), σ)) else (if (2 : Int32) = 0 then none else (
  if ((σ.1 67 0) - (σ.1 67 0) / (2 : Int32) * (2 : Int32)) = 0 then (j_b1 (f_X8_isBelow 67 68 (f_X2_holes 1 σ) (σ.1 1 4) σ) fun v1 =>
  if v1 = 0 then (some ((-2 : Int32), σ)) else (j_b1 (f_X4_deal (σ.1 5 1) σ) fun σ2 =>
  some ((0 : Int32), σ2))) else (some ((-2 : Int32), σ))))) else
  if l1 = 1 then (if (f_X8_isMade 69 σ) = 0 then (some ((-6 : Int32), σ)) else (if (2 : Int32) = 0 then none else (
  if ((σ.1 69 0) - (σ.1 69 0) / (2 : Int32) * (2 : Int32)) = 0 then (j_b1 (f_X8_isBelow 69 70 (f_X2_holes 1 σ) (σ.1 1 4) σ) fun v3 =>
  if v3 = 0 then (some ((-2 : Int32), σ)) else (j_b1 (f_X4_deal (σ.1 5 1) σ) fun σ4 =>
  some ((0 : Int32), σ4))) else (some ((-2 : Int32), σ))))) else
  if l1 = 2 then (if (f_X8_isMade 71 σ) = 0 then (some ((-6 : Int32), σ)) else (if (2 : Int32) = 0 then none else (
  if ((σ.1 71 0) - (σ.1 71 0) / (2 : Int32) * (2 : Int32)) = 0 then (j_b1 (f_X8_isBelow 71 72 (f_X2_holes 1 σ) (σ.1 1 4) σ) fun v5 =>
  if v5 = 0 then (some ((-2 : Int32), σ)) else (j_b1 (f_X4_deal (σ.1 5 1) σ) fun σ6 =>
  some ((0 : Int32), σ6))) else (some ((-2 : Int32), σ))))) else
  if l1 = 3 then (if (f_X8_isMade 73 σ) = 0 then (some ((-6 : Int32), σ)) else (if (2 : Int32) = 0 then none else (
  if ((σ.1 73 0) - (σ.1 73 0) / (2 : Int32) * (2 : Int32)) = 0 then (j_b1 (f_X8_isBelow 73 74 (f_X2_holes 1 σ) (σ.1 1 4) σ) fun v7 =>
  if v7 = 0 then (some ((-2 : Int32), σ)) else (j_b1 (f_X4_deal (σ.1 5 1) σ) fun σ8 =>
  some ((0 : Int32), σ8))) else (some ((-2 : Int32), σ))))) else
  none)
theorem c_X11_whyNoBlows (l1 : Int32) (σ : j_G) : j_K true 3 194 [.ref 0, .int l1] σ (f_X11_whyNoBlows l1 σ) j_Ri := by
  refine j_mkK (M := M_cX11_whyNoBlows) (L := [some (.ref 0), some (.int l1), none]) (m := 1) t_194 rfl (j_rcvO j_a0 rfl) rfl (fun d hd τ => ?_)
  unfold f_X11_whyNoBlows
  refine j_iload_n (pc' := 1) rfl rfl rfl ?_
  refine j_callTi (pc' := 4) (ai := 182) (vs := [.int l1]) (rest := []) rfl rfl (fun _ _ => rfl) (c_X11_isSlot l1 σ) (j_dd rfl hd) rfl ?_
  refine j_two (pT := 17) (pF := 20) (L1 := [some (.ref 0), some (.int l1), none]) (st1 := []) (fun o kT kF => ?_) (fun h29 => ?_) (fun h29 => ?_)
  · refine j_ifeq (t := 17) (pc' := 7) rfl rfl rfl (fun h30 => ?_) (fun h30 => ?_)
    · exact kT (Or.inl h30)
    · refine j_aload_n (pc' := 8) rfl rfl rfl ?_
      refine j_gfr (pc' := 11) (x := 1) rfl rfl j_a0 rfl rfl ?_
      refine j_callTi (pc' := 14) (ai := 11) (vs := [.ref 1]) (rest := []) rfl rfl (fun _ _ => rfl) (c_X2_isTold  σ) (j_dd rfl hd) rfl ?_
      refine j_ifne (t := 20) (pc' := 17) rfl rfl rfl (fun h31 => ?_) (fun h31 => ?_)
      · exact kF (fun z => z.elim h30 (h31))
      · exact kT (Or.inr (h31))
  · refine j_bipush (pc' := 19) (x := (-2 : Int32)) rfl rfl rfl ?_
    exact j_ret rfl rfl rfl (fun _ h => h)
  · refine j_aload_n (pc' := 21) rfl rfl rfl ?_
    refine j_gfr (pc' := 24) (x := 42) rfl rfl j_a0 rfl rfl ?_
    refine j_iload_n (pc' := 25) rfl rfl rfl ?_
    refine j_spl (k := (0 : Int32)) (fun h1 => ?_) (fun h1 => ?_)
    · subst h1
      refine j_aald (pc' := 26) (r := 67) rfl rfl j_a42 (by decide) rfl ?_
      refine j_astore_n (pc' := 27) (L' := [some (.ref 0), some (.int (0 : Int32)), some (.ref 67)]) rfl rfl rfl ?_
      refine j_aload_n (pc' := 28) rfl rfl rfl ?_
      refine j_callTi (pc' := 31) (ai := 91) (vs := [.ref 67]) (rest := []) rfl rfl (fun _ _ => rfl) (c_X8_isMade_67  σ) (j_dd rfl hd) rfl ?_
      refine j_two (pT := 34) (pF := 37) (L1 := [some (.ref 0), some (.int (0 : Int32)), some (.ref 67)]) (st1 := []) (fun o kT kF => ?_) (fun h6 => ?_) (fun h6 => ?_)
      · refine j_ifne (t := 37) (pc' := 34) rfl rfl rfl (fun h7 => ?_) (fun h7 => ?_)
        · exact kF h7
        · exact kT h7
      · refine j_bipush (pc' := 36) (x := (-6 : Int32)) rfl rfl rfl ?_
        exact j_ret rfl rfl rfl (fun _ h => h)
      · refine j_aload_n (pc' := 38) rfl rfl rfl ?_
        refine j_gfi (pc' := 41) rfl rfl j_a67 rfl ?_
        refine j_iconst (pc' := 42) (x := (2 : Int32)) rfl rfl rfl ?_
        refine j_irem (pc' := 43) rfl rfl ?_
        refine j_two (pT := 46) (pF := 67) (L1 := [some (.ref 0), some (.int (0 : Int32)), some (.ref 67)]) (st1 := []) (fun o kT kF => ?_) (fun h4 => ?_) (fun h4 => ?_)
        · refine j_ifne (t := 67) (pc' := 46) rfl rfl rfl (fun h5 => ?_) (fun h5 => ?_)
          · exact kF h5
          · exact kT h5
        · refine j_aload_n (pc' := 47) rfl rfl rfl ?_
          refine j_aload_n (pc' := 48) rfl rfl rfl ?_
          refine j_gfr (pc' := 51) (x := 1) rfl rfl j_a0 rfl rfl ?_
          refine j_callTi (pc' := 54) (ai := 12) (vs := [.ref 1]) (rest := [.ref 67]) rfl rfl (fun _ _ => rfl) (c_X2_holes_1  σ) (j_dd rfl hd) rfl ?_
          refine j_aload_n (pc' := 55) rfl rfl rfl ?_
          refine j_gfr (pc' := 58) (x := 1) rfl rfl j_a0 rfl rfl ?_
          refine j_gfi (pc' := 61) rfl rfl j_a1 rfl ?_
          refine j_callPi (pc' := 64) (ai := 95) (vs := [.ref 67, .int (f_X2_holes 1 σ), .int (σ.1 1 4)]) (rest := []) rfl rfl (fun _ _ => rfl) (c_X8_isBelow_67 (f_X2_holes 1 σ) (σ.1 1 4) σ) (j_dd rfl hd) rfl (fun v1 => ?_)
          refine j_two (pT := 67) (pF := 70) (L1 := [some (.ref 0), some (.int (0 : Int32)), some (.ref 67)]) (st1 := []) (fun o kT kF => ?_) (fun h2 => ?_) (fun h2 => ?_)
          · refine j_ifne (t := 70) (pc' := 67) rfl rfl rfl (fun h3 => ?_) (fun h3 => ?_)
            · exact kF h3
            · exact kT h3
          · refine j_bipush (pc' := 69) (x := (-2 : Int32)) rfl rfl rfl ?_
            exact j_ret rfl rfl rfl (fun _ h => h)
          · refine j_aload_n (pc' := 71) rfl rfl rfl ?_
            refine j_gfr (pc' := 74) (x := 22) rfl rfl j_a0 rfl rfl ?_
            refine j_aload_n (pc' := 75) rfl rfl rfl ?_
            refine j_gfr (pc' := 78) (x := 1) rfl rfl j_a0 rfl rfl ?_
            refine j_aload_n (pc' := 79) rfl rfl rfl ?_
            refine j_gfr (pc' := 82) (x := 1) rfl rfl j_a0 rfl rfl ?_
            refine j_gfr (pc' := 85) (x := 5) rfl rfl j_a1 rfl rfl ?_
            refine j_gfi (pc' := 88) rfl rfl j_a5 rfl ?_
            refine j_callRv (pc' := 91) (ai := 42) (vs := [.ref 22, .ref 1, .int (σ.1 5 1)]) (rest := []) rfl rfl (fun _ _ => rfl) (c_X4_deal (σ.1 5 1) σ) (j_dd rfl hd) rfl (fun σ2 => ?_)
            refine j_iconst (pc' := 92) (x := (0 : Int32)) rfl rfl rfl ?_
            exact j_ret rfl rfl rfl (fun _ h => h)
        · refine j_bipush (pc' := 69) (x := (-2 : Int32)) rfl rfl rfl ?_
          exact j_ret rfl rfl rfl (fun _ h => h)
    refine j_spl (k := (1 : Int32)) (fun h8 => ?_) (fun h8 => ?_)
    · subst h8
      refine j_aald (pc' := 26) (r := 69) rfl rfl j_a42 (by decide) rfl ?_
      refine j_astore_n (pc' := 27) (L' := [some (.ref 0), some (.int (1 : Int32)), some (.ref 69)]) rfl rfl rfl ?_
      refine j_aload_n (pc' := 28) rfl rfl rfl ?_
      refine j_callTi (pc' := 31) (ai := 91) (vs := [.ref 69]) (rest := []) rfl rfl (fun _ _ => rfl) (c_X8_isMade_69  σ) (j_dd rfl hd) rfl ?_
      refine j_two (pT := 34) (pF := 37) (L1 := [some (.ref 0), some (.int (1 : Int32)), some (.ref 69)]) (st1 := []) (fun o kT kF => ?_) (fun h13 => ?_) (fun h13 => ?_)
      · refine j_ifne (t := 37) (pc' := 34) rfl rfl rfl (fun h14 => ?_) (fun h14 => ?_)
        · exact kF h14
        · exact kT h14
      · refine j_bipush (pc' := 36) (x := (-6 : Int32)) rfl rfl rfl ?_
        exact j_ret rfl rfl rfl (fun _ h => h)
      · refine j_aload_n (pc' := 38) rfl rfl rfl ?_
        refine j_gfi (pc' := 41) rfl rfl j_a69 rfl ?_
        refine j_iconst (pc' := 42) (x := (2 : Int32)) rfl rfl rfl ?_
        refine j_irem (pc' := 43) rfl rfl ?_
        refine j_two (pT := 46) (pF := 67) (L1 := [some (.ref 0), some (.int (1 : Int32)), some (.ref 69)]) (st1 := []) (fun o kT kF => ?_) (fun h11 => ?_) (fun h11 => ?_)
        · refine j_ifne (t := 67) (pc' := 46) rfl rfl rfl (fun h12 => ?_) (fun h12 => ?_)
          · exact kF h12
          · exact kT h12
        · refine j_aload_n (pc' := 47) rfl rfl rfl ?_
          refine j_aload_n (pc' := 48) rfl rfl rfl ?_
          refine j_gfr (pc' := 51) (x := 1) rfl rfl j_a0 rfl rfl ?_
          refine j_callTi (pc' := 54) (ai := 12) (vs := [.ref 1]) (rest := [.ref 69]) rfl rfl (fun _ _ => rfl) (c_X2_holes_1  σ) (j_dd rfl hd) rfl ?_
          refine j_aload_n (pc' := 55) rfl rfl rfl ?_
          refine j_gfr (pc' := 58) (x := 1) rfl rfl j_a0 rfl rfl ?_
          refine j_gfi (pc' := 61) rfl rfl j_a1 rfl ?_
          refine j_callPi (pc' := 64) (ai := 95) (vs := [.ref 69, .int (f_X2_holes 1 σ), .int (σ.1 1 4)]) (rest := []) rfl rfl (fun _ _ => rfl) (c_X8_isBelow_69 (f_X2_holes 1 σ) (σ.1 1 4) σ) (j_dd rfl hd) rfl (fun v3 => ?_)
          refine j_two (pT := 67) (pF := 70) (L1 := [some (.ref 0), some (.int (1 : Int32)), some (.ref 69)]) (st1 := []) (fun o kT kF => ?_) (fun h9 => ?_) (fun h9 => ?_)
          · refine j_ifne (t := 70) (pc' := 67) rfl rfl rfl (fun h10 => ?_) (fun h10 => ?_)
            · exact kF h10
            · exact kT h10
          · refine j_bipush (pc' := 69) (x := (-2 : Int32)) rfl rfl rfl ?_
            exact j_ret rfl rfl rfl (fun _ h => h)
          · refine j_aload_n (pc' := 71) rfl rfl rfl ?_
            refine j_gfr (pc' := 74) (x := 22) rfl rfl j_a0 rfl rfl ?_
            refine j_aload_n (pc' := 75) rfl rfl rfl ?_
            refine j_gfr (pc' := 78) (x := 1) rfl rfl j_a0 rfl rfl ?_
            refine j_aload_n (pc' := 79) rfl rfl rfl ?_
            refine j_gfr (pc' := 82) (x := 1) rfl rfl j_a0 rfl rfl ?_
            refine j_gfr (pc' := 85) (x := 5) rfl rfl j_a1 rfl rfl ?_
            refine j_gfi (pc' := 88) rfl rfl j_a5 rfl ?_
            refine j_callRv (pc' := 91) (ai := 42) (vs := [.ref 22, .ref 1, .int (σ.1 5 1)]) (rest := []) rfl rfl (fun _ _ => rfl) (c_X4_deal (σ.1 5 1) σ) (j_dd rfl hd) rfl (fun σ4 => ?_)
            refine j_iconst (pc' := 92) (x := (0 : Int32)) rfl rfl rfl ?_
            exact j_ret rfl rfl rfl (fun _ h => h)
        · refine j_bipush (pc' := 69) (x := (-2 : Int32)) rfl rfl rfl ?_
          exact j_ret rfl rfl rfl (fun _ h => h)
    refine j_spl (k := (2 : Int32)) (fun h15 => ?_) (fun h15 => ?_)
    · subst h15
      refine j_aald (pc' := 26) (r := 71) rfl rfl j_a42 (by decide) rfl ?_
      refine j_astore_n (pc' := 27) (L' := [some (.ref 0), some (.int (2 : Int32)), some (.ref 71)]) rfl rfl rfl ?_
      refine j_aload_n (pc' := 28) rfl rfl rfl ?_
      refine j_callTi (pc' := 31) (ai := 91) (vs := [.ref 71]) (rest := []) rfl rfl (fun _ _ => rfl) (c_X8_isMade_71  σ) (j_dd rfl hd) rfl ?_
      refine j_two (pT := 34) (pF := 37) (L1 := [some (.ref 0), some (.int (2 : Int32)), some (.ref 71)]) (st1 := []) (fun o kT kF => ?_) (fun h20 => ?_) (fun h20 => ?_)
      · refine j_ifne (t := 37) (pc' := 34) rfl rfl rfl (fun h21 => ?_) (fun h21 => ?_)
        · exact kF h21
        · exact kT h21
      · refine j_bipush (pc' := 36) (x := (-6 : Int32)) rfl rfl rfl ?_
        exact j_ret rfl rfl rfl (fun _ h => h)
      · refine j_aload_n (pc' := 38) rfl rfl rfl ?_
        refine j_gfi (pc' := 41) rfl rfl j_a71 rfl ?_
        refine j_iconst (pc' := 42) (x := (2 : Int32)) rfl rfl rfl ?_
        refine j_irem (pc' := 43) rfl rfl ?_
        refine j_two (pT := 46) (pF := 67) (L1 := [some (.ref 0), some (.int (2 : Int32)), some (.ref 71)]) (st1 := []) (fun o kT kF => ?_) (fun h18 => ?_) (fun h18 => ?_)
        · refine j_ifne (t := 67) (pc' := 46) rfl rfl rfl (fun h19 => ?_) (fun h19 => ?_)
          · exact kF h19
          · exact kT h19
        · refine j_aload_n (pc' := 47) rfl rfl rfl ?_
          refine j_aload_n (pc' := 48) rfl rfl rfl ?_
          refine j_gfr (pc' := 51) (x := 1) rfl rfl j_a0 rfl rfl ?_
          refine j_callTi (pc' := 54) (ai := 12) (vs := [.ref 1]) (rest := [.ref 71]) rfl rfl (fun _ _ => rfl) (c_X2_holes_1  σ) (j_dd rfl hd) rfl ?_
          refine j_aload_n (pc' := 55) rfl rfl rfl ?_
          refine j_gfr (pc' := 58) (x := 1) rfl rfl j_a0 rfl rfl ?_
          refine j_gfi (pc' := 61) rfl rfl j_a1 rfl ?_
          refine j_callPi (pc' := 64) (ai := 95) (vs := [.ref 71, .int (f_X2_holes 1 σ), .int (σ.1 1 4)]) (rest := []) rfl rfl (fun _ _ => rfl) (c_X8_isBelow_71 (f_X2_holes 1 σ) (σ.1 1 4) σ) (j_dd rfl hd) rfl (fun v5 => ?_)
          refine j_two (pT := 67) (pF := 70) (L1 := [some (.ref 0), some (.int (2 : Int32)), some (.ref 71)]) (st1 := []) (fun o kT kF => ?_) (fun h16 => ?_) (fun h16 => ?_)
          · refine j_ifne (t := 70) (pc' := 67) rfl rfl rfl (fun h17 => ?_) (fun h17 => ?_)
            · exact kF h17
            · exact kT h17
          · refine j_bipush (pc' := 69) (x := (-2 : Int32)) rfl rfl rfl ?_
            exact j_ret rfl rfl rfl (fun _ h => h)
          · refine j_aload_n (pc' := 71) rfl rfl rfl ?_
            refine j_gfr (pc' := 74) (x := 22) rfl rfl j_a0 rfl rfl ?_
            refine j_aload_n (pc' := 75) rfl rfl rfl ?_
            refine j_gfr (pc' := 78) (x := 1) rfl rfl j_a0 rfl rfl ?_
            refine j_aload_n (pc' := 79) rfl rfl rfl ?_
            refine j_gfr (pc' := 82) (x := 1) rfl rfl j_a0 rfl rfl ?_
            refine j_gfr (pc' := 85) (x := 5) rfl rfl j_a1 rfl rfl ?_
            refine j_gfi (pc' := 88) rfl rfl j_a5 rfl ?_
            refine j_callRv (pc' := 91) (ai := 42) (vs := [.ref 22, .ref 1, .int (σ.1 5 1)]) (rest := []) rfl rfl (fun _ _ => rfl) (c_X4_deal (σ.1 5 1) σ) (j_dd rfl hd) rfl (fun σ6 => ?_)
            refine j_iconst (pc' := 92) (x := (0 : Int32)) rfl rfl rfl ?_
            exact j_ret rfl rfl rfl (fun _ h => h)
        · refine j_bipush (pc' := 69) (x := (-2 : Int32)) rfl rfl rfl ?_
          exact j_ret rfl rfl rfl (fun _ h => h)
    refine j_spl (k := (3 : Int32)) (fun h22 => ?_) (fun h22 => ?_)
    · subst h22
      refine j_aald (pc' := 26) (r := 73) rfl rfl j_a42 (by decide) rfl ?_
      refine j_astore_n (pc' := 27) (L' := [some (.ref 0), some (.int (3 : Int32)), some (.ref 73)]) rfl rfl rfl ?_
      refine j_aload_n (pc' := 28) rfl rfl rfl ?_
      refine j_callTi (pc' := 31) (ai := 91) (vs := [.ref 73]) (rest := []) rfl rfl (fun _ _ => rfl) (c_X8_isMade_73  σ) (j_dd rfl hd) rfl ?_
      refine j_two (pT := 34) (pF := 37) (L1 := [some (.ref 0), some (.int (3 : Int32)), some (.ref 73)]) (st1 := []) (fun o kT kF => ?_) (fun h27 => ?_) (fun h27 => ?_)
      · refine j_ifne (t := 37) (pc' := 34) rfl rfl rfl (fun h28 => ?_) (fun h28 => ?_)
        · exact kF h28
        · exact kT h28
      · refine j_bipush (pc' := 36) (x := (-6 : Int32)) rfl rfl rfl ?_
        exact j_ret rfl rfl rfl (fun _ h => h)
      · refine j_aload_n (pc' := 38) rfl rfl rfl ?_
        refine j_gfi (pc' := 41) rfl rfl j_a73 rfl ?_
        refine j_iconst (pc' := 42) (x := (2 : Int32)) rfl rfl rfl ?_
        refine j_irem (pc' := 43) rfl rfl ?_
        refine j_two (pT := 46) (pF := 67) (L1 := [some (.ref 0), some (.int (3 : Int32)), some (.ref 73)]) (st1 := []) (fun o kT kF => ?_) (fun h25 => ?_) (fun h25 => ?_)
        · refine j_ifne (t := 67) (pc' := 46) rfl rfl rfl (fun h26 => ?_) (fun h26 => ?_)
          · exact kF h26
          · exact kT h26
        · refine j_aload_n (pc' := 47) rfl rfl rfl ?_
          refine j_aload_n (pc' := 48) rfl rfl rfl ?_
          refine j_gfr (pc' := 51) (x := 1) rfl rfl j_a0 rfl rfl ?_
          refine j_callTi (pc' := 54) (ai := 12) (vs := [.ref 1]) (rest := [.ref 73]) rfl rfl (fun _ _ => rfl) (c_X2_holes_1  σ) (j_dd rfl hd) rfl ?_
          refine j_aload_n (pc' := 55) rfl rfl rfl ?_
          refine j_gfr (pc' := 58) (x := 1) rfl rfl j_a0 rfl rfl ?_
          refine j_gfi (pc' := 61) rfl rfl j_a1 rfl ?_
          refine j_callPi (pc' := 64) (ai := 95) (vs := [.ref 73, .int (f_X2_holes 1 σ), .int (σ.1 1 4)]) (rest := []) rfl rfl (fun _ _ => rfl) (c_X8_isBelow_73 (f_X2_holes 1 σ) (σ.1 1 4) σ) (j_dd rfl hd) rfl (fun v7 => ?_)
          refine j_two (pT := 67) (pF := 70) (L1 := [some (.ref 0), some (.int (3 : Int32)), some (.ref 73)]) (st1 := []) (fun o kT kF => ?_) (fun h23 => ?_) (fun h23 => ?_)
          · refine j_ifne (t := 70) (pc' := 67) rfl rfl rfl (fun h24 => ?_) (fun h24 => ?_)
            · exact kF h24
            · exact kT h24
          · refine j_bipush (pc' := 69) (x := (-2 : Int32)) rfl rfl rfl ?_
            exact j_ret rfl rfl rfl (fun _ h => h)
          · refine j_aload_n (pc' := 71) rfl rfl rfl ?_
            refine j_gfr (pc' := 74) (x := 22) rfl rfl j_a0 rfl rfl ?_
            refine j_aload_n (pc' := 75) rfl rfl rfl ?_
            refine j_gfr (pc' := 78) (x := 1) rfl rfl j_a0 rfl rfl ?_
            refine j_aload_n (pc' := 79) rfl rfl rfl ?_
            refine j_gfr (pc' := 82) (x := 1) rfl rfl j_a0 rfl rfl ?_
            refine j_gfr (pc' := 85) (x := 5) rfl rfl j_a1 rfl rfl ?_
            refine j_gfi (pc' := 88) rfl rfl j_a5 rfl ?_
            refine j_callRv (pc' := 91) (ai := 42) (vs := [.ref 22, .ref 1, .int (σ.1 5 1)]) (rest := []) rfl rfl (fun _ _ => rfl) (c_X4_deal (σ.1 5 1) σ) (j_dd rfl hd) rfl (fun σ8 => ?_)
            refine j_iconst (pc' := 92) (x := (0 : Int32)) rfl rfl rfl ?_
            exact j_ret rfl rfl rfl (fun _ h => h)
        · refine j_bipush (pc' := 69) (x := (-2 : Int32)) rfl rfl rfl ?_
          exact j_ret rfl rfl rfl (fun _ h => h)
    exact j_none

noncomputable def f_X1_judgeOne (l2 : Int32) (l3 : Int32) (l4 : Int32) (σ : j_G) : Option j_G :=
  j_b1 (f_X4_upIn l3 σ) fun v1 =>
  if ¬ (f_X4_has v1 σ) = 0 then (j_b1 (f_X4_holesOf v1 σ) fun v2 =>
  j_ix v1 60 (
  if ((v2 &&& ((σ.1 41 (v1).toNatClampNeg) ^^^ (-1 : Int32))) &&& ((1 : Int32) <<< (l2 &&& 31))) = 0 then (some σ) else (j_ix v1 60 (
  j_ix v1 60 (
  j_lt (j_si σ 41 (v1).toNatClampNeg ((σ.1 41 (v1).toNatClampNeg) ||| ((1 : Int32) <<< (l2 &&& 31)))) fun σ3 =>
  j_ix v1 60 (
  j_b1 (if (σ3.1 25 (v1).toNatClampNeg) = 0 then (j_lt (j_si σ3 40 0 ((σ3.1 40 0) + (1 : Int32))) fun σ5 =>
  some σ5) else (j_lt (j_si σ3 40 1 ((σ3.1 40 1) + (1 : Int32))) fun σ6 =>
  some σ6)) fun σ4 =>
  j_ix v1 60 (
  if (l3 - (σ4.1 26 (v1).toNatClampNeg)) < l4 then (j_lt (j_si σ4 40 2 ((σ4.1 40 2) + (1 : Int32))) fun σ7 =>
  some σ7) else (some σ4)))))))) else (some σ)
theorem c_X1_judgeOne (l2 : Int32) (l3 : Int32) (l4 : Int32) (σ : j_G) : j_K true 2 7 [.ref 40, .ref 22, .int l2, .int l3, .int l4] σ (f_X1_judgeOne l2 l3 l4 σ) j_Rv := by
  refine j_mkK (M := M_cX1_judgeOne) (L := [some (.ref 40), some (.ref 22), some (.int l2), some (.int l3), some (.int l4), none]) (m := 1) t_7 rfl (j_rcvO j_a40 rfl) rfl (fun d hd τ => ?_)
  unfold f_X1_judgeOne
  refine j_aload_n (pc' := 1) rfl rfl rfl ?_
  refine j_iload_n (pc' := 2) rfl rfl rfl ?_
  refine j_callPi (pc' := 5) (ai := 48) (vs := [.ref 22, .int l3]) (rest := []) rfl rfl (fun _ _ => rfl) (c_X4_upIn l3 σ) (j_dd rfl hd) rfl (fun v1 => ?_)
  refine j_istore (pc' := 7) (L' := [some (.ref 40), some (.ref 22), some (.int l2), some (.int l3), some (.int l4), some (.int v1)]) rfl rfl rfl ?_
  refine j_aload_n (pc' := 8) rfl rfl rfl ?_
  refine j_iload (pc' := 10) rfl rfl rfl ?_
  refine j_callTi (pc' := 13) (ai := 41) (vs := [.ref 22, .int v1]) (rest := []) rfl rfl (fun _ _ => rfl) (c_X4_has v1 σ) (j_dd rfl hd) rfl ?_
  refine j_two (pT := 16) (pF := 39) (L1 := [some (.ref 40), some (.ref 22), some (.int l2), some (.int l3), some (.int l4), some (.int v1)]) (st1 := []) (fun o kT kF => ?_) (fun h7 => ?_) (fun h7 => ?_)
  · refine j_ifeq (t := 39) (pc' := 16) rfl rfl rfl (fun h8 => ?_) (fun h8 => ?_)
    · exact kF (fun z => z h8)
    · exact kT h8
  · refine j_aload_n (pc' := 17) rfl rfl rfl ?_
    refine j_iload (pc' := 19) rfl rfl rfl ?_
    refine j_callPi (pc' := 22) (ai := 49) (vs := [.ref 22, .int v1]) (rest := []) rfl rfl (fun _ _ => rfl) (c_X4_holesOf v1 σ) (j_dd rfl hd) rfl (fun v2 => ?_)
    refine j_aload_n (pc' := 23) rfl rfl rfl ?_
    refine j_gfr (pc' := 26) (x := 41) rfl rfl j_a40 rfl rfl ?_
    refine j_iload (pc' := 28) rfl rfl rfl ?_
    refine j_iald (pc' := 29) rfl rfl j_a41 ?_
    refine j_iconst (pc' := 30) (x := (-1 : Int32)) rfl rfl rfl ?_
    refine j_ixor (pc' := 31) rfl rfl ?_
    refine j_iand (pc' := 32) rfl rfl ?_
    refine j_iconst (pc' := 33) (x := (1 : Int32)) rfl rfl rfl ?_
    refine j_iload_n (pc' := 34) rfl rfl rfl ?_
    refine j_ishl (pc' := 35) rfl rfl ?_
    refine j_iand (pc' := 36) rfl rfl ?_
    refine j_two (pT := 39) (pF := 40) (L1 := [some (.ref 40), some (.ref 22), some (.int l2), some (.int l3), some (.int l4), some (.int v1)]) (st1 := []) (fun o kT kF => ?_) (fun h5 => ?_) (fun h5 => ?_)
    · refine j_ifne (t := 40) (pc' := 39) rfl rfl rfl (fun h6 => ?_) (fun h6 => ?_)
      · exact kF h6
      · exact kT h6
    · exact j_ret rfl rfl rfl (fun _ h => h)
    · refine j_aload_n (pc' := 41) rfl rfl rfl ?_
      refine j_gfr (pc' := 44) (x := 41) rfl rfl j_a40 rfl rfl ?_
      refine j_iload (pc' := 46) rfl rfl rfl ?_
      refine j_dup2 (pc' := 47) rfl rfl rfl rfl ?_
      refine j_iald (pc' := 48) rfl rfl j_a41 ?_
      refine j_iconst (pc' := 49) (x := (1 : Int32)) rfl rfl rfl ?_
      refine j_iload_n (pc' := 50) rfl rfl rfl ?_
      refine j_ishl (pc' := 51) rfl rfl ?_
      refine j_ior (pc' := 52) rfl rfl ?_
      refine j_iast (pc' := 53) rfl rfl j_a41 (fun σ3 => ?_)
      refine j_aload_n (pc' := 54) rfl rfl rfl ?_
      refine j_gfr (pc' := 57) (x := 25) rfl rfl j_a22 rfl rfl ?_
      refine j_iload (pc' := 59) rfl rfl rfl ?_
      refine j_iald (pc' := 60) rfl rfl j_a25 ?_
      refine j_q1 (Φl := (fun r Q => j_Tr true τ M_cX1_judgeOne d 86 [some (.ref 40), some (.ref 22), none, some (.int l3), some (.int l4), some (.int v1)] [] r Q)) ?_ (fun σ4 => ?_)
      · refine j_two (pT := 63) (pF := 76) (L1 := [some (.ref 40), some (.ref 22), some (.int l2), some (.int l3), some (.int l4), some (.int v1)]) (st1 := []) (fun o kT kF => ?_) (fun h1 => ?_) (fun h1 => ?_)
        · refine j_ifne (t := 76) (pc' := 63) rfl rfl rfl (fun h2 => ?_) (fun h2 => ?_)
          · exact kF h2
          · exact kT h2
        · refine j_aload_n (pc' := 64) rfl rfl rfl ?_
          refine j_dup (pc' := 65) rfl rfl rfl ?_
          refine j_gfi (pc' := 68) rfl rfl j_a40 rfl ?_
          refine j_iconst (pc' := 69) (x := (1 : Int32)) rfl rfl rfl ?_
          refine j_iadd (pc' := 70) rfl rfl ?_
          refine j_pfi (pc' := 73) rfl rfl j_a40 rfl rfl (fun σ5 => ?_)
          refine j_goto (t := 86) rfl rfl ?_
          refine j_wk [true, true, false, true, true, true] (L' := [some (.ref 40), some (.ref 22), none, some (.int l3), some (.int l4), some (.int v1)]) rfl ?_
          exact j_end (fun _ h => h)
        · refine j_aload_n (pc' := 77) rfl rfl rfl ?_
          refine j_dup (pc' := 78) rfl rfl rfl ?_
          refine j_gfi (pc' := 81) rfl rfl j_a40 rfl ?_
          refine j_iconst (pc' := 82) (x := (1 : Int32)) rfl rfl rfl ?_
          refine j_iadd (pc' := 83) rfl rfl ?_
          refine j_pfi (pc' := 86) rfl rfl j_a40 rfl rfl (fun σ6 => ?_)
          refine j_wk [true, true, false, true, true, true] (L' := [some (.ref 40), some (.ref 22), none, some (.int l3), some (.int l4), some (.int v1)]) rfl ?_
          exact j_end (fun _ h => h)
      show j_J true τ M_cX1_judgeOne d 86 [some (.ref 40), some (.ref 22), none, some (.int l3), some (.int l4), some (.int v1)] [] σ4 _ _
      refine j_iload_n (pc' := 87) rfl rfl rfl ?_
      refine j_aload_n (pc' := 88) rfl rfl rfl ?_
      refine j_gfr (pc' := 91) (x := 26) rfl rfl j_a22 rfl rfl ?_
      refine j_iload (pc' := 93) rfl rfl rfl ?_
      refine j_iald (pc' := 94) rfl rfl j_a26 ?_
      refine j_isub (pc' := 95) rfl rfl ?_
      refine j_iload (pc' := 97) rfl rfl rfl ?_
      refine j_two (pT := 100) (pF := 110) (L1 := [some (.ref 40), some (.ref 22), none, some (.int l3), some (.int l4), some (.int v1)]) (st1 := []) (fun o kT kF => ?_) (fun h3 => ?_) (fun h3 => ?_)
      · refine j_icge (t := 110) (pc' := 100) rfl rfl rfl (fun h4 => ?_) (fun h4 => ?_)
        · exact kF h4
        · exact kT h4
      · refine j_aload_n (pc' := 101) rfl rfl rfl ?_
        refine j_dup (pc' := 102) rfl rfl rfl ?_
        refine j_gfi (pc' := 105) rfl rfl j_a40 rfl ?_
        refine j_iconst (pc' := 106) (x := (1 : Int32)) rfl rfl rfl ?_
        refine j_iadd (pc' := 107) rfl rfl ?_
        refine j_pfi (pc' := 110) rfl rfl j_a40 rfl rfl (fun σ7 => ?_)
        exact j_ret rfl rfl rfl (fun _ h => h)
      · exact j_ret rfl rfl rfl (fun _ h => h)
  · exact j_ret rfl rfl rfl (fun _ h => h)

noncomputable def p_X1_judge_18 (a1 : Nat) (a0_3 : Nat) (l3 : Int32) : Nat → Int32 → j_G → Option j_G
  | 0, _, _ => none
  | n + 1, l4, σ =>
    if l4 < (σ.1 a1 0) then (j_ix l4 60 (
    j_lt (j_si σ a0_3 (l4).toNatClampNeg (0 : Int32)) fun σ1 =>
    p_X1_judge_18 a1 a0_3 l3 n (l4 + (1 : Int32)) σ1)) else (some σ)

noncomputable def p_X1_judge_44 (a2 : Nat) (a2_2 : Nat) (l3 : Int32) : Nat → Int32 → j_G → Option j_G
  | 0, _, _ => none
  | n + 1, l4, σ =>
    if (l4 + (1 : Int32)) < (σ.1 a2 0) then (j_ix l4 60 (
    j_ix (l4 + (1 : Int32)) 60 (
    j_b1 (f_X1_judgeOne ((σ.2 a2_2 (l4).toNatClampNeg)).toInt32 ((σ.2 a2_2 ((l4 + (1 : Int32))).toNatClampNeg)).toInt32 l3 σ) fun σ1 =>
    p_X1_judge_44 a2 a2_2 l3 n (l4 + (2 : Int32)) σ1))) else (some σ)

noncomputable def f_X1_judge (a0 : Nat) (a1 : Nat) (a0_3 : Nat) (a2 : Nat) (a2_2 : Nat) (l3 : Int32) (σ : j_G) : Option j_G :=
  j_lt (j_si σ a0 0 (0 : Int32)) fun σ1 =>
  j_lt (j_si σ1 a0 1 (0 : Int32)) fun σ2 =>
  j_lt (j_si σ2 a0 2 (0 : Int32)) fun σ3 =>
  j_b1 (p_X1_judge_18 a1 a0_3 l3 j_F (0 : Int32) σ3) fun σ4 =>
  j_b1 (p_X1_judge_44 a2 a2_2 l3 j_F (0 : Int32) σ4) fun σ5 =>
  some σ5
theorem l_X1_judge_18_40_22_67 {d : Nat} (hd : 3 ≤ d) (τ : j_G) (l3 : Int32) : ∀ (n : Nat) (l4 : Int32) (σ : j_G), j_J true τ M_cX1_judge d 18 [some (.ref 40), some (.ref 22), some (.ref 67), some (.int l3), some (.int l4)] [] σ (p_X1_judge_18 22 41 l3 n l4 σ) (fun r Q => j_Tr true τ M_cX1_judge d 41 [some (.ref 40), some (.ref 22), some (.ref 67), some (.int l3), none] [] r Q) := by
  intro n
  induction n with
  | zero => intro l4 σ; exact j_none
  | succ n ih =>
    intro l4 σ
    unfold p_X1_judge_18
    refine j_iload (pc' := 20) rfl rfl rfl ?_
    refine j_aload_n (pc' := 21) rfl rfl rfl ?_
    refine j_gfi (pc' := 24) rfl rfl j_a22 rfl ?_
    refine j_two (pT := 27) (pF := 41) (L1 := [some (.ref 40), some (.ref 22), some (.ref 67), some (.int l3), some (.int l4)]) (st1 := []) (fun o kT kF => ?_) (fun h1 => ?_) (fun h1 => ?_)
    · refine j_icge (t := 41) (pc' := 27) rfl rfl rfl (fun h2 => ?_) (fun h2 => ?_)
      · exact kF h2
      · exact kT h2
    · refine j_aload_n (pc' := 28) rfl rfl rfl ?_
      refine j_gfr (pc' := 31) (x := 41) rfl rfl j_a40 rfl rfl ?_
      refine j_iload (pc' := 33) rfl rfl rfl ?_
      refine j_iconst (pc' := 34) (x := (0 : Int32)) rfl rfl rfl ?_
      refine j_iast (pc' := 35) rfl rfl j_a41 (fun σ1 => ?_)
      refine j_iincx (pc' := 38) (y := (1 : Int32)) (L' := [some (.ref 40), some (.ref 22), some (.ref 67), some (.int l3), some (.int (l4 + (1 : Int32)))]) rfl rfl rfl rfl rfl ?_
      refine j_goto (t := 18) rfl rfl ?_
      exact ih (l4 + (1 : Int32)) σ1
    · refine j_wk [true, true, true, true, false] (L' := [some (.ref 40), some (.ref 22), some (.ref 67), some (.int l3), none]) rfl ?_
      exact j_end (fun _ h => h)

theorem l_X1_judge_44_40_22_67 {d : Nat} (hd : 3 ≤ d) (τ : j_G) (l3 : Int32) : ∀ (n : Nat) (l4 : Int32) (σ : j_G), j_J true τ M_cX1_judge d 44 [some (.ref 40), some (.ref 22), some (.ref 67), some (.int l3), some (.int l4)] [] σ (p_X1_judge_44 67 68 l3 n l4 σ) (fun r Q => j_Tr true τ M_cX1_judge d 85 [none, none, none, none, none] [] r Q) := by
  intro n
  induction n with
  | zero => intro l4 σ; exact j_none
  | succ n ih =>
    intro l4 σ
    unfold p_X1_judge_44
    refine j_iload (pc' := 46) rfl rfl rfl ?_
    refine j_iconst (pc' := 47) (x := (1 : Int32)) rfl rfl rfl ?_
    refine j_iadd (pc' := 48) rfl rfl ?_
    refine j_aload_n (pc' := 49) rfl rfl rfl ?_
    refine j_gfi (pc' := 52) rfl rfl j_a67 rfl ?_
    refine j_two (pT := 55) (pF := 85) (L1 := [some (.ref 40), some (.ref 22), some (.ref 67), some (.int l3), some (.int l4)]) (st1 := []) (fun o kT kF => ?_) (fun h1 => ?_) (fun h1 => ?_)
    · refine j_icge (t := 85) (pc' := 55) rfl rfl rfl (fun h2 => ?_) (fun h2 => ?_)
      · exact kF h2
      · exact kT h2
    · refine j_aload_n (pc' := 56) rfl rfl rfl ?_
      refine j_aload_n (pc' := 57) rfl rfl rfl ?_
      refine j_aload_n (pc' := 58) rfl rfl rfl ?_
      refine j_gfr (pc' := 61) (x := 68) rfl rfl j_a67 rfl rfl ?_
      refine j_iload (pc' := 63) rfl rfl rfl ?_
      refine j_lald (pc' := 64) rfl rfl j_a68 ?_
      refine j_l2i (pc' := 65) rfl rfl ?_
      refine j_aload_n (pc' := 66) rfl rfl rfl ?_
      refine j_gfr (pc' := 69) (x := 68) rfl rfl j_a67 rfl rfl ?_
      refine j_iload (pc' := 71) rfl rfl rfl ?_
      refine j_iconst (pc' := 72) (x := (1 : Int32)) rfl rfl rfl ?_
      refine j_iadd (pc' := 73) rfl rfl ?_
      refine j_lald (pc' := 74) rfl rfl j_a68 ?_
      refine j_l2i (pc' := 75) rfl rfl ?_
      refine j_iload_n (pc' := 76) rfl rfl rfl ?_
      refine j_callRv (pc' := 79) (ai := 7) (vs := [.ref 40, .ref 22, .int ((σ.2 68 (l4).toNatClampNeg)).toInt32, .int ((σ.2 68 ((l4 + (1 : Int32))).toNatClampNeg)).toInt32, .int l3]) (rest := []) rfl rfl (fun _ _ => rfl) (c_X1_judgeOne ((σ.2 68 (l4).toNatClampNeg)).toInt32 ((σ.2 68 ((l4 + (1 : Int32))).toNatClampNeg)).toInt32 l3 σ) (j_dd rfl hd) rfl (fun σ1 => ?_)
      refine j_iincx (pc' := 82) (y := (2 : Int32)) (L' := [some (.ref 40), some (.ref 22), some (.ref 67), some (.int l3), some (.int (l4 + (2 : Int32)))]) rfl rfl rfl rfl rfl ?_
      refine j_goto (t := 44) rfl rfl ?_
      exact ih (l4 + (2 : Int32)) σ1
    · refine j_wk [false, false, false, false, false] (L' := [none, none, none, none, none]) rfl ?_
      exact j_end (fun _ h => h)

theorem c_X1_judge_40_22_67 (l3 : Int32) (σ : j_G) : j_K true 3 6 [.ref 40, .ref 22, .ref 67, .int l3] σ (f_X1_judge 40 22 41 67 68 l3 σ) j_Rv := by
  refine j_mkK (M := M_cX1_judge) (L := [some (.ref 40), some (.ref 22), some (.ref 67), some (.int l3), none]) (m := 1) t_6 rfl (j_rcvO j_a40 rfl) rfl (fun d hd τ => ?_)
  unfold f_X1_judge
  refine j_aload_n (pc' := 1) rfl rfl rfl ?_
  refine j_iconst (pc' := 2) (x := (0 : Int32)) rfl rfl rfl ?_
  refine j_pfi (pc' := 5) rfl rfl j_a40 rfl rfl (fun σ1 => ?_)
  refine j_aload_n (pc' := 6) rfl rfl rfl ?_
  refine j_iconst (pc' := 7) (x := (0 : Int32)) rfl rfl rfl ?_
  refine j_pfi (pc' := 10) rfl rfl j_a40 rfl rfl (fun σ2 => ?_)
  refine j_aload_n (pc' := 11) rfl rfl rfl ?_
  refine j_iconst (pc' := 12) (x := (0 : Int32)) rfl rfl rfl ?_
  refine j_pfi (pc' := 15) rfl rfl j_a40 rfl rfl (fun σ3 => ?_)
  refine j_iconst (pc' := 16) (x := (0 : Int32)) rfl rfl rfl ?_
  refine j_istore (pc' := 18) (L' := [some (.ref 40), some (.ref 22), some (.ref 67), some (.int l3), some (.int (0 : Int32))]) rfl rfl rfl ?_
  refine j_q1 (l_X1_judge_18_40_22_67 hd τ l3 j_F (0 : Int32) σ3) (fun σ4 => ?_)
  show j_J true τ M_cX1_judge d 41 [some (.ref 40), some (.ref 22), some (.ref 67), some (.int l3), none] [] σ4 _ _
  refine j_iconst (pc' := 42) (x := (0 : Int32)) rfl rfl rfl ?_
  refine j_istore (pc' := 44) (L' := [some (.ref 40), some (.ref 22), some (.ref 67), some (.int l3), some (.int (0 : Int32))]) rfl rfl rfl ?_
  refine j_q1 (l_X1_judge_44_40_22_67 hd τ l3 j_F (0 : Int32) σ4) (fun σ5 => ?_)
  show j_J true τ M_cX1_judge d 85 [none, none, none, none, none] [] σ5 _ _
  exact j_ret rfl rfl rfl (fun _ h => h)

theorem l_X1_judge_18_40_22_69 {d : Nat} (hd : 3 ≤ d) (τ : j_G) (l3 : Int32) : ∀ (n : Nat) (l4 : Int32) (σ : j_G), j_J true τ M_cX1_judge d 18 [some (.ref 40), some (.ref 22), some (.ref 69), some (.int l3), some (.int l4)] [] σ (p_X1_judge_18 22 41 l3 n l4 σ) (fun r Q => j_Tr true τ M_cX1_judge d 41 [some (.ref 40), some (.ref 22), some (.ref 69), some (.int l3), none] [] r Q) := by
  intro n
  induction n with
  | zero => intro l4 σ; exact j_none
  | succ n ih =>
    intro l4 σ
    unfold p_X1_judge_18
    refine j_iload (pc' := 20) rfl rfl rfl ?_
    refine j_aload_n (pc' := 21) rfl rfl rfl ?_
    refine j_gfi (pc' := 24) rfl rfl j_a22 rfl ?_
    refine j_two (pT := 27) (pF := 41) (L1 := [some (.ref 40), some (.ref 22), some (.ref 69), some (.int l3), some (.int l4)]) (st1 := []) (fun o kT kF => ?_) (fun h1 => ?_) (fun h1 => ?_)
    · refine j_icge (t := 41) (pc' := 27) rfl rfl rfl (fun h2 => ?_) (fun h2 => ?_)
      · exact kF h2
      · exact kT h2
    · refine j_aload_n (pc' := 28) rfl rfl rfl ?_
      refine j_gfr (pc' := 31) (x := 41) rfl rfl j_a40 rfl rfl ?_
      refine j_iload (pc' := 33) rfl rfl rfl ?_
      refine j_iconst (pc' := 34) (x := (0 : Int32)) rfl rfl rfl ?_
      refine j_iast (pc' := 35) rfl rfl j_a41 (fun σ1 => ?_)
      refine j_iincx (pc' := 38) (y := (1 : Int32)) (L' := [some (.ref 40), some (.ref 22), some (.ref 69), some (.int l3), some (.int (l4 + (1 : Int32)))]) rfl rfl rfl rfl rfl ?_
      refine j_goto (t := 18) rfl rfl ?_
      exact ih (l4 + (1 : Int32)) σ1
    · refine j_wk [true, true, true, true, false] (L' := [some (.ref 40), some (.ref 22), some (.ref 69), some (.int l3), none]) rfl ?_
      exact j_end (fun _ h => h)

theorem l_X1_judge_44_40_22_69 {d : Nat} (hd : 3 ≤ d) (τ : j_G) (l3 : Int32) : ∀ (n : Nat) (l4 : Int32) (σ : j_G), j_J true τ M_cX1_judge d 44 [some (.ref 40), some (.ref 22), some (.ref 69), some (.int l3), some (.int l4)] [] σ (p_X1_judge_44 69 70 l3 n l4 σ) (fun r Q => j_Tr true τ M_cX1_judge d 85 [none, none, none, none, none] [] r Q) := by
  intro n
  induction n with
  | zero => intro l4 σ; exact j_none
  | succ n ih =>
    intro l4 σ
    unfold p_X1_judge_44
    refine j_iload (pc' := 46) rfl rfl rfl ?_
    refine j_iconst (pc' := 47) (x := (1 : Int32)) rfl rfl rfl ?_
    refine j_iadd (pc' := 48) rfl rfl ?_
    refine j_aload_n (pc' := 49) rfl rfl rfl ?_
    refine j_gfi (pc' := 52) rfl rfl j_a69 rfl ?_
    refine j_two (pT := 55) (pF := 85) (L1 := [some (.ref 40), some (.ref 22), some (.ref 69), some (.int l3), some (.int l4)]) (st1 := []) (fun o kT kF => ?_) (fun h1 => ?_) (fun h1 => ?_)
    · refine j_icge (t := 85) (pc' := 55) rfl rfl rfl (fun h2 => ?_) (fun h2 => ?_)
      · exact kF h2
      · exact kT h2
    · refine j_aload_n (pc' := 56) rfl rfl rfl ?_
      refine j_aload_n (pc' := 57) rfl rfl rfl ?_
      refine j_aload_n (pc' := 58) rfl rfl rfl ?_
      refine j_gfr (pc' := 61) (x := 70) rfl rfl j_a69 rfl rfl ?_
      refine j_iload (pc' := 63) rfl rfl rfl ?_
      refine j_lald (pc' := 64) rfl rfl j_a70 ?_
      refine j_l2i (pc' := 65) rfl rfl ?_
      refine j_aload_n (pc' := 66) rfl rfl rfl ?_
      refine j_gfr (pc' := 69) (x := 70) rfl rfl j_a69 rfl rfl ?_
      refine j_iload (pc' := 71) rfl rfl rfl ?_
      refine j_iconst (pc' := 72) (x := (1 : Int32)) rfl rfl rfl ?_
      refine j_iadd (pc' := 73) rfl rfl ?_
      refine j_lald (pc' := 74) rfl rfl j_a70 ?_
      refine j_l2i (pc' := 75) rfl rfl ?_
      refine j_iload_n (pc' := 76) rfl rfl rfl ?_
      refine j_callRv (pc' := 79) (ai := 7) (vs := [.ref 40, .ref 22, .int ((σ.2 70 (l4).toNatClampNeg)).toInt32, .int ((σ.2 70 ((l4 + (1 : Int32))).toNatClampNeg)).toInt32, .int l3]) (rest := []) rfl rfl (fun _ _ => rfl) (c_X1_judgeOne ((σ.2 70 (l4).toNatClampNeg)).toInt32 ((σ.2 70 ((l4 + (1 : Int32))).toNatClampNeg)).toInt32 l3 σ) (j_dd rfl hd) rfl (fun σ1 => ?_)
      refine j_iincx (pc' := 82) (y := (2 : Int32)) (L' := [some (.ref 40), some (.ref 22), some (.ref 69), some (.int l3), some (.int (l4 + (2 : Int32)))]) rfl rfl rfl rfl rfl ?_
      refine j_goto (t := 44) rfl rfl ?_
      exact ih (l4 + (2 : Int32)) σ1
    · refine j_wk [false, false, false, false, false] (L' := [none, none, none, none, none]) rfl ?_
      exact j_end (fun _ h => h)

theorem c_X1_judge_40_22_69 (l3 : Int32) (σ : j_G) : j_K true 3 6 [.ref 40, .ref 22, .ref 69, .int l3] σ (f_X1_judge 40 22 41 69 70 l3 σ) j_Rv := by
  refine j_mkK (M := M_cX1_judge) (L := [some (.ref 40), some (.ref 22), some (.ref 69), some (.int l3), none]) (m := 1) t_6 rfl (j_rcvO j_a40 rfl) rfl (fun d hd τ => ?_)
  unfold f_X1_judge
  refine j_aload_n (pc' := 1) rfl rfl rfl ?_
  refine j_iconst (pc' := 2) (x := (0 : Int32)) rfl rfl rfl ?_
  refine j_pfi (pc' := 5) rfl rfl j_a40 rfl rfl (fun σ1 => ?_)
  refine j_aload_n (pc' := 6) rfl rfl rfl ?_
  refine j_iconst (pc' := 7) (x := (0 : Int32)) rfl rfl rfl ?_
  refine j_pfi (pc' := 10) rfl rfl j_a40 rfl rfl (fun σ2 => ?_)
  refine j_aload_n (pc' := 11) rfl rfl rfl ?_
  refine j_iconst (pc' := 12) (x := (0 : Int32)) rfl rfl rfl ?_
  refine j_pfi (pc' := 15) rfl rfl j_a40 rfl rfl (fun σ3 => ?_)
  refine j_iconst (pc' := 16) (x := (0 : Int32)) rfl rfl rfl ?_
  refine j_istore (pc' := 18) (L' := [some (.ref 40), some (.ref 22), some (.ref 69), some (.int l3), some (.int (0 : Int32))]) rfl rfl rfl ?_
  refine j_q1 (l_X1_judge_18_40_22_69 hd τ l3 j_F (0 : Int32) σ3) (fun σ4 => ?_)
  show j_J true τ M_cX1_judge d 41 [some (.ref 40), some (.ref 22), some (.ref 69), some (.int l3), none] [] σ4 _ _
  refine j_iconst (pc' := 42) (x := (0 : Int32)) rfl rfl rfl ?_
  refine j_istore (pc' := 44) (L' := [some (.ref 40), some (.ref 22), some (.ref 69), some (.int l3), some (.int (0 : Int32))]) rfl rfl rfl ?_
  refine j_q1 (l_X1_judge_44_40_22_69 hd τ l3 j_F (0 : Int32) σ4) (fun σ5 => ?_)
  show j_J true τ M_cX1_judge d 85 [none, none, none, none, none] [] σ5 _ _
  exact j_ret rfl rfl rfl (fun _ h => h)

theorem l_X1_judge_18_40_22_71 {d : Nat} (hd : 3 ≤ d) (τ : j_G) (l3 : Int32) : ∀ (n : Nat) (l4 : Int32) (σ : j_G), j_J true τ M_cX1_judge d 18 [some (.ref 40), some (.ref 22), some (.ref 71), some (.int l3), some (.int l4)] [] σ (p_X1_judge_18 22 41 l3 n l4 σ) (fun r Q => j_Tr true τ M_cX1_judge d 41 [some (.ref 40), some (.ref 22), some (.ref 71), some (.int l3), none] [] r Q) := by
  intro n
  induction n with
  | zero => intro l4 σ; exact j_none
  | succ n ih =>
    intro l4 σ
    unfold p_X1_judge_18
    refine j_iload (pc' := 20) rfl rfl rfl ?_
    refine j_aload_n (pc' := 21) rfl rfl rfl ?_
    refine j_gfi (pc' := 24) rfl rfl j_a22 rfl ?_
    refine j_two (pT := 27) (pF := 41) (L1 := [some (.ref 40), some (.ref 22), some (.ref 71), some (.int l3), some (.int l4)]) (st1 := []) (fun o kT kF => ?_) (fun h1 => ?_) (fun h1 => ?_)
    · refine j_icge (t := 41) (pc' := 27) rfl rfl rfl (fun h2 => ?_) (fun h2 => ?_)
      · exact kF h2
      · exact kT h2
    · refine j_aload_n (pc' := 28) rfl rfl rfl ?_
      refine j_gfr (pc' := 31) (x := 41) rfl rfl j_a40 rfl rfl ?_
      refine j_iload (pc' := 33) rfl rfl rfl ?_
      refine j_iconst (pc' := 34) (x := (0 : Int32)) rfl rfl rfl ?_
      refine j_iast (pc' := 35) rfl rfl j_a41 (fun σ1 => ?_)
      refine j_iincx (pc' := 38) (y := (1 : Int32)) (L' := [some (.ref 40), some (.ref 22), some (.ref 71), some (.int l3), some (.int (l4 + (1 : Int32)))]) rfl rfl rfl rfl rfl ?_
      refine j_goto (t := 18) rfl rfl ?_
      exact ih (l4 + (1 : Int32)) σ1
    · refine j_wk [true, true, true, true, false] (L' := [some (.ref 40), some (.ref 22), some (.ref 71), some (.int l3), none]) rfl ?_
      exact j_end (fun _ h => h)

theorem l_X1_judge_44_40_22_71 {d : Nat} (hd : 3 ≤ d) (τ : j_G) (l3 : Int32) : ∀ (n : Nat) (l4 : Int32) (σ : j_G), j_J true τ M_cX1_judge d 44 [some (.ref 40), some (.ref 22), some (.ref 71), some (.int l3), some (.int l4)] [] σ (p_X1_judge_44 71 72 l3 n l4 σ) (fun r Q => j_Tr true τ M_cX1_judge d 85 [none, none, none, none, none] [] r Q) := by
  intro n
  induction n with
  | zero => intro l4 σ; exact j_none
  | succ n ih =>
    intro l4 σ
    unfold p_X1_judge_44
    refine j_iload (pc' := 46) rfl rfl rfl ?_
    refine j_iconst (pc' := 47) (x := (1 : Int32)) rfl rfl rfl ?_
    refine j_iadd (pc' := 48) rfl rfl ?_
    refine j_aload_n (pc' := 49) rfl rfl rfl ?_
    refine j_gfi (pc' := 52) rfl rfl j_a71 rfl ?_
    refine j_two (pT := 55) (pF := 85) (L1 := [some (.ref 40), some (.ref 22), some (.ref 71), some (.int l3), some (.int l4)]) (st1 := []) (fun o kT kF => ?_) (fun h1 => ?_) (fun h1 => ?_)
    · refine j_icge (t := 85) (pc' := 55) rfl rfl rfl (fun h2 => ?_) (fun h2 => ?_)
      · exact kF h2
      · exact kT h2
    · refine j_aload_n (pc' := 56) rfl rfl rfl ?_
      refine j_aload_n (pc' := 57) rfl rfl rfl ?_
      refine j_aload_n (pc' := 58) rfl rfl rfl ?_
      refine j_gfr (pc' := 61) (x := 72) rfl rfl j_a71 rfl rfl ?_
      refine j_iload (pc' := 63) rfl rfl rfl ?_
      refine j_lald (pc' := 64) rfl rfl j_a72 ?_
      refine j_l2i (pc' := 65) rfl rfl ?_
      refine j_aload_n (pc' := 66) rfl rfl rfl ?_
      refine j_gfr (pc' := 69) (x := 72) rfl rfl j_a71 rfl rfl ?_
      refine j_iload (pc' := 71) rfl rfl rfl ?_
      refine j_iconst (pc' := 72) (x := (1 : Int32)) rfl rfl rfl ?_
      refine j_iadd (pc' := 73) rfl rfl ?_
      refine j_lald (pc' := 74) rfl rfl j_a72 ?_
      refine j_l2i (pc' := 75) rfl rfl ?_
      refine j_iload_n (pc' := 76) rfl rfl rfl ?_
      refine j_callRv (pc' := 79) (ai := 7) (vs := [.ref 40, .ref 22, .int ((σ.2 72 (l4).toNatClampNeg)).toInt32, .int ((σ.2 72 ((l4 + (1 : Int32))).toNatClampNeg)).toInt32, .int l3]) (rest := []) rfl rfl (fun _ _ => rfl) (c_X1_judgeOne ((σ.2 72 (l4).toNatClampNeg)).toInt32 ((σ.2 72 ((l4 + (1 : Int32))).toNatClampNeg)).toInt32 l3 σ) (j_dd rfl hd) rfl (fun σ1 => ?_)
      refine j_iincx (pc' := 82) (y := (2 : Int32)) (L' := [some (.ref 40), some (.ref 22), some (.ref 71), some (.int l3), some (.int (l4 + (2 : Int32)))]) rfl rfl rfl rfl rfl ?_
      refine j_goto (t := 44) rfl rfl ?_
      exact ih (l4 + (2 : Int32)) σ1
    · refine j_wk [false, false, false, false, false] (L' := [none, none, none, none, none]) rfl ?_
      exact j_end (fun _ h => h)

theorem c_X1_judge_40_22_71 (l3 : Int32) (σ : j_G) : j_K true 3 6 [.ref 40, .ref 22, .ref 71, .int l3] σ (f_X1_judge 40 22 41 71 72 l3 σ) j_Rv := by
  refine j_mkK (M := M_cX1_judge) (L := [some (.ref 40), some (.ref 22), some (.ref 71), some (.int l3), none]) (m := 1) t_6 rfl (j_rcvO j_a40 rfl) rfl (fun d hd τ => ?_)
  unfold f_X1_judge
  refine j_aload_n (pc' := 1) rfl rfl rfl ?_
  refine j_iconst (pc' := 2) (x := (0 : Int32)) rfl rfl rfl ?_
  refine j_pfi (pc' := 5) rfl rfl j_a40 rfl rfl (fun σ1 => ?_)
  refine j_aload_n (pc' := 6) rfl rfl rfl ?_
  refine j_iconst (pc' := 7) (x := (0 : Int32)) rfl rfl rfl ?_
  refine j_pfi (pc' := 10) rfl rfl j_a40 rfl rfl (fun σ2 => ?_)
  refine j_aload_n (pc' := 11) rfl rfl rfl ?_
  refine j_iconst (pc' := 12) (x := (0 : Int32)) rfl rfl rfl ?_
  refine j_pfi (pc' := 15) rfl rfl j_a40 rfl rfl (fun σ3 => ?_)
  refine j_iconst (pc' := 16) (x := (0 : Int32)) rfl rfl rfl ?_
  refine j_istore (pc' := 18) (L' := [some (.ref 40), some (.ref 22), some (.ref 71), some (.int l3), some (.int (0 : Int32))]) rfl rfl rfl ?_
  refine j_q1 (l_X1_judge_18_40_22_71 hd τ l3 j_F (0 : Int32) σ3) (fun σ4 => ?_)
  show j_J true τ M_cX1_judge d 41 [some (.ref 40), some (.ref 22), some (.ref 71), some (.int l3), none] [] σ4 _ _
  refine j_iconst (pc' := 42) (x := (0 : Int32)) rfl rfl rfl ?_
  refine j_istore (pc' := 44) (L' := [some (.ref 40), some (.ref 22), some (.ref 71), some (.int l3), some (.int (0 : Int32))]) rfl rfl rfl ?_
  refine j_q1 (l_X1_judge_44_40_22_71 hd τ l3 j_F (0 : Int32) σ4) (fun σ5 => ?_)
  show j_J true τ M_cX1_judge d 85 [none, none, none, none, none] [] σ5 _ _
  exact j_ret rfl rfl rfl (fun _ h => h)

theorem l_X1_judge_18_40_22_73 {d : Nat} (hd : 3 ≤ d) (τ : j_G) (l3 : Int32) : ∀ (n : Nat) (l4 : Int32) (σ : j_G), j_J true τ M_cX1_judge d 18 [some (.ref 40), some (.ref 22), some (.ref 73), some (.int l3), some (.int l4)] [] σ (p_X1_judge_18 22 41 l3 n l4 σ) (fun r Q => j_Tr true τ M_cX1_judge d 41 [some (.ref 40), some (.ref 22), some (.ref 73), some (.int l3), none] [] r Q) := by
  intro n
  induction n with
  | zero => intro l4 σ; exact j_none
  | succ n ih =>
    intro l4 σ
    unfold p_X1_judge_18
    refine j_iload (pc' := 20) rfl rfl rfl ?_
    refine j_aload_n (pc' := 21) rfl rfl rfl ?_
    refine j_gfi (pc' := 24) rfl rfl j_a22 rfl ?_
    refine j_two (pT := 27) (pF := 41) (L1 := [some (.ref 40), some (.ref 22), some (.ref 73), some (.int l3), some (.int l4)]) (st1 := []) (fun o kT kF => ?_) (fun h1 => ?_) (fun h1 => ?_)
    · refine j_icge (t := 41) (pc' := 27) rfl rfl rfl (fun h2 => ?_) (fun h2 => ?_)
      · exact kF h2
      · exact kT h2
    · refine j_aload_n (pc' := 28) rfl rfl rfl ?_
      refine j_gfr (pc' := 31) (x := 41) rfl rfl j_a40 rfl rfl ?_
      refine j_iload (pc' := 33) rfl rfl rfl ?_
      refine j_iconst (pc' := 34) (x := (0 : Int32)) rfl rfl rfl ?_
      refine j_iast (pc' := 35) rfl rfl j_a41 (fun σ1 => ?_)
      refine j_iincx (pc' := 38) (y := (1 : Int32)) (L' := [some (.ref 40), some (.ref 22), some (.ref 73), some (.int l3), some (.int (l4 + (1 : Int32)))]) rfl rfl rfl rfl rfl ?_
      refine j_goto (t := 18) rfl rfl ?_
      exact ih (l4 + (1 : Int32)) σ1
    · refine j_wk [true, true, true, true, false] (L' := [some (.ref 40), some (.ref 22), some (.ref 73), some (.int l3), none]) rfl ?_
      exact j_end (fun _ h => h)

theorem l_X1_judge_44_40_22_73 {d : Nat} (hd : 3 ≤ d) (τ : j_G) (l3 : Int32) : ∀ (n : Nat) (l4 : Int32) (σ : j_G), j_J true τ M_cX1_judge d 44 [some (.ref 40), some (.ref 22), some (.ref 73), some (.int l3), some (.int l4)] [] σ (p_X1_judge_44 73 74 l3 n l4 σ) (fun r Q => j_Tr true τ M_cX1_judge d 85 [none, none, none, none, none] [] r Q) := by
  intro n
  induction n with
  | zero => intro l4 σ; exact j_none
  | succ n ih =>
    intro l4 σ
    unfold p_X1_judge_44
    refine j_iload (pc' := 46) rfl rfl rfl ?_
    refine j_iconst (pc' := 47) (x := (1 : Int32)) rfl rfl rfl ?_
    refine j_iadd (pc' := 48) rfl rfl ?_
    refine j_aload_n (pc' := 49) rfl rfl rfl ?_
    refine j_gfi (pc' := 52) rfl rfl j_a73 rfl ?_
    refine j_two (pT := 55) (pF := 85) (L1 := [some (.ref 40), some (.ref 22), some (.ref 73), some (.int l3), some (.int l4)]) (st1 := []) (fun o kT kF => ?_) (fun h1 => ?_) (fun h1 => ?_)
    · refine j_icge (t := 85) (pc' := 55) rfl rfl rfl (fun h2 => ?_) (fun h2 => ?_)
      · exact kF h2
      · exact kT h2
    · refine j_aload_n (pc' := 56) rfl rfl rfl ?_
      refine j_aload_n (pc' := 57) rfl rfl rfl ?_
      refine j_aload_n (pc' := 58) rfl rfl rfl ?_
      refine j_gfr (pc' := 61) (x := 74) rfl rfl j_a73 rfl rfl ?_
      refine j_iload (pc' := 63) rfl rfl rfl ?_
      refine j_lald (pc' := 64) rfl rfl j_a74 ?_
      refine j_l2i (pc' := 65) rfl rfl ?_
      refine j_aload_n (pc' := 66) rfl rfl rfl ?_
      refine j_gfr (pc' := 69) (x := 74) rfl rfl j_a73 rfl rfl ?_
      refine j_iload (pc' := 71) rfl rfl rfl ?_
      refine j_iconst (pc' := 72) (x := (1 : Int32)) rfl rfl rfl ?_
      refine j_iadd (pc' := 73) rfl rfl ?_
      refine j_lald (pc' := 74) rfl rfl j_a74 ?_
      refine j_l2i (pc' := 75) rfl rfl ?_
      refine j_iload_n (pc' := 76) rfl rfl rfl ?_
      refine j_callRv (pc' := 79) (ai := 7) (vs := [.ref 40, .ref 22, .int ((σ.2 74 (l4).toNatClampNeg)).toInt32, .int ((σ.2 74 ((l4 + (1 : Int32))).toNatClampNeg)).toInt32, .int l3]) (rest := []) rfl rfl (fun _ _ => rfl) (c_X1_judgeOne ((σ.2 74 (l4).toNatClampNeg)).toInt32 ((σ.2 74 ((l4 + (1 : Int32))).toNatClampNeg)).toInt32 l3 σ) (j_dd rfl hd) rfl (fun σ1 => ?_)
      refine j_iincx (pc' := 82) (y := (2 : Int32)) (L' := [some (.ref 40), some (.ref 22), some (.ref 73), some (.int l3), some (.int (l4 + (2 : Int32)))]) rfl rfl rfl rfl rfl ?_
      refine j_goto (t := 44) rfl rfl ?_
      exact ih (l4 + (2 : Int32)) σ1
    · refine j_wk [false, false, false, false, false] (L' := [none, none, none, none, none]) rfl ?_
      exact j_end (fun _ h => h)

theorem c_X1_judge_40_22_73 (l3 : Int32) (σ : j_G) : j_K true 3 6 [.ref 40, .ref 22, .ref 73, .int l3] σ (f_X1_judge 40 22 41 73 74 l3 σ) j_Rv := by
  refine j_mkK (M := M_cX1_judge) (L := [some (.ref 40), some (.ref 22), some (.ref 73), some (.int l3), none]) (m := 1) t_6 rfl (j_rcvO j_a40 rfl) rfl (fun d hd τ => ?_)
  unfold f_X1_judge
  refine j_aload_n (pc' := 1) rfl rfl rfl ?_
  refine j_iconst (pc' := 2) (x := (0 : Int32)) rfl rfl rfl ?_
  refine j_pfi (pc' := 5) rfl rfl j_a40 rfl rfl (fun σ1 => ?_)
  refine j_aload_n (pc' := 6) rfl rfl rfl ?_
  refine j_iconst (pc' := 7) (x := (0 : Int32)) rfl rfl rfl ?_
  refine j_pfi (pc' := 10) rfl rfl j_a40 rfl rfl (fun σ2 => ?_)
  refine j_aload_n (pc' := 11) rfl rfl rfl ?_
  refine j_iconst (pc' := 12) (x := (0 : Int32)) rfl rfl rfl ?_
  refine j_pfi (pc' := 15) rfl rfl j_a40 rfl rfl (fun σ3 => ?_)
  refine j_iconst (pc' := 16) (x := (0 : Int32)) rfl rfl rfl ?_
  refine j_istore (pc' := 18) (L' := [some (.ref 40), some (.ref 22), some (.ref 73), some (.int l3), some (.int (0 : Int32))]) rfl rfl rfl ?_
  refine j_q1 (l_X1_judge_18_40_22_73 hd τ l3 j_F (0 : Int32) σ3) (fun σ4 => ?_)
  show j_J true τ M_cX1_judge d 41 [some (.ref 40), some (.ref 22), some (.ref 73), some (.int l3), none] [] σ4 _ _
  refine j_iconst (pc' := 42) (x := (0 : Int32)) rfl rfl rfl ?_
  refine j_istore (pc' := 44) (L' := [some (.ref 40), some (.ref 22), some (.ref 73), some (.int l3), some (.int (0 : Int32))]) rfl rfl rfl ?_
  refine j_q1 (l_X1_judge_44_40_22_73 hd τ l3 j_F (0 : Int32) σ4) (fun σ5 => ?_)
  show j_J true τ M_cX1_judge d 85 [none, none, none, none, none] [] σ5 _ _
  exact j_ret rfl rfl rfl (fun _ h => h)

noncomputable def f_X11_counted (l1 : Int32) (σ : j_G) : Option (Int32 × j_G) :=
  j_b2 (f_X11_whyNoBlows l1 σ) fun v2 σ1 =>
  if ¬ v2 = 0 then (some (v2, σ1)) else (if l1 = 0 then (j_b1 (f_X1_judge 40 22 41 67 68 (0 : Int32) σ1) fun σ3 =>
  some ((σ3.1 40 0), σ3)) else
  if l1 = 1 then (j_b1 (f_X1_judge 40 22 41 69 70 (0 : Int32) σ1) fun σ4 =>
  some ((σ4.1 40 0), σ4)) else
  if l1 = 2 then (j_b1 (f_X1_judge 40 22 41 71 72 (0 : Int32) σ1) fun σ5 =>
  some ((σ5.1 40 0), σ5)) else
  if l1 = 3 then (j_b1 (f_X1_judge 40 22 41 73 74 (0 : Int32) σ1) fun σ6 =>
  some ((σ6.1 40 0), σ6)) else
  none)
theorem c_X11_counted (l1 : Int32) (σ : j_G) : j_K true 4 162 [.ref 0, .int l1] σ (f_X11_counted l1 σ) j_Ri := by
  refine j_mkK (M := M_cX11_counted) (L := [some (.ref 0), some (.int l1), none]) (m := 1) t_162 rfl (j_rcvO j_a0 rfl) rfl (fun d hd τ => ?_)
  unfold f_X11_counted
  refine j_aload_n (pc' := 1) rfl rfl rfl ?_
  refine j_iload_n (pc' := 2) rfl rfl rfl ?_
  refine j_callRi (pc' := 5) (ai := 194) (vs := [.ref 0, .int l1]) (rest := []) rfl rfl (fun _ _ => rfl) (c_X11_whyNoBlows l1 σ) (j_dd rfl hd) rfl (fun v2 σ1 => ?_)
  refine j_istore_n (pc' := 6) (L' := [some (.ref 0), some (.int l1), some (.int v2)]) rfl rfl rfl ?_
  refine j_iload_n (pc' := 7) rfl rfl rfl ?_
  refine j_two (pT := 10) (pF := 12) (L1 := [some (.ref 0), some (.int l1), some (.int v2)]) (st1 := []) (fun o kT kF => ?_) (fun h5 => ?_) (fun h5 => ?_)
  · refine j_ifeq (t := 12) (pc' := 10) rfl rfl rfl (fun h6 => ?_) (fun h6 => ?_)
    · exact kF (fun z => z h6)
    · exact kT h6
  · refine j_iload_n (pc' := 11) rfl rfl rfl ?_
    exact j_ret rfl rfl rfl (fun _ h => h)
  · refine j_aload_n (pc' := 13) rfl rfl rfl ?_
    refine j_gfr (pc' := 16) (x := 40) rfl rfl j_a0 rfl rfl ?_
    refine j_aload_n (pc' := 17) rfl rfl rfl ?_
    refine j_gfr (pc' := 20) (x := 22) rfl rfl j_a0 rfl rfl ?_
    refine j_aload_n (pc' := 21) rfl rfl rfl ?_
    refine j_gfr (pc' := 24) (x := 42) rfl rfl j_a0 rfl rfl ?_
    refine j_iload_n (pc' := 25) rfl rfl rfl ?_
    refine j_spl (k := (0 : Int32)) (fun h1 => ?_) (fun h1 => ?_)
    · subst h1
      refine j_aald (pc' := 26) (r := 67) rfl rfl j_a42 (by decide) rfl ?_
      refine j_iconst (pc' := 27) (x := (0 : Int32)) rfl rfl rfl ?_
      refine j_callRv (pc' := 30) (ai := 6) (vs := [.ref 40, .ref 22, .ref 67, .int (0 : Int32)]) (rest := []) rfl rfl (fun _ _ => rfl) (c_X1_judge_40_22_67 (0 : Int32) σ1) (j_dd rfl hd) rfl (fun σ3 => ?_)
      refine j_aload_n (pc' := 31) rfl rfl rfl ?_
      refine j_gfr (pc' := 34) (x := 40) rfl rfl j_a0 rfl rfl ?_
      refine j_gfi (pc' := 37) rfl rfl j_a40 rfl ?_
      exact j_ret rfl rfl rfl (fun _ h => h)
    refine j_spl (k := (1 : Int32)) (fun h2 => ?_) (fun h2 => ?_)
    · subst h2
      refine j_aald (pc' := 26) (r := 69) rfl rfl j_a42 (by decide) rfl ?_
      refine j_iconst (pc' := 27) (x := (0 : Int32)) rfl rfl rfl ?_
      refine j_callRv (pc' := 30) (ai := 6) (vs := [.ref 40, .ref 22, .ref 69, .int (0 : Int32)]) (rest := []) rfl rfl (fun _ _ => rfl) (c_X1_judge_40_22_69 (0 : Int32) σ1) (j_dd rfl hd) rfl (fun σ4 => ?_)
      refine j_aload_n (pc' := 31) rfl rfl rfl ?_
      refine j_gfr (pc' := 34) (x := 40) rfl rfl j_a0 rfl rfl ?_
      refine j_gfi (pc' := 37) rfl rfl j_a40 rfl ?_
      exact j_ret rfl rfl rfl (fun _ h => h)
    refine j_spl (k := (2 : Int32)) (fun h3 => ?_) (fun h3 => ?_)
    · subst h3
      refine j_aald (pc' := 26) (r := 71) rfl rfl j_a42 (by decide) rfl ?_
      refine j_iconst (pc' := 27) (x := (0 : Int32)) rfl rfl rfl ?_
      refine j_callRv (pc' := 30) (ai := 6) (vs := [.ref 40, .ref 22, .ref 71, .int (0 : Int32)]) (rest := []) rfl rfl (fun _ _ => rfl) (c_X1_judge_40_22_71 (0 : Int32) σ1) (j_dd rfl hd) rfl (fun σ5 => ?_)
      refine j_aload_n (pc' := 31) rfl rfl rfl ?_
      refine j_gfr (pc' := 34) (x := 40) rfl rfl j_a0 rfl rfl ?_
      refine j_gfi (pc' := 37) rfl rfl j_a40 rfl ?_
      exact j_ret rfl rfl rfl (fun _ h => h)
    refine j_spl (k := (3 : Int32)) (fun h4 => ?_) (fun h4 => ?_)
    · subst h4
      refine j_aald (pc' := 26) (r := 73) rfl rfl j_a42 (by decide) rfl ?_
      refine j_iconst (pc' := 27) (x := (0 : Int32)) rfl rfl rfl ?_
      refine j_callRv (pc' := 30) (ai := 6) (vs := [.ref 40, .ref 22, .ref 73, .int (0 : Int32)]) (rest := []) rfl rfl (fun _ _ => rfl) (c_X1_judge_40_22_73 (0 : Int32) σ1) (j_dd rfl hd) rfl (fun σ6 => ?_)
      refine j_aload_n (pc' := 31) rfl rfl rfl ?_
      refine j_gfr (pc' := 34) (x := 40) rfl rfl j_a0 rfl rfl ?_
      refine j_gfi (pc' := 37) rfl rfl j_a40 rfl ?_
      exact j_ret rfl rfl rfl (fun _ h => h)
    exact j_none

noncomputable def p_X12_asksBlows_46 (l1 : Int32) (σ : j_G) : Nat → Int32 → Option Int32
  | 0, _ => none
  | n + 1, l2 =>
    j_ix l1 4 (
    if l2 < (σ.1 94 (l1).toNatClampNeg) then (j_b1 (f_X12_numberAt l1 l2 σ) fun v1 =>
    j_b1 (f_X12_isHole v1 σ) fun v2 =>
    if ¬ v2 = 0 then (j_b1 (f_X12_numberAt l1 (l2 + (1 : Int32)) σ) fun v3 =>
    j_b1 (f_X12_isTick v3 σ) fun v4 =>
    if v4 = 0 then (some (-2 : Int32)) else (p_X12_asksBlows_46 l1 σ n (l2 + (2 : Int32)))) else (some (-2 : Int32))) else (some (0 : Int32)))

noncomputable def f_X12_asksBlows (l1 : Int32) (σ : j_G) : Option Int32 :=
  if ¬ (f_X12_isSlot l1) = 0 then (j_b1 (f_X12_isBoard σ) fun v1 =>
  if v1 = 0 then (some (-2 : Int32)) else (j_ix l1 4 (
  if (σ.1 94 (l1).toNatClampNeg) = (-1 : Int32) then (some (-6 : Int32)) else (j_ix l1 4 (
  if (2 : Int32) = 0 then none else (
  if ¬ ((σ.1 94 (l1).toNatClampNeg) - (σ.1 94 (l1).toNatClampNeg) / (2 : Int32) * (2 : Int32)) = 0 then (some (-2 : Int32)) else (p_X12_asksBlows_46 l1 σ j_F (0 : Int32)))))))) else (some (-2 : Int32))
theorem l_X12_asksBlows_46 {d : Nat} (hd : 2 ≤ d) (τ : j_G) (l1 : Int32) (σ : j_G) : ∀ (n : Nat) (l2 : Int32), j_J false τ M_cX12_asksBlows d 46 [some (.ref 75), some (.int l1), some (.int l2)] [] σ (p_X12_asksBlows_46 l1 σ n l2) (j_Pi σ) := by
  intro n
  induction n with
  | zero => intro l2; exact j_none
  | succ n ih =>
    intro l2
    unfold p_X12_asksBlows_46
    refine j_iload_n (pc' := 47) rfl rfl rfl ?_
    refine j_aload_n (pc' := 48) rfl rfl rfl ?_
    refine j_gfr (pc' := 51) (x := 94) rfl rfl j_a75 rfl rfl ?_
    refine j_iload_n (pc' := 52) rfl rfl rfl ?_
    refine j_iald (pc' := 53) rfl rfl j_a94 ?_
    refine j_two (pT := 56) (pF := 93) (L1 := [some (.ref 75), some (.int l1), some (.int l2)]) (st1 := []) (fun o kT kF => ?_) (fun h5 => ?_) (fun h5 => ?_)
    · refine j_icge (t := 93) (pc' := 56) rfl rfl rfl (fun h6 => ?_) (fun h6 => ?_)
      · exact kF h6
      · exact kT h6
    · refine j_aload_n (pc' := 57) rfl rfl rfl ?_
      refine j_aload_n (pc' := 58) rfl rfl rfl ?_
      refine j_iload_n (pc' := 59) rfl rfl rfl ?_
      refine j_iload_n (pc' := 60) rfl rfl rfl ?_
      refine j_callPl (pc' := 63) (ai := 298) (vs := [.ref 75, .int l1, .int l2]) (rest := [.ref 75]) rfl rfl (fun _ _ => rfl) (c_X12_numberAt l1 l2 σ) (j_dd rfl hd) rfl (fun v1 => ?_)
      refine j_callPi (pc' := 66) (ai := 201) (vs := [.ref 75, .long v1]) (rest := []) rfl rfl (fun _ _ => rfl) (c_X12_isHole v1 σ) (j_dd rfl hd) rfl (fun v2 => ?_)
      refine j_two (pT := 69) (pF := 84) (L1 := [some (.ref 75), some (.int l1), some (.int l2)]) (st1 := []) (fun o kT kF => ?_) (fun h3 => ?_) (fun h3 => ?_)
      · refine j_ifeq (t := 84) (pc' := 69) rfl rfl rfl (fun h4 => ?_) (fun h4 => ?_)
        · exact kF (fun z => z h4)
        · exact kT h4
      · refine j_aload_n (pc' := 70) rfl rfl rfl ?_
        refine j_aload_n (pc' := 71) rfl rfl rfl ?_
        refine j_iload_n (pc' := 72) rfl rfl rfl ?_
        refine j_iload_n (pc' := 73) rfl rfl rfl ?_
        refine j_iconst (pc' := 74) (x := (1 : Int32)) rfl rfl rfl ?_
        refine j_iadd (pc' := 75) rfl rfl ?_
        refine j_callPl (pc' := 78) (ai := 298) (vs := [.ref 75, .int l1, .int (l2 + (1 : Int32))]) (rest := [.ref 75]) rfl rfl (fun _ _ => rfl) (c_X12_numberAt l1 (l2 + (1 : Int32)) σ) (j_dd rfl hd) rfl (fun v3 => ?_)
        refine j_callPi (pc' := 81) (ai := 203) (vs := [.ref 75, .long v3]) (rest := []) rfl rfl (fun _ _ => rfl) (c_X12_isTick v3 σ) (j_dd rfl hd) rfl (fun v4 => ?_)
        refine j_two (pT := 84) (pF := 87) (L1 := [some (.ref 75), some (.int l1), some (.int l2)]) (st1 := []) (fun o kT kF => ?_) (fun h1 => ?_) (fun h1 => ?_)
        · refine j_ifne (t := 87) (pc' := 84) rfl rfl rfl (fun h2 => ?_) (fun h2 => ?_)
          · exact kF h2
          · exact kT h2
        · refine j_bipush (pc' := 86) (x := (-2 : Int32)) rfl rfl rfl ?_
          exact j_ret rfl rfl rfl (fun _ h => h)
        · refine j_iincx (pc' := 90) (y := (2 : Int32)) (L' := [some (.ref 75), some (.int l1), some (.int (l2 + (2 : Int32)))]) rfl rfl rfl rfl rfl ?_
          refine j_goto (t := 46) rfl rfl ?_
          exact ih (l2 + (2 : Int32))
      · refine j_bipush (pc' := 86) (x := (-2 : Int32)) rfl rfl rfl ?_
        exact j_ret rfl rfl rfl (fun _ h => h)
    · refine j_iconst (pc' := 94) (x := (0 : Int32)) rfl rfl rfl ?_
      exact j_ret rfl rfl rfl (fun _ h => h)

theorem c_X12_asksBlows (l1 : Int32) (σ : j_G) : j_K false 2 323 [.ref 75, .int l1] σ (f_X12_asksBlows l1 σ) (j_Pi σ) := by
  refine j_mkK (M := M_cX12_asksBlows) (L := [some (.ref 75), some (.int l1), none]) (m := 1) t_323 rfl (j_rcvO j_a75 rfl) rfl (fun d hd τ => ?_)
  unfold f_X12_asksBlows
  refine j_iload_n (pc' := 1) rfl rfl rfl ?_
  refine j_callTi (pc' := 4) (ai := 351) (vs := [.int l1]) (rest := []) rfl rfl (fun _ _ => rfl) (c_X12_isSlot l1 σ) (j_dd rfl hd) rfl ?_
  refine j_two (pT := 7) (pF := 14) (L1 := [some (.ref 75), some (.int l1), none]) (st1 := []) (fun o kT kF => ?_) (fun h7 => ?_) (fun h7 => ?_)
  · refine j_ifeq (t := 14) (pc' := 7) rfl rfl rfl (fun h8 => ?_) (fun h8 => ?_)
    · exact kF (fun z => z h8)
    · exact kT h8
  · refine j_aload_n (pc' := 8) rfl rfl rfl ?_
    refine j_callPi (pc' := 11) (ai := 199) (vs := [.ref 75]) (rest := []) rfl rfl (fun _ _ => rfl) (c_X12_isBoard  σ) (j_dd rfl hd) rfl (fun v1 => ?_)
    refine j_two (pT := 14) (pF := 17) (L1 := [some (.ref 75), some (.int l1), none]) (st1 := []) (fun o kT kF => ?_) (fun h5 => ?_) (fun h5 => ?_)
    · refine j_ifne (t := 17) (pc' := 14) rfl rfl rfl (fun h6 => ?_) (fun h6 => ?_)
      · exact kF h6
      · exact kT h6
    · refine j_bipush (pc' := 16) (x := (-2 : Int32)) rfl rfl rfl ?_
      exact j_ret rfl rfl rfl (fun _ h => h)
    · refine j_aload_n (pc' := 18) rfl rfl rfl ?_
      refine j_gfr (pc' := 21) (x := 94) rfl rfl j_a75 rfl rfl ?_
      refine j_iload_n (pc' := 22) rfl rfl rfl ?_
      refine j_iald (pc' := 23) rfl rfl j_a94 ?_
      refine j_iconst (pc' := 24) (x := (-1 : Int32)) rfl rfl rfl ?_
      refine j_two (pT := 27) (pF := 30) (L1 := [some (.ref 75), some (.int l1), none]) (st1 := []) (fun o kT kF => ?_) (fun h3 => ?_) (fun h3 => ?_)
      · refine j_icne (t := 30) (pc' := 27) rfl rfl rfl (fun h4 => ?_) (fun h4 => ?_)
        · exact kF h4
        · exact kT h4
      · refine j_bipush (pc' := 29) (x := (-6 : Int32)) rfl rfl rfl ?_
        exact j_ret rfl rfl rfl (fun _ h => h)
      · refine j_aload_n (pc' := 31) rfl rfl rfl ?_
        refine j_gfr (pc' := 34) (x := 94) rfl rfl j_a75 rfl rfl ?_
        refine j_iload_n (pc' := 35) rfl rfl rfl ?_
        refine j_iald (pc' := 36) rfl rfl j_a94 ?_
        refine j_iconst (pc' := 37) (x := (2 : Int32)) rfl rfl rfl ?_
        refine j_irem (pc' := 38) rfl rfl ?_
        refine j_two (pT := 41) (pF := 44) (L1 := [some (.ref 75), some (.int l1), none]) (st1 := []) (fun o kT kF => ?_) (fun h1 => ?_) (fun h1 => ?_)
        · refine j_ifeq (t := 44) (pc' := 41) rfl rfl rfl (fun h2 => ?_) (fun h2 => ?_)
          · exact kF (fun z => z h2)
          · exact kT h2
        · refine j_bipush (pc' := 43) (x := (-2 : Int32)) rfl rfl rfl ?_
          exact j_ret rfl rfl rfl (fun _ h => h)
        · refine j_iconst (pc' := 45) (x := (0 : Int32)) rfl rfl rfl ?_
          refine j_istore_n (pc' := 46) (L' := [some (.ref 75), some (.int l1), some (.int (0 : Int32))]) rfl rfl rfl ?_
          exact (l_X12_asksBlows_46 hd τ l1 σ j_F (0 : Int32))
  · refine j_bipush (pc' := 16) (x := (-2 : Int32)) rfl rfl rfl ?_
    exact j_ret rfl rfl rfl (fun _ h => h)

noncomputable def p_X12_strike_3 (l1 : Int32) (l2 : Int32) (l3 : Int32) (σ : j_G) : Nat → Int32 → Option j_G
  | 0, _ => none
  | n + 1, l4 =>
    if l4 < (σ.1 75 18) then (j_b1 (f_X12_inGame l4 (0 : Int32) σ) fun v1 =>
    j_b1 (if v1 = l1 then (some (1 : Int32)) else (j_b1 (f_X12_inGame l4 (1 : Int32) σ) fun v3 =>
    if v3 = l1 then (some (2 : Int32)) else (some (0 : Int32)))) fun v2 =>
    j_lt (p_X12_strike_3 l1 l2 l3 σ n (l4 + (1 : Int32))) fun (k4 : Option j_G) =>
    if ¬ v2 = 0 then (j_ix l4 60 (
    j_ix l4 60 (
    if ¬ (f_X12_in (l2).toInt64 ((σ.1 83 (l4).toNatClampNeg)).toInt64 ((σ.1 84 (l4).toNatClampNeg)).toInt64) = 0 then (j_ix l4 60 (
    if ¬ ((σ.1 93 (l4).toNatClampNeg) &&& v2) = 0 then (k4) else (j_ix l4 60 (
    j_ix l4 60 (
    j_lt (j_si σ 93 (l4).toNatClampNeg ((σ.1 93 (l4).toNatClampNeg) ||| v2)) fun σ5 =>
    j_b1 (f_X12_inGame l4 (2 : Int32) σ5) fun v6 =>
    j_lt (j_si σ5 75 39 ((σ5.1 75 39) + ((1 : Int32) - v6))) fun σ7 =>
    j_b1 (f_X12_inGame l4 (2 : Int32) σ7) fun v8 =>
    j_lt (j_si σ7 75 40 ((σ7.1 75 40) + v8)) fun σ9 =>
    j_ix l4 60 (
    j_lt (if (l2 - (σ9.1 83 (l4).toNatClampNeg)) < l3 then ((1 : Int32)) else ((0 : Int32))) fun v10 =>
    j_lt (j_si σ9 75 41 ((σ9.1 75 41) + v10)) fun σ11 =>
    some σ11)))))) else (k4)))) else (k4)) else (some σ)

noncomputable def f_X12_strike (l1 : Int32) (l2 : Int32) (l3 : Int32) (σ : j_G) : Option j_G :=
  p_X12_strike_3 l1 l2 l3 σ j_F (0 : Int32)
theorem l_X12_strike_3 {d : Nat} (hd : 1 ≤ d) (τ : j_G) (l1 : Int32) (l2 : Int32) (l3 : Int32) (σ : j_G) : ∀ (n : Nat) (l4 : Int32), j_J false τ M_cX12_strike d 3 [some (.ref 75), some (.int l1), some (.int l2), some (.int l3), some (.int l4), none] [] σ (p_X12_strike_3 l1 l2 l3 σ n l4) j_Rv := by
  intro n
  induction n with
  | zero => intro l4; exact j_none
  | succ n ih =>
    intro l4
    unfold p_X12_strike_3
    refine j_iload (pc' := 5) rfl rfl rfl ?_
    refine j_aload_n (pc' := 6) rfl rfl rfl ?_
    refine j_gfi (pc' := 9) rfl rfl j_a75 rfl ?_
    refine j_two (pT := 12) (pF := 170) (L1 := [some (.ref 75), some (.int l1), some (.int l2), some (.int l3), some (.int l4), none]) (st1 := []) (fun o kT kF => ?_) (fun h13 => ?_) (fun h13 => ?_)
    · refine j_icge (t := 170) (pc' := 12) rfl rfl rfl (fun h14 => ?_) (fun h14 => ?_)
      · exact kF h14
      · exact kT h14
    · refine j_aload_n (pc' := 13) rfl rfl rfl ?_
      refine j_iload (pc' := 15) rfl rfl rfl ?_
      refine j_iconst (pc' := 16) (x := (0 : Int32)) rfl rfl rfl ?_
      refine j_callPi (pc' := 19) (ai := 238) (vs := [.ref 75, .int l4, .int (0 : Int32)]) (rest := []) rfl rfl (fun _ _ => rfl) (c_X12_inGame l4 (0 : Int32) σ) (j_dd rfl hd) rfl (fun v1 => ?_)
      refine j_iload_n (pc' := 20) rfl rfl rfl ?_
      refine j_q1 (Φl := (fun r Q => j_Tr false τ M_cX12_strike d 43 [some (.ref 75), some (.int l1), some (.int l2), some (.int l3), some (.int l4), none] [.int r] σ Q)) ?_ (fun v2 => ?_)
      · refine j_two (pT := 23) (pF := 27) (L1 := [some (.ref 75), some (.int l1), some (.int l2), some (.int l3), some (.int l4), none]) (st1 := []) (fun o kT kF => ?_) (fun h3 => ?_) (fun h3 => ?_)
        · refine j_icne (t := 27) (pc' := 23) rfl rfl rfl (fun h4 => ?_) (fun h4 => ?_)
          · exact kF h4
          · exact kT h4
        · refine j_iconst (pc' := 24) (x := (1 : Int32)) rfl rfl rfl ?_
          refine j_goto (t := 43) rfl rfl ?_
          exact j_end (fun _ h => h)
        · refine j_aload_n (pc' := 28) rfl rfl rfl ?_
          refine j_iload (pc' := 30) rfl rfl rfl ?_
          refine j_iconst (pc' := 31) (x := (1 : Int32)) rfl rfl rfl ?_
          refine j_callPi (pc' := 34) (ai := 238) (vs := [.ref 75, .int l4, .int (1 : Int32)]) (rest := []) rfl rfl (fun _ _ => rfl) (c_X12_inGame l4 (1 : Int32) σ) (j_dd rfl hd) rfl (fun v3 => ?_)
          refine j_iload_n (pc' := 35) rfl rfl rfl ?_
          refine j_two (pT := 38) (pF := 42) (L1 := [some (.ref 75), some (.int l1), some (.int l2), some (.int l3), some (.int l4), none]) (st1 := []) (fun o kT kF => ?_) (fun h1 => ?_) (fun h1 => ?_)
          · refine j_icne (t := 42) (pc' := 38) rfl rfl rfl (fun h2 => ?_) (fun h2 => ?_)
            · exact kF h2
            · exact kT h2
          · refine j_iconst (pc' := 39) (x := (2 : Int32)) rfl rfl rfl ?_
            refine j_goto (t := 43) rfl rfl ?_
            exact j_end (fun _ h => h)
          · refine j_iconst (pc' := 43) (x := (0 : Int32)) rfl rfl rfl ?_
            exact j_end (fun _ h => h)
      show j_J false τ M_cX12_strike d 43 [some (.ref 75), some (.int l1), some (.int l2), some (.int l3), some (.int l4), none] [.int v2] σ _ _
      refine j_istore (pc' := 45) (L' := [some (.ref 75), some (.int l1), some (.int l2), some (.int l3), some (.int l4), some (.int v2)]) rfl rfl rfl ?_
      refine j_iload (pc' := 47) rfl rfl rfl ?_
      refine j_jn (P := (fun k => j_J false τ M_cX12_strike d 164 [some (.ref 75), some (.int l1), some (.int l2), some (.int l3), some (.int l4), none] [] σ (k ) j_Rv)) ?_ (fun k4 k4_h => ?_)
      · refine j_iincx (pc' := 167) (y := (1 : Int32)) (L' := [some (.ref 75), some (.int l1), some (.int l2), some (.int l3), some (.int (l4 + (1 : Int32))), none]) rfl rfl rfl rfl rfl ?_
        refine j_goto (t := 3) rfl rfl ?_
        exact ih (l4 + (1 : Int32))
      · refine j_two (pT := 50) (pF := 164) (L1 := [some (.ref 75), some (.int l1), some (.int l2), some (.int l3), some (.int l4), some (.int v2)]) (st1 := []) (fun o kT kF => ?_) (fun h11 => ?_) (fun h11 => ?_)
        · refine j_ifeq (t := 164) (pc' := 50) rfl rfl rfl (fun h12 => ?_) (fun h12 => ?_)
          · exact kF (fun z => z h12)
          · exact kT h12
        · refine j_iload_n (pc' := 51) rfl rfl rfl ?_
          refine j_i2l (pc' := 52) rfl rfl ?_
          refine j_aload_n (pc' := 53) rfl rfl rfl ?_
          refine j_gfr (pc' := 56) (x := 83) rfl rfl j_a75 rfl rfl ?_
          refine j_iload (pc' := 58) rfl rfl rfl ?_
          refine j_iald (pc' := 59) rfl rfl j_a83 ?_
          refine j_i2l (pc' := 60) rfl rfl ?_
          refine j_aload_n (pc' := 61) rfl rfl rfl ?_
          refine j_gfr (pc' := 64) (x := 84) rfl rfl j_a75 rfl rfl ?_
          refine j_iload (pc' := 66) rfl rfl rfl ?_
          refine j_iald (pc' := 67) rfl rfl j_a84 ?_
          refine j_i2l (pc' := 68) rfl rfl ?_
          refine j_callTi (pc' := 71) (ai := 196) (vs := [.long (l2).toInt64, .long ((σ.1 83 (l4).toNatClampNeg)).toInt64, .long ((σ.1 84 (l4).toNatClampNeg)).toInt64]) (rest := []) rfl rfl (fun _ _ => rfl) (c_X12_in (l2).toInt64 ((σ.1 83 (l4).toNatClampNeg)).toInt64 ((σ.1 84 (l4).toNatClampNeg)).toInt64 σ) (j_dd rfl hd) rfl ?_
          refine j_two (pT := 74) (pF := 164) (L1 := [some (.ref 75), some (.int l1), some (.int l2), some (.int l3), some (.int l4), some (.int v2)]) (st1 := []) (fun o kT kF => ?_) (fun h9 => ?_) (fun h9 => ?_)
          · refine j_ifeq (t := 164) (pc' := 74) rfl rfl rfl (fun h10 => ?_) (fun h10 => ?_)
            · exact kF (fun z => z h10)
            · exact kT h10
          · refine j_aload_n (pc' := 75) rfl rfl rfl ?_
            refine j_gfr (pc' := 78) (x := 93) rfl rfl j_a75 rfl rfl ?_
            refine j_iload (pc' := 80) rfl rfl rfl ?_
            refine j_iald (pc' := 81) rfl rfl j_a93 ?_
            refine j_iload (pc' := 83) rfl rfl rfl ?_
            refine j_iand (pc' := 84) rfl rfl ?_
            refine j_two (pT := 87) (pF := 90) (L1 := [some (.ref 75), some (.int l1), some (.int l2), some (.int l3), some (.int l4), some (.int v2)]) (st1 := []) (fun o kT kF => ?_) (fun h7 => ?_) (fun h7 => ?_)
            · refine j_ifeq (t := 90) (pc' := 87) rfl rfl rfl (fun h8 => ?_) (fun h8 => ?_)
              · exact kF (fun z => z h8)
              · exact kT h8
            · refine j_goto (t := 164) rfl rfl ?_
              refine j_wk [true, true, true, true, true, false] (L' := [some (.ref 75), some (.int l1), some (.int l2), some (.int l3), some (.int l4), none]) rfl ?_
              exact k4_h 
            · refine j_aload_n (pc' := 91) rfl rfl rfl ?_
              refine j_gfr (pc' := 94) (x := 93) rfl rfl j_a75 rfl rfl ?_
              refine j_iload (pc' := 96) rfl rfl rfl ?_
              refine j_dup2 (pc' := 97) rfl rfl rfl rfl ?_
              refine j_iald (pc' := 98) rfl rfl j_a93 ?_
              refine j_iload (pc' := 100) rfl rfl rfl ?_
              refine j_ior (pc' := 101) rfl rfl ?_
              refine j_iast (pc' := 102) rfl rfl j_a93 (fun σ5 => ?_)
              refine j_aload_n (pc' := 103) rfl rfl rfl ?_
              refine j_dup (pc' := 104) rfl rfl rfl ?_
              refine j_gfi (pc' := 107) rfl rfl j_a75 rfl ?_
              refine j_iconst (pc' := 108) (x := (1 : Int32)) rfl rfl rfl ?_
              refine j_aload_n (pc' := 109) rfl rfl rfl ?_
              refine j_iload (pc' := 111) rfl rfl rfl ?_
              refine j_iconst (pc' := 112) (x := (2 : Int32)) rfl rfl rfl ?_
              refine j_callPi (pc' := 115) (ai := 238) (vs := [.ref 75, .int l4, .int (2 : Int32)]) (rest := [.int (1 : Int32), .int (σ5.1 75 39), .ref 75]) rfl rfl (fun _ _ => rfl) (c_X12_inGame l4 (2 : Int32) σ5) (j_dd rfl hd) rfl (fun v6 => ?_)
              refine j_isub (pc' := 116) rfl rfl ?_
              refine j_iadd (pc' := 117) rfl rfl ?_
              refine j_pfi (pc' := 120) rfl rfl j_a75 rfl rfl (fun σ7 => ?_)
              refine j_aload_n (pc' := 121) rfl rfl rfl ?_
              refine j_dup (pc' := 122) rfl rfl rfl ?_
              refine j_gfi (pc' := 125) rfl rfl j_a75 rfl ?_
              refine j_aload_n (pc' := 126) rfl rfl rfl ?_
              refine j_iload (pc' := 128) rfl rfl rfl ?_
              refine j_iconst (pc' := 129) (x := (2 : Int32)) rfl rfl rfl ?_
              refine j_callPi (pc' := 132) (ai := 238) (vs := [.ref 75, .int l4, .int (2 : Int32)]) (rest := [.int (σ7.1 75 40), .ref 75]) rfl rfl (fun _ _ => rfl) (c_X12_inGame l4 (2 : Int32) σ7) (j_dd rfl hd) rfl (fun v8 => ?_)
              refine j_iadd (pc' := 133) rfl rfl ?_
              refine j_pfi (pc' := 136) rfl rfl j_a75 rfl rfl (fun σ9 => ?_)
              refine j_aload_n (pc' := 137) rfl rfl rfl ?_
              refine j_dup (pc' := 138) rfl rfl rfl ?_
              refine j_gfi (pc' := 141) rfl rfl j_a75 rfl ?_
              refine j_iload_n (pc' := 142) rfl rfl rfl ?_
              refine j_aload_n (pc' := 143) rfl rfl rfl ?_
              refine j_gfr (pc' := 146) (x := 83) rfl rfl j_a75 rfl rfl ?_
              refine j_iload (pc' := 148) rfl rfl rfl ?_
              refine j_iald (pc' := 149) rfl rfl j_a83 ?_
              refine j_isub (pc' := 150) rfl rfl ?_
              refine j_iload_n (pc' := 151) rfl rfl rfl ?_
              refine j_ql (Φl := (fun r Q => j_Tr false τ M_cX12_strike d 159 [none, none, none, none, none, none] [.int r, .int (σ9.1 75 41), .ref 75] σ9 Q)) ?_ (fun v10 => ?_)
              · refine j_twoT (pT := 154) (pF := 158) (L1 := [some (.ref 75), some (.int l1), some (.int l2), some (.int l3), some (.int l4), some (.int v2)]) (st1 := [.int (σ9.1 75 41), .ref 75]) (fun o kT kF => ?_) (fun h5 => ?_) (fun h5 => ?_)
                · refine j_icge (t := 158) (pc' := 154) rfl rfl rfl (fun h6 => ?_) (fun h6 => ?_)
                  · exact kF h6
                  · exact kT h6
                · refine j_iconst (pc' := 155) (x := (1 : Int32)) rfl rfl rfl ?_
                  refine j_goto (t := 159) rfl rfl ?_
                  refine j_wk [false, false, false, false, false, false] (L' := [none, none, none, none, none, none]) rfl ?_
                  exact j_end (fun _ h => h)
                · refine j_iconst (pc' := 159) (x := (0 : Int32)) rfl rfl rfl ?_
                  refine j_wk [false, false, false, false, false, false] (L' := [none, none, none, none, none, none]) rfl ?_
                  exact j_end (fun _ h => h)
              show j_J false τ M_cX12_strike d 159 [none, none, none, none, none, none] [.int v10, .int (σ9.1 75 41), .ref 75] σ9 _ _
              refine j_iadd (pc' := 160) rfl rfl ?_
              refine j_pfi (pc' := 163) rfl rfl j_a75 rfl rfl (fun σ11 => ?_)
              exact j_ret rfl rfl rfl (fun _ h => h)
          · refine j_wk [true, true, true, true, true, false] (L' := [some (.ref 75), some (.int l1), some (.int l2), some (.int l3), some (.int l4), none]) rfl ?_
            exact k4_h 
        · refine j_wk [true, true, true, true, true, false] (L' := [some (.ref 75), some (.int l1), some (.int l2), some (.int l3), some (.int l4), none]) rfl ?_
          exact k4_h 
    · exact j_ret rfl rfl rfl (fun _ h => h)

theorem c_X12_strike (l1 : Int32) (l2 : Int32) (l3 : Int32) (σ : j_G) : j_K false 1 324 [.ref 75, .int l1, .int l2, .int l3] σ (f_X12_strike l1 l2 l3 σ) j_Rv := by
  refine j_mkK (M := M_cX12_strike) (L := [some (.ref 75), some (.int l1), some (.int l2), some (.int l3), none, none]) (m := 2) t_324 rfl (j_rcvO j_a75 rfl) rfl (fun d hd τ => ?_)
  unfold f_X12_strike
  refine j_iconst (pc' := 1) (x := (0 : Int32)) rfl rfl rfl ?_
  refine j_istore (pc' := 3) (L' := [some (.ref 75), some (.int l1), some (.int l2), some (.int l3), some (.int (0 : Int32)), none]) rfl rfl rfl ?_
  exact (l_X12_strike_3 hd τ l1 l2 l3 σ j_F (0 : Int32))

noncomputable def p_X12_layBlows_21 (l1 : Int32) (l2 : Int32) : Nat → Int32 → j_G → Option j_G
  | 0, _, _ => none
  | n + 1, l3, σ =>
    if l3 < (σ.1 75 18) then (j_ix l3 60 (
    j_lt (j_si σ 93 (l3).toNatClampNeg (0 : Int32)) fun σ1 =>
    p_X12_layBlows_21 l1 l2 n (l3 + (1 : Int32)) σ1)) else (some σ)

noncomputable def p_X12_layBlows_44 (l1 : Int32) (l2 : Int32) : Nat → Int32 → j_G → Option j_G
  | 0, _, _ => none
  | n + 1, l3, σ =>
    j_ix l1 4 (
    if l3 < (σ.1 94 (l1).toNatClampNeg) then (j_b1 (f_X12_numberAt l1 l3 σ) fun v1 =>
    j_b1 (f_X12_numberAt l1 (l3 + (1 : Int32)) σ) fun v2 =>
    j_b1 (f_X12_strike (v1).toInt32 (v2).toInt32 l2 σ) fun σ3 =>
    p_X12_layBlows_44 l1 l2 n (l3 + (2 : Int32)) σ3) else (some σ))

noncomputable def f_X12_layBlows (l1 : Int32) (l2 : Int32) (σ : j_G) : Option j_G :=
  j_b1 (f_X12_lay σ) fun σ1 =>
  j_lt (j_si σ1 75 39 (0 : Int32)) fun σ2 =>
  j_lt (j_si σ2 75 40 (0 : Int32)) fun σ3 =>
  j_lt (j_si σ3 75 41 (0 : Int32)) fun σ4 =>
  j_b1 (p_X12_layBlows_21 l1 l2 j_F (0 : Int32) σ4) fun σ5 =>
  j_b1 (p_X12_layBlows_44 l1 l2 j_F (0 : Int32) σ5) fun σ6 =>
  some σ6
theorem l_X12_layBlows_21 {d : Nat} (hd : 3 ≤ d) (τ : j_G) (l1 : Int32) (l2 : Int32) : ∀ (n : Nat) (l3 : Int32) (σ : j_G), j_J false τ M_cX12_layBlows d 21 [some (.ref 75), some (.int l1), some (.int l2), some (.int l3)] [] σ (p_X12_layBlows_21 l1 l2 n l3 σ) (fun r Q => j_Tr false τ M_cX12_layBlows d 42 [some (.ref 75), some (.int l1), some (.int l2), none] [] r Q) := by
  intro n
  induction n with
  | zero => intro l3 σ; exact j_none
  | succ n ih =>
    intro l3 σ
    unfold p_X12_layBlows_21
    refine j_iload_n (pc' := 22) rfl rfl rfl ?_
    refine j_aload_n (pc' := 23) rfl rfl rfl ?_
    refine j_gfi (pc' := 26) rfl rfl j_a75 rfl ?_
    refine j_two (pT := 29) (pF := 42) (L1 := [some (.ref 75), some (.int l1), some (.int l2), some (.int l3)]) (st1 := []) (fun o kT kF => ?_) (fun h1 => ?_) (fun h1 => ?_)
    · refine j_icge (t := 42) (pc' := 29) rfl rfl rfl (fun h2 => ?_) (fun h2 => ?_)
      · exact kF h2
      · exact kT h2
    · refine j_aload_n (pc' := 30) rfl rfl rfl ?_
      refine j_gfr (pc' := 33) (x := 93) rfl rfl j_a75 rfl rfl ?_
      refine j_iload_n (pc' := 34) rfl rfl rfl ?_
      refine j_iconst (pc' := 35) (x := (0 : Int32)) rfl rfl rfl ?_
      refine j_iast (pc' := 36) rfl rfl j_a93 (fun σ1 => ?_)
      refine j_iincx (pc' := 39) (y := (1 : Int32)) (L' := [some (.ref 75), some (.int l1), some (.int l2), some (.int (l3 + (1 : Int32)))]) rfl rfl rfl rfl rfl ?_
      refine j_goto (t := 21) rfl rfl ?_
      exact ih (l3 + (1 : Int32)) σ1
    · refine j_wk [true, true, true, false] (L' := [some (.ref 75), some (.int l1), some (.int l2), none]) rfl ?_
      exact j_end (fun _ h => h)

theorem l_X12_layBlows_44 {d : Nat} (hd : 3 ≤ d) (τ : j_G) (l1 : Int32) (l2 : Int32) : ∀ (n : Nat) (l3 : Int32) (σ : j_G), j_J false τ M_cX12_layBlows d 44 [some (.ref 75), some (.int l1), some (.int l2), some (.int l3)] [] σ (p_X12_layBlows_44 l1 l2 n l3 σ) (fun r Q => j_Tr false τ M_cX12_layBlows d 81 [none, none, none, none] [] r Q) := by
  intro n
  induction n with
  | zero => intro l3 σ; exact j_none
  | succ n ih =>
    intro l3 σ
    unfold p_X12_layBlows_44
    refine j_iload_n (pc' := 45) rfl rfl rfl ?_
    refine j_aload_n (pc' := 46) rfl rfl rfl ?_
    refine j_gfr (pc' := 49) (x := 94) rfl rfl j_a75 rfl rfl ?_
    refine j_iload_n (pc' := 50) rfl rfl rfl ?_
    refine j_iald (pc' := 51) rfl rfl j_a94 ?_
    refine j_two (pT := 54) (pF := 81) (L1 := [some (.ref 75), some (.int l1), some (.int l2), some (.int l3)]) (st1 := []) (fun o kT kF => ?_) (fun h1 => ?_) (fun h1 => ?_)
    · refine j_icge (t := 81) (pc' := 54) rfl rfl rfl (fun h2 => ?_) (fun h2 => ?_)
      · exact kF h2
      · exact kT h2
    · refine j_aload_n (pc' := 55) rfl rfl rfl ?_
      refine j_aload_n (pc' := 56) rfl rfl rfl ?_
      refine j_iload_n (pc' := 57) rfl rfl rfl ?_
      refine j_iload_n (pc' := 58) rfl rfl rfl ?_
      refine j_callPl (pc' := 61) (ai := 298) (vs := [.ref 75, .int l1, .int l3]) (rest := [.ref 75]) rfl rfl (fun _ _ => rfl) (c_X12_numberAt l1 l3 σ) (j_dd rfl hd) rfl (fun v1 => ?_)
      refine j_l2i (pc' := 62) rfl rfl ?_
      refine j_aload_n (pc' := 63) rfl rfl rfl ?_
      refine j_iload_n (pc' := 64) rfl rfl rfl ?_
      refine j_iload_n (pc' := 65) rfl rfl rfl ?_
      refine j_iconst (pc' := 66) (x := (1 : Int32)) rfl rfl rfl ?_
      refine j_iadd (pc' := 67) rfl rfl ?_
      refine j_callPl (pc' := 70) (ai := 298) (vs := [.ref 75, .int l1, .int (l3 + (1 : Int32))]) (rest := [.int (v1).toInt32, .ref 75]) rfl rfl (fun _ _ => rfl) (c_X12_numberAt l1 (l3 + (1 : Int32)) σ) (j_dd rfl hd) rfl (fun v2 => ?_)
      refine j_l2i (pc' := 71) rfl rfl ?_
      refine j_iload_n (pc' := 72) rfl rfl rfl ?_
      refine j_callRv (pc' := 75) (ai := 324) (vs := [.ref 75, .int (v1).toInt32, .int (v2).toInt32, .int l2]) (rest := []) rfl rfl (fun _ _ => rfl) (c_X12_strike (v1).toInt32 (v2).toInt32 l2 σ) (j_dd rfl hd) rfl (fun σ3 => ?_)
      refine j_iincx (pc' := 78) (y := (2 : Int32)) (L' := [some (.ref 75), some (.int l1), some (.int l2), some (.int (l3 + (2 : Int32)))]) rfl rfl rfl rfl rfl ?_
      refine j_goto (t := 44) rfl rfl ?_
      exact ih (l3 + (2 : Int32)) σ3
    · refine j_wk [false, false, false, false] (L' := [none, none, none, none]) rfl ?_
      exact j_end (fun _ h => h)

theorem c_X12_layBlows (l1 : Int32) (l2 : Int32) (σ : j_G) : j_K false 3 325 [.ref 75, .int l1, .int l2] σ (f_X12_layBlows l1 l2 σ) j_Rv := by
  refine j_mkK (M := M_cX12_layBlows) (L := [some (.ref 75), some (.int l1), some (.int l2), none]) (m := 1) t_325 rfl (j_rcvO j_a75 rfl) rfl (fun d hd τ => ?_)
  unfold f_X12_layBlows
  refine j_aload_n (pc' := 1) rfl rfl rfl ?_
  refine j_callRv (pc' := 4) (ai := 237) (vs := [.ref 75]) (rest := []) rfl rfl (fun _ _ => rfl) (c_X12_lay  σ) (j_dd rfl hd) rfl (fun σ1 => ?_)
  refine j_aload_n (pc' := 5) rfl rfl rfl ?_
  refine j_iconst (pc' := 6) (x := (0 : Int32)) rfl rfl rfl ?_
  refine j_pfi (pc' := 9) rfl rfl j_a75 rfl rfl (fun σ2 => ?_)
  refine j_aload_n (pc' := 10) rfl rfl rfl ?_
  refine j_iconst (pc' := 11) (x := (0 : Int32)) rfl rfl rfl ?_
  refine j_pfi (pc' := 14) rfl rfl j_a75 rfl rfl (fun σ3 => ?_)
  refine j_aload_n (pc' := 15) rfl rfl rfl ?_
  refine j_iconst (pc' := 16) (x := (0 : Int32)) rfl rfl rfl ?_
  refine j_pfi (pc' := 19) rfl rfl j_a75 rfl rfl (fun σ4 => ?_)
  refine j_iconst (pc' := 20) (x := (0 : Int32)) rfl rfl rfl ?_
  refine j_istore_n (pc' := 21) (L' := [some (.ref 75), some (.int l1), some (.int l2), some (.int (0 : Int32))]) rfl rfl rfl ?_
  refine j_q1 (l_X12_layBlows_21 hd τ l1 l2 j_F (0 : Int32) σ4) (fun σ5 => ?_)
  show j_J false τ M_cX12_layBlows d 42 [some (.ref 75), some (.int l1), some (.int l2), none] [] σ5 _ _
  refine j_iconst (pc' := 43) (x := (0 : Int32)) rfl rfl rfl ?_
  refine j_istore_n (pc' := 44) (L' := [some (.ref 75), some (.int l1), some (.int l2), some (.int (0 : Int32))]) rfl rfl rfl ?_
  refine j_q1 (l_X12_layBlows_44 hd τ l1 l2 j_F (0 : Int32) σ5) (fun σ6 => ?_)
  show j_J false τ M_cX12_layBlows d 81 [none, none, none, none] [] σ6 _ _
  exact j_ret rfl rfl rfl (fun _ h => h)

noncomputable def f_X12_counted (l1 : Int32) (σ : j_G) : Option (Int32 × j_G) :=
  j_b1 (f_X12_asksBlows l1 σ) fun v1 =>
  if v1 < 0 then (some (v1, σ)) else (j_b1 (f_X12_layBlows l1 (0 : Int32) σ) fun σ2 =>
  some ((σ2.1 75 39), σ2))
theorem c_X12_counted (l1 : Int32) (σ : j_G) : j_K false 4 326 [.ref 75, .int l1] σ (f_X12_counted l1 σ) j_Ri := by
  refine j_mkK (M := M_cX12_counted) (L := [some (.ref 75), some (.int l1), none]) (m := 1) t_326 rfl (j_rcvO j_a75 rfl) rfl (fun d hd τ => ?_)
  unfold f_X12_counted
  refine j_aload_n (pc' := 1) rfl rfl rfl ?_
  refine j_iload_n (pc' := 2) rfl rfl rfl ?_
  refine j_callPi (pc' := 5) (ai := 323) (vs := [.ref 75, .int l1]) (rest := []) rfl rfl (fun _ _ => rfl) (c_X12_asksBlows l1 σ) (j_dd rfl hd) rfl (fun v1 => ?_)
  refine j_istore_n (pc' := 6) (L' := [some (.ref 75), some (.int l1), some (.int v1)]) rfl rfl rfl ?_
  refine j_iload_n (pc' := 7) rfl rfl rfl ?_
  refine j_two (pT := 10) (pF := 12) (L1 := [some (.ref 75), some (.int l1), some (.int v1)]) (st1 := []) (fun o kT kF => ?_) (fun h1 => ?_) (fun h1 => ?_)
  · refine j_ifge (t := 12) (pc' := 10) rfl rfl rfl (fun h2 => ?_) (fun h2 => ?_)
    · exact kF h2
    · exact kT h2
  · refine j_iload_n (pc' := 11) rfl rfl rfl ?_
    exact j_ret rfl rfl rfl (fun _ h => h)
  · refine j_aload_n (pc' := 13) rfl rfl rfl ?_
    refine j_iload_n (pc' := 14) rfl rfl rfl ?_
    refine j_iconst (pc' := 15) (x := (0 : Int32)) rfl rfl rfl ?_
    refine j_callRv (pc' := 18) (ai := 325) (vs := [.ref 75, .int l1, .int (0 : Int32)]) (rest := []) rfl rfl (fun _ _ => rfl) (c_X12_layBlows l1 (0 : Int32) σ) (j_dd rfl hd) rfl (fun σ2 => ?_)
    refine j_aload_n (pc' := 19) rfl rfl rfl ?_
    refine j_gfi (pc' := 22) rfl rfl j_a75 rfl ?_
    exact j_ret rfl rfl rfl (fun _ h => h)

noncomputable def f_X11_scored (l1 : Int32) (σ : j_G) : Option (Int32 × j_G) :=
  j_b2 (f_X11_whyNoBlows l1 σ) fun v2 σ1 =>
  if ¬ v2 = 0 then (some ((v2 * (1000 : Int32)), σ1)) else (if l1 = 0 then (j_b1 (f_X1_judge 40 22 41 67 68 (0 : Int32) σ1) fun σ3 =>
  some ((((10 : Int32) * (σ3.1 40 0)) - ((20 : Int32) * (σ3.1 40 1))), σ3)) else
  if l1 = 1 then (j_b1 (f_X1_judge 40 22 41 69 70 (0 : Int32) σ1) fun σ4 =>
  some ((((10 : Int32) * (σ4.1 40 0)) - ((20 : Int32) * (σ4.1 40 1))), σ4)) else
  if l1 = 2 then (j_b1 (f_X1_judge 40 22 41 71 72 (0 : Int32) σ1) fun σ5 =>
  some ((((10 : Int32) * (σ5.1 40 0)) - ((20 : Int32) * (σ5.1 40 1))), σ5)) else
  if l1 = 3 then (j_b1 (f_X1_judge 40 22 41 73 74 (0 : Int32) σ1) fun σ6 =>
  some ((((10 : Int32) * (σ6.1 40 0)) - ((20 : Int32) * (σ6.1 40 1))), σ6)) else
  none)
theorem c_X11_scored (l1 : Int32) (σ : j_G) : j_K true 4 163 [.ref 0, .int l1] σ (f_X11_scored l1 σ) j_Ri := by
  refine j_mkK (M := M_cX11_scored) (L := [some (.ref 0), some (.int l1), none]) (m := 1) t_163 rfl (j_rcvO j_a0 rfl) rfl (fun d hd τ => ?_)
  unfold f_X11_scored
  refine j_aload_n (pc' := 1) rfl rfl rfl ?_
  refine j_iload_n (pc' := 2) rfl rfl rfl ?_
  refine j_callRi (pc' := 5) (ai := 194) (vs := [.ref 0, .int l1]) (rest := []) rfl rfl (fun _ _ => rfl) (c_X11_whyNoBlows l1 σ) (j_dd rfl hd) rfl (fun v2 σ1 => ?_)
  refine j_istore_n (pc' := 6) (L' := [some (.ref 0), some (.int l1), some (.int v2)]) rfl rfl rfl ?_
  refine j_iload_n (pc' := 7) rfl rfl rfl ?_
  refine j_two (pT := 10) (pF := 16) (L1 := [some (.ref 0), some (.int l1), some (.int v2)]) (st1 := []) (fun o kT kF => ?_) (fun h5 => ?_) (fun h5 => ?_)
  · refine j_ifeq (t := 16) (pc' := 10) rfl rfl rfl (fun h6 => ?_) (fun h6 => ?_)
    · exact kF (fun z => z h6)
    · exact kT h6
  · refine j_iload_n (pc' := 11) rfl rfl rfl ?_
    refine j_sipush (pc' := 14) (x := (1000 : Int32)) rfl rfl rfl ?_
    refine j_imul (pc' := 15) rfl rfl ?_
    exact j_ret rfl rfl rfl (fun _ h => h)
  · refine j_aload_n (pc' := 17) rfl rfl rfl ?_
    refine j_gfr (pc' := 20) (x := 40) rfl rfl j_a0 rfl rfl ?_
    refine j_aload_n (pc' := 21) rfl rfl rfl ?_
    refine j_gfr (pc' := 24) (x := 22) rfl rfl j_a0 rfl rfl ?_
    refine j_aload_n (pc' := 25) rfl rfl rfl ?_
    refine j_gfr (pc' := 28) (x := 42) rfl rfl j_a0 rfl rfl ?_
    refine j_iload_n (pc' := 29) rfl rfl rfl ?_
    refine j_spl (k := (0 : Int32)) (fun h1 => ?_) (fun h1 => ?_)
    · subst h1
      refine j_aald (pc' := 30) (r := 67) rfl rfl j_a42 (by decide) rfl ?_
      refine j_iconst (pc' := 31) (x := (0 : Int32)) rfl rfl rfl ?_
      refine j_callRv (pc' := 34) (ai := 6) (vs := [.ref 40, .ref 22, .ref 67, .int (0 : Int32)]) (rest := []) rfl rfl (fun _ _ => rfl) (c_X1_judge_40_22_67 (0 : Int32) σ1) (j_dd rfl hd) rfl (fun σ3 => ?_)
      refine j_bipush (pc' := 36) (x := (10 : Int32)) rfl rfl rfl ?_
      refine j_aload_n (pc' := 37) rfl rfl rfl ?_
      refine j_gfr (pc' := 40) (x := 40) rfl rfl j_a0 rfl rfl ?_
      refine j_gfi (pc' := 43) rfl rfl j_a40 rfl ?_
      refine j_imul (pc' := 44) rfl rfl ?_
      refine j_bipush (pc' := 46) (x := (20 : Int32)) rfl rfl rfl ?_
      refine j_aload_n (pc' := 47) rfl rfl rfl ?_
      refine j_gfr (pc' := 50) (x := 40) rfl rfl j_a0 rfl rfl ?_
      refine j_gfi (pc' := 53) rfl rfl j_a40 rfl ?_
      refine j_imul (pc' := 54) rfl rfl ?_
      refine j_isub (pc' := 55) rfl rfl ?_
      exact j_ret rfl rfl rfl (fun _ h => h)
    refine j_spl (k := (1 : Int32)) (fun h2 => ?_) (fun h2 => ?_)
    · subst h2
      refine j_aald (pc' := 30) (r := 69) rfl rfl j_a42 (by decide) rfl ?_
      refine j_iconst (pc' := 31) (x := (0 : Int32)) rfl rfl rfl ?_
      refine j_callRv (pc' := 34) (ai := 6) (vs := [.ref 40, .ref 22, .ref 69, .int (0 : Int32)]) (rest := []) rfl rfl (fun _ _ => rfl) (c_X1_judge_40_22_69 (0 : Int32) σ1) (j_dd rfl hd) rfl (fun σ4 => ?_)
      refine j_bipush (pc' := 36) (x := (10 : Int32)) rfl rfl rfl ?_
      refine j_aload_n (pc' := 37) rfl rfl rfl ?_
      refine j_gfr (pc' := 40) (x := 40) rfl rfl j_a0 rfl rfl ?_
      refine j_gfi (pc' := 43) rfl rfl j_a40 rfl ?_
      refine j_imul (pc' := 44) rfl rfl ?_
      refine j_bipush (pc' := 46) (x := (20 : Int32)) rfl rfl rfl ?_
      refine j_aload_n (pc' := 47) rfl rfl rfl ?_
      refine j_gfr (pc' := 50) (x := 40) rfl rfl j_a0 rfl rfl ?_
      refine j_gfi (pc' := 53) rfl rfl j_a40 rfl ?_
      refine j_imul (pc' := 54) rfl rfl ?_
      refine j_isub (pc' := 55) rfl rfl ?_
      exact j_ret rfl rfl rfl (fun _ h => h)
    refine j_spl (k := (2 : Int32)) (fun h3 => ?_) (fun h3 => ?_)
    · subst h3
      refine j_aald (pc' := 30) (r := 71) rfl rfl j_a42 (by decide) rfl ?_
      refine j_iconst (pc' := 31) (x := (0 : Int32)) rfl rfl rfl ?_
      refine j_callRv (pc' := 34) (ai := 6) (vs := [.ref 40, .ref 22, .ref 71, .int (0 : Int32)]) (rest := []) rfl rfl (fun _ _ => rfl) (c_X1_judge_40_22_71 (0 : Int32) σ1) (j_dd rfl hd) rfl (fun σ5 => ?_)
      refine j_bipush (pc' := 36) (x := (10 : Int32)) rfl rfl rfl ?_
      refine j_aload_n (pc' := 37) rfl rfl rfl ?_
      refine j_gfr (pc' := 40) (x := 40) rfl rfl j_a0 rfl rfl ?_
      refine j_gfi (pc' := 43) rfl rfl j_a40 rfl ?_
      refine j_imul (pc' := 44) rfl rfl ?_
      refine j_bipush (pc' := 46) (x := (20 : Int32)) rfl rfl rfl ?_
      refine j_aload_n (pc' := 47) rfl rfl rfl ?_
      refine j_gfr (pc' := 50) (x := 40) rfl rfl j_a0 rfl rfl ?_
      refine j_gfi (pc' := 53) rfl rfl j_a40 rfl ?_
      refine j_imul (pc' := 54) rfl rfl ?_
      refine j_isub (pc' := 55) rfl rfl ?_
      exact j_ret rfl rfl rfl (fun _ h => h)
    refine j_spl (k := (3 : Int32)) (fun h4 => ?_) (fun h4 => ?_)
    · subst h4
      refine j_aald (pc' := 30) (r := 73) rfl rfl j_a42 (by decide) rfl ?_
      refine j_iconst (pc' := 31) (x := (0 : Int32)) rfl rfl rfl ?_
      refine j_callRv (pc' := 34) (ai := 6) (vs := [.ref 40, .ref 22, .ref 73, .int (0 : Int32)]) (rest := []) rfl rfl (fun _ _ => rfl) (c_X1_judge_40_22_73 (0 : Int32) σ1) (j_dd rfl hd) rfl (fun σ6 => ?_)
      refine j_bipush (pc' := 36) (x := (10 : Int32)) rfl rfl rfl ?_
      refine j_aload_n (pc' := 37) rfl rfl rfl ?_
      refine j_gfr (pc' := 40) (x := 40) rfl rfl j_a0 rfl rfl ?_
      refine j_gfi (pc' := 43) rfl rfl j_a40 rfl ?_
      refine j_imul (pc' := 44) rfl rfl ?_
      refine j_bipush (pc' := 46) (x := (20 : Int32)) rfl rfl rfl ?_
      refine j_aload_n (pc' := 47) rfl rfl rfl ?_
      refine j_gfr (pc' := 50) (x := 40) rfl rfl j_a0 rfl rfl ?_
      refine j_gfi (pc' := 53) rfl rfl j_a40 rfl ?_
      refine j_imul (pc' := 54) rfl rfl ?_
      refine j_isub (pc' := 55) rfl rfl ?_
      exact j_ret rfl rfl rfl (fun _ h => h)
    exact j_none

noncomputable def f_X12_scored (l1 : Int32) (σ : j_G) : Option (Int32 × j_G) :=
  j_b1 (f_X12_asksBlows l1 σ) fun v1 =>
  if v1 < 0 then (some (((1000 : Int32) * v1), σ)) else (j_b1 (f_X12_layBlows l1 (0 : Int32) σ) fun σ2 =>
  some ((((10 : Int32) * (σ2.1 75 39)) - ((20 : Int32) * (σ2.1 75 40))), σ2))
theorem c_X12_scored (l1 : Int32) (σ : j_G) : j_K false 4 327 [.ref 75, .int l1] σ (f_X12_scored l1 σ) j_Ri := by
  refine j_mkK (M := M_cX12_scored) (L := [some (.ref 75), some (.int l1), none]) (m := 1) t_327 rfl (j_rcvO j_a75 rfl) rfl (fun d hd τ => ?_)
  unfold f_X12_scored
  refine j_aload_n (pc' := 1) rfl rfl rfl ?_
  refine j_iload_n (pc' := 2) rfl rfl rfl ?_
  refine j_callPi (pc' := 5) (ai := 323) (vs := [.ref 75, .int l1]) (rest := []) rfl rfl (fun _ _ => rfl) (c_X12_asksBlows l1 σ) (j_dd rfl hd) rfl (fun v1 => ?_)
  refine j_istore_n (pc' := 6) (L' := [some (.ref 75), some (.int l1), some (.int v1)]) rfl rfl rfl ?_
  refine j_iload_n (pc' := 7) rfl rfl rfl ?_
  refine j_two (pT := 10) (pF := 16) (L1 := [some (.ref 75), some (.int l1), some (.int v1)]) (st1 := []) (fun o kT kF => ?_) (fun h1 => ?_) (fun h1 => ?_)
  · refine j_ifge (t := 16) (pc' := 10) rfl rfl rfl (fun h2 => ?_) (fun h2 => ?_)
    · exact kF h2
    · exact kT h2
  · refine j_sipush (pc' := 13) (x := (1000 : Int32)) rfl rfl rfl ?_
    refine j_iload_n (pc' := 14) rfl rfl rfl ?_
    refine j_imul (pc' := 15) rfl rfl ?_
    exact j_ret rfl rfl rfl (fun _ h => h)
  · refine j_aload_n (pc' := 17) rfl rfl rfl ?_
    refine j_iload_n (pc' := 18) rfl rfl rfl ?_
    refine j_iconst (pc' := 19) (x := (0 : Int32)) rfl rfl rfl ?_
    refine j_callRv (pc' := 22) (ai := 325) (vs := [.ref 75, .int l1, .int (0 : Int32)]) (rest := []) rfl rfl (fun _ _ => rfl) (c_X12_layBlows l1 (0 : Int32) σ) (j_dd rfl hd) rfl (fun σ2 => ?_)
    refine j_bipush (pc' := 24) (x := (10 : Int32)) rfl rfl rfl ?_
    refine j_aload_n (pc' := 25) rfl rfl rfl ?_
    refine j_gfi (pc' := 28) rfl rfl j_a75 rfl ?_
    refine j_imul (pc' := 29) rfl rfl ?_
    refine j_bipush (pc' := 31) (x := (20 : Int32)) rfl rfl rfl ?_
    refine j_aload_n (pc' := 32) rfl rfl rfl ?_
    refine j_gfi (pc' := 35) rfl rfl j_a75 rfl ?_
    refine j_imul (pc' := 36) rfl rfl ?_
    refine j_isub (pc' := 37) rfl rfl ?_
    exact j_ret rfl rfl rfl (fun _ h => h)

noncomputable def f_X11_early (l1 : Int32) (l2 : Int32) (σ : j_G) : Option (Int32 × j_G) :=
  if (l2 < 0) ∨ ((20 : Int32) < l2) then (some ((-2 : Int32), σ)) else (j_b2 (f_X11_whyNoBlows l1 σ) fun v2 σ1 =>
  if ¬ v2 = 0 then (some (v2, σ1)) else (if l1 = 0 then (j_b1 (f_X1_judge 40 22 41 67 68 l2 σ1) fun σ3 =>
  some ((σ3.1 40 2), σ3)) else
  if l1 = 1 then (j_b1 (f_X1_judge 40 22 41 69 70 l2 σ1) fun σ4 =>
  some ((σ4.1 40 2), σ4)) else
  if l1 = 2 then (j_b1 (f_X1_judge 40 22 41 71 72 l2 σ1) fun σ5 =>
  some ((σ5.1 40 2), σ5)) else
  if l1 = 3 then (j_b1 (f_X1_judge 40 22 41 73 74 l2 σ1) fun σ6 =>
  some ((σ6.1 40 2), σ6)) else
  none))
theorem c_X11_early (l1 : Int32) (l2 : Int32) (σ : j_G) : j_K true 4 164 [.ref 0, .int l1, .int l2] σ (f_X11_early l1 l2 σ) j_Ri := by
  refine j_mkK (M := M_cX11_early) (L := [some (.ref 0), some (.int l1), some (.int l2), none]) (m := 1) t_164 rfl (j_rcvO j_a0 rfl) rfl (fun d hd τ => ?_)
  unfold f_X11_early
  refine j_iload_n (pc' := 1) rfl rfl rfl ?_
  refine j_two (pT := 10) (pF := 13) (L1 := [some (.ref 0), some (.int l1), some (.int l2), none]) (st1 := []) (fun o kT kF => ?_) (fun h7 => ?_) (fun h7 => ?_)
  · refine j_iflt (t := 10) (pc' := 4) rfl rfl rfl (fun h8 => ?_) (fun h8 => ?_)
    · exact kT (Or.inl h8)
    · refine j_iload_n (pc' := 5) rfl rfl rfl ?_
      refine j_bipush (pc' := 7) (x := (20 : Int32)) rfl rfl rfl ?_
      refine j_icle (t := 13) (pc' := 10) rfl rfl rfl (fun h9 => ?_) (fun h9 => ?_)
      · exact kF (fun z => z.elim h8 (h9))
      · exact kT (Or.inr (h9))
  · refine j_bipush (pc' := 12) (x := (-2 : Int32)) rfl rfl rfl ?_
    exact j_ret rfl rfl rfl (fun _ h => h)
  · refine j_aload_n (pc' := 14) rfl rfl rfl ?_
    refine j_iload_n (pc' := 15) rfl rfl rfl ?_
    refine j_callRi (pc' := 18) (ai := 194) (vs := [.ref 0, .int l1]) (rest := []) rfl rfl (fun _ _ => rfl) (c_X11_whyNoBlows l1 σ) (j_dd rfl hd) rfl (fun v2 σ1 => ?_)
    refine j_istore_n (pc' := 19) (L' := [some (.ref 0), some (.int l1), some (.int l2), some (.int v2)]) rfl rfl rfl ?_
    refine j_iload_n (pc' := 20) rfl rfl rfl ?_
    refine j_two (pT := 23) (pF := 25) (L1 := [some (.ref 0), some (.int l1), some (.int l2), some (.int v2)]) (st1 := []) (fun o kT kF => ?_) (fun h5 => ?_) (fun h5 => ?_)
    · refine j_ifeq (t := 25) (pc' := 23) rfl rfl rfl (fun h6 => ?_) (fun h6 => ?_)
      · exact kF (fun z => z h6)
      · exact kT h6
    · refine j_iload_n (pc' := 24) rfl rfl rfl ?_
      exact j_ret rfl rfl rfl (fun _ h => h)
    · refine j_aload_n (pc' := 26) rfl rfl rfl ?_
      refine j_gfr (pc' := 29) (x := 40) rfl rfl j_a0 rfl rfl ?_
      refine j_aload_n (pc' := 30) rfl rfl rfl ?_
      refine j_gfr (pc' := 33) (x := 22) rfl rfl j_a0 rfl rfl ?_
      refine j_aload_n (pc' := 34) rfl rfl rfl ?_
      refine j_gfr (pc' := 37) (x := 42) rfl rfl j_a0 rfl rfl ?_
      refine j_iload_n (pc' := 38) rfl rfl rfl ?_
      refine j_spl (k := (0 : Int32)) (fun h1 => ?_) (fun h1 => ?_)
      · subst h1
        refine j_aald (pc' := 39) (r := 67) rfl rfl j_a42 (by decide) rfl ?_
        refine j_iload_n (pc' := 40) rfl rfl rfl ?_
        refine j_callRv (pc' := 43) (ai := 6) (vs := [.ref 40, .ref 22, .ref 67, .int l2]) (rest := []) rfl rfl (fun _ _ => rfl) (c_X1_judge_40_22_67 l2 σ1) (j_dd rfl hd) rfl (fun σ3 => ?_)
        refine j_aload_n (pc' := 44) rfl rfl rfl ?_
        refine j_gfr (pc' := 47) (x := 40) rfl rfl j_a0 rfl rfl ?_
        refine j_gfi (pc' := 50) rfl rfl j_a40 rfl ?_
        exact j_ret rfl rfl rfl (fun _ h => h)
      refine j_spl (k := (1 : Int32)) (fun h2 => ?_) (fun h2 => ?_)
      · subst h2
        refine j_aald (pc' := 39) (r := 69) rfl rfl j_a42 (by decide) rfl ?_
        refine j_iload_n (pc' := 40) rfl rfl rfl ?_
        refine j_callRv (pc' := 43) (ai := 6) (vs := [.ref 40, .ref 22, .ref 69, .int l2]) (rest := []) rfl rfl (fun _ _ => rfl) (c_X1_judge_40_22_69 l2 σ1) (j_dd rfl hd) rfl (fun σ4 => ?_)
        refine j_aload_n (pc' := 44) rfl rfl rfl ?_
        refine j_gfr (pc' := 47) (x := 40) rfl rfl j_a0 rfl rfl ?_
        refine j_gfi (pc' := 50) rfl rfl j_a40 rfl ?_
        exact j_ret rfl rfl rfl (fun _ h => h)
      refine j_spl (k := (2 : Int32)) (fun h3 => ?_) (fun h3 => ?_)
      · subst h3
        refine j_aald (pc' := 39) (r := 71) rfl rfl j_a42 (by decide) rfl ?_
        refine j_iload_n (pc' := 40) rfl rfl rfl ?_
        refine j_callRv (pc' := 43) (ai := 6) (vs := [.ref 40, .ref 22, .ref 71, .int l2]) (rest := []) rfl rfl (fun _ _ => rfl) (c_X1_judge_40_22_71 l2 σ1) (j_dd rfl hd) rfl (fun σ5 => ?_)
        refine j_aload_n (pc' := 44) rfl rfl rfl ?_
        refine j_gfr (pc' := 47) (x := 40) rfl rfl j_a0 rfl rfl ?_
        refine j_gfi (pc' := 50) rfl rfl j_a40 rfl ?_
        exact j_ret rfl rfl rfl (fun _ h => h)
      refine j_spl (k := (3 : Int32)) (fun h4 => ?_) (fun h4 => ?_)
      · subst h4
        refine j_aald (pc' := 39) (r := 73) rfl rfl j_a42 (by decide) rfl ?_
        refine j_iload_n (pc' := 40) rfl rfl rfl ?_
        refine j_callRv (pc' := 43) (ai := 6) (vs := [.ref 40, .ref 22, .ref 73, .int l2]) (rest := []) rfl rfl (fun _ _ => rfl) (c_X1_judge_40_22_73 l2 σ1) (j_dd rfl hd) rfl (fun σ6 => ?_)
        refine j_aload_n (pc' := 44) rfl rfl rfl ?_
        refine j_gfr (pc' := 47) (x := 40) rfl rfl j_a0 rfl rfl ?_
        refine j_gfi (pc' := 50) rfl rfl j_a40 rfl ?_
        exact j_ret rfl rfl rfl (fun _ h => h)
      exact j_none

noncomputable def f_X12_early (l1 : Int32) (l2 : Int32) (σ : j_G) : Option (Int32 × j_G) :=
  if (f_X12_in (l2).toInt64 (0 : Int64) (20 : Int64)) = 0 then (some ((-2 : Int32), σ)) else (j_b1 (f_X12_asksBlows l1 σ) fun v1 =>
  if v1 < 0 then (some (v1, σ)) else (j_b1 (f_X12_layBlows l1 l2 σ) fun σ2 =>
  some ((σ2.1 75 41), σ2)))
theorem c_X12_early (l1 : Int32) (l2 : Int32) (σ : j_G) : j_K false 4 328 [.ref 75, .int l1, .int l2] σ (f_X12_early l1 l2 σ) j_Ri := by
  refine j_mkK (M := M_cX12_early) (L := [some (.ref 75), some (.int l1), some (.int l2), none]) (m := 1) t_328 rfl (j_rcvO j_a75 rfl) rfl (fun d hd τ => ?_)
  unfold f_X12_early
  refine j_iload_n (pc' := 1) rfl rfl rfl ?_
  refine j_i2l (pc' := 2) rfl rfl ?_
  refine j_lconst (pc' := 3) (x := (0 : Int64)) rfl rfl rfl ?_
  refine j_ldc2_w (pc' := 6) (x := (20 : Int64)) rfl rfl rfl ?_
  refine j_callTi (pc' := 9) (ai := 196) (vs := [.long (l2).toInt64, .long (0 : Int64), .long (20 : Int64)]) (rest := []) rfl rfl (fun _ _ => rfl) (c_X12_in (l2).toInt64 (0 : Int64) (20 : Int64) σ) (j_dd rfl hd) rfl ?_
  refine j_two (pT := 12) (pF := 15) (L1 := [some (.ref 75), some (.int l1), some (.int l2), none]) (st1 := []) (fun o kT kF => ?_) (fun h3 => ?_) (fun h3 => ?_)
  · refine j_ifne (t := 15) (pc' := 12) rfl rfl rfl (fun h4 => ?_) (fun h4 => ?_)
    · exact kF h4
    · exact kT h4
  · refine j_bipush (pc' := 14) (x := (-2 : Int32)) rfl rfl rfl ?_
    exact j_ret rfl rfl rfl (fun _ h => h)
  · refine j_aload_n (pc' := 16) rfl rfl rfl ?_
    refine j_iload_n (pc' := 17) rfl rfl rfl ?_
    refine j_callPi (pc' := 20) (ai := 323) (vs := [.ref 75, .int l1]) (rest := []) rfl rfl (fun _ _ => rfl) (c_X12_asksBlows l1 σ) (j_dd rfl hd) rfl (fun v1 => ?_)
    refine j_istore_n (pc' := 21) (L' := [some (.ref 75), some (.int l1), some (.int l2), some (.int v1)]) rfl rfl rfl ?_
    refine j_iload_n (pc' := 22) rfl rfl rfl ?_
    refine j_two (pT := 25) (pF := 27) (L1 := [some (.ref 75), some (.int l1), some (.int l2), some (.int v1)]) (st1 := []) (fun o kT kF => ?_) (fun h1 => ?_) (fun h1 => ?_)
    · refine j_ifge (t := 27) (pc' := 25) rfl rfl rfl (fun h2 => ?_) (fun h2 => ?_)
      · exact kF h2
      · exact kT h2
    · refine j_iload_n (pc' := 26) rfl rfl rfl ?_
      exact j_ret rfl rfl rfl (fun _ h => h)
    · refine j_aload_n (pc' := 28) rfl rfl rfl ?_
      refine j_iload_n (pc' := 29) rfl rfl rfl ?_
      refine j_iload_n (pc' := 30) rfl rfl rfl ?_
      refine j_callRv (pc' := 33) (ai := 325) (vs := [.ref 75, .int l1, .int l2]) (rest := []) rfl rfl (fun _ _ => rfl) (c_X12_layBlows l1 l2 σ) (j_dd rfl hd) rfl (fun σ2 => ?_)
      refine j_aload_n (pc' := 34) rfl rfl rfl ?_
      refine j_gfi (pc' := 37) rfl rfl j_a75 rfl ?_
      exact j_ret rfl rfl rfl (fun _ h => h)

theorem l_X3_oftenAt_4_5 {d : Nat} (hd : 0 ≤ d) (τ : j_G) (l1 : Int32) (σ : j_G) : ∀ (n : Nat) (l2 : Int32) (l3 : Int32), j_J true τ M_cX3_oftenAt d 4 [some (.ref 5), some (.int l1), some (.int l2), some (.int l3)] [] σ (p_X3_oftenAt_4 5 6 7 l1 σ n l2 l3) (fun r Q => j_Tr true τ M_cX3_oftenAt d 41 [none, none, some (.int r), none] [] σ Q) := by
  intro n
  induction n with
  | zero => intro l2 l3; exact j_none
  | succ n ih =>
    intro l2 l3
    unfold p_X3_oftenAt_4
    refine j_iload_n (pc' := 5) rfl rfl rfl ?_
    refine j_aload_n (pc' := 6) rfl rfl rfl ?_
    refine j_gfi (pc' := 9) rfl rfl j_a5 rfl ?_
    refine j_two (pT := 12) (pF := 41) (L1 := [some (.ref 5), some (.int l1), some (.int l2), some (.int l3)]) (st1 := []) (fun o kT kF => ?_) (fun h5 => ?_) (fun h5 => ?_)
    · refine j_icge (t := 41) (pc' := 12) rfl rfl rfl (fun h6 => ?_) (fun h6 => ?_)
      · exact kF h6
      · exact kT h6
    · refine j_aload_n (pc' := 13) rfl rfl rfl ?_
      refine j_gfr (pc' := 16) (x := 6) rfl rfl j_a5 rfl rfl ?_
      refine j_iload_n (pc' := 17) rfl rfl rfl ?_
      refine j_iald (pc' := 18) rfl rfl j_a6 ?_
      refine j_iload_n (pc' := 19) rfl rfl rfl ?_
      refine j_q1 (Φl := (fun r Q => j_Tr true τ M_cX3_oftenAt d 35 [some (.ref 5), some (.int l1), some (.int r), some (.int l3)] [] σ Q)) ?_ (fun v1 => ?_)
      · refine j_two (pT := 22) (pF := 32) (L1 := [some (.ref 5), some (.int l1), some (.int l2), some (.int l3)]) (st1 := []) (fun o kT kF => ?_) (fun h3 => ?_) (fun h3 => ?_)
        · refine j_iceq (t := 32) (pc' := 22) rfl rfl rfl (fun h4 => ?_) (fun h4 => ?_)
          · exact kF (fun z => z h4)
          · exact kT h4
        · refine j_aload_n (pc' := 23) rfl rfl rfl ?_
          refine j_gfr (pc' := 26) (x := 7) rfl rfl j_a5 rfl rfl ?_
          refine j_iload_n (pc' := 27) rfl rfl rfl ?_
          refine j_iald (pc' := 28) rfl rfl j_a7 ?_
          refine j_iload_n (pc' := 29) rfl rfl rfl ?_
          refine j_two (pT := 32) (pF := 35) (L1 := [some (.ref 5), some (.int l1), some (.int l2), some (.int l3)]) (st1 := []) (fun o kT kF => ?_) (fun h1 => ?_) (fun h1 => ?_)
          · refine j_icne (t := 35) (pc' := 32) rfl rfl rfl (fun h2 => ?_) (fun h2 => ?_)
            · exact kF h2
            · exact kT h2
          · refine j_iincx (pc' := 35) (y := (1 : Int32)) (L' := [some (.ref 5), some (.int l1), some (.int (l2 + (1 : Int32))), some (.int l3)]) rfl rfl rfl rfl rfl ?_
            exact j_end (fun _ h => h)
          · exact j_end (fun _ h => h)
        · refine j_iincx (pc' := 35) (y := (1 : Int32)) (L' := [some (.ref 5), some (.int l1), some (.int (l2 + (1 : Int32))), some (.int l3)]) rfl rfl rfl rfl rfl ?_
          exact j_end (fun _ h => h)
      show j_J true τ M_cX3_oftenAt d 35 [some (.ref 5), some (.int l1), some (.int v1), some (.int l3)] [] σ _ _
      refine j_iincx (pc' := 38) (y := (1 : Int32)) (L' := [some (.ref 5), some (.int l1), some (.int v1), some (.int (l3 + (1 : Int32)))]) rfl rfl rfl rfl rfl ?_
      refine j_goto (t := 4) rfl rfl ?_
      exact ih v1 (l3 + (1 : Int32))
    · refine j_wk [false, false, true, false] (L' := [none, none, some (.int l2), none]) rfl ?_
      exact j_end (fun _ h => h)

theorem c_X3_oftenAt_5 (l1 : Int32) (σ : j_G) : j_K true 0 36 [.ref 5, .int l1] σ (f_X3_oftenAt 5 6 7 l1 σ) (j_Pi σ) := by
  refine j_mkK (M := M_cX3_oftenAt) (L := [some (.ref 5), some (.int l1), none, none]) (m := 2) t_36 rfl (j_rcvO j_a5 rfl) rfl (fun d hd τ => ?_)
  unfold f_X3_oftenAt
  refine j_iconst (pc' := 1) (x := (0 : Int32)) rfl rfl rfl ?_
  refine j_istore_n (pc' := 2) (L' := [some (.ref 5), some (.int l1), some (.int (0 : Int32)), none]) rfl rfl rfl ?_
  refine j_iconst (pc' := 3) (x := (0 : Int32)) rfl rfl rfl ?_
  refine j_istore_n (pc' := 4) (L' := [some (.ref 5), some (.int l1), some (.int (0 : Int32)), some (.int (0 : Int32))]) rfl rfl rfl ?_
  refine j_q1 (l_X3_oftenAt_4_5 hd τ l1 σ j_F (0 : Int32) (0 : Int32)) (fun v1 => ?_)
  show j_J true τ M_cX3_oftenAt d 41 [none, none, some (.int v1), none] [] σ _ _
  refine j_iload_n (pc' := 42) rfl rfl rfl ?_
  exact j_ret rfl rfl rfl (fun _ h => h)

noncomputable def f_X11_often (l1 : Int32) (σ : j_G) : Option Int32 :=
  if ¬ (f_X2_isHole 1 l1 σ) = 0 then (j_b1 (f_X3_oftenAt 5 6 7 l1 σ) fun v1 =>
  some v1) else (some (-2 : Int32))
theorem c_X11_often (l1 : Int32) (σ : j_G) : j_K true 2 165 [.ref 0, .int l1] σ (f_X11_often l1 σ) (j_Pi σ) := by
  refine j_mkK (M := M_cX11_often) (L := [some (.ref 0), some (.int l1)]) (m := 0) t_165 rfl (j_rcvO j_a0 rfl) rfl (fun d hd τ => ?_)
  unfold f_X11_often
  refine j_aload_n (pc' := 1) rfl rfl rfl ?_
  refine j_gfr (pc' := 4) (x := 1) rfl rfl j_a0 rfl rfl ?_
  refine j_iload_n (pc' := 5) rfl rfl rfl ?_
  refine j_callTi (pc' := 8) (ai := 13) (vs := [.ref 1, .int l1]) (rest := []) rfl rfl (fun _ _ => rfl) (c_X2_isHole_1 l1 σ) (j_dd rfl hd) rfl ?_
  refine j_two (pT := 11) (pF := 25) (L1 := [some (.ref 0), some (.int l1)]) (st1 := []) (fun o kT kF => ?_) (fun h1 => ?_) (fun h1 => ?_)
  · refine j_ifeq (t := 25) (pc' := 11) rfl rfl rfl (fun h2 => ?_) (fun h2 => ?_)
    · exact kF (fun z => z h2)
    · exact kT h2
  · refine j_aload_n (pc' := 12) rfl rfl rfl ?_
    refine j_gfr (pc' := 15) (x := 1) rfl rfl j_a0 rfl rfl ?_
    refine j_gfr (pc' := 18) (x := 5) rfl rfl j_a1 rfl rfl ?_
    refine j_iload_n (pc' := 19) rfl rfl rfl ?_
    refine j_callPi (pc' := 22) (ai := 36) (vs := [.ref 5, .int l1]) (rest := []) rfl rfl (fun _ _ => rfl) (c_X3_oftenAt_5 l1 σ) (j_dd rfl hd) rfl (fun v1 => ?_)
    refine j_goto (t := 27) rfl rfl ?_
    exact j_ret rfl rfl rfl (fun _ h => h)
  · refine j_bipush (pc' := 27) (x := (-2 : Int32)) rfl rfl rfl ?_
    exact j_ret rfl rfl rfl (fun _ h => h)

noncomputable def p_X12_oftenOf_4 (l1 : Int32) (σ : j_G) : Nat → Int32 → Int32 → Option Int32
  | 0, _, _ => none
  | n + 1, l2, l3 =>
    j_ix (5 : Int32) 116 (
    if l3 < (σ.1 76 ((5 : Int32)).toNatClampNeg) then (j_b1 (f_X12_ofComing l3 (0 : Int32) σ) fun v1 =>
    j_b1 (if ¬ v1 = l1 then (j_b1 (f_X12_ofComing l3 (1 : Int32) σ) fun v3 =>
    if v3 = l1 then (some (1 : Int32)) else (some (0 : Int32))) else (some (1 : Int32))) fun v2 =>
    j_lt (l2 + v2) fun v4 =>
    p_X12_oftenOf_4 l1 σ n v4 (l3 + (1 : Int32))) else (some l2))

noncomputable def f_X12_oftenOf (l1 : Int32) (σ : j_G) : Option Int32 :=
  j_b1 (p_X12_oftenOf_4 l1 σ j_F (0 : Int32) (0 : Int32)) fun v1 =>
  some v1
theorem l_X12_oftenOf_4 {d : Nat} (hd : 1 ≤ d) (τ : j_G) (l1 : Int32) (σ : j_G) : ∀ (n : Nat) (l2 : Int32) (l3 : Int32), j_J false τ M_cX12_oftenOf d 4 [some (.ref 75), some (.int l1), some (.int l2), some (.int l3)] [] σ (p_X12_oftenOf_4 l1 σ n l2 l3) (fun r Q => j_Tr false τ M_cX12_oftenOf d 48 [none, none, some (.int r), none] [] σ Q) := by
  intro n
  induction n with
  | zero => intro l2 l3; exact j_none
  | succ n ih =>
    intro l2 l3
    unfold p_X12_oftenOf_4
    refine j_iload_n (pc' := 5) rfl rfl rfl ?_
    refine j_aload_n (pc' := 6) rfl rfl rfl ?_
    refine j_gfr (pc' := 9) (x := 76) rfl rfl j_a75 rfl rfl ?_
    refine j_iconst (pc' := 10) (x := (5 : Int32)) rfl rfl rfl ?_
    refine j_iald (pc' := 11) rfl rfl j_a76 ?_
    refine j_two (pT := 14) (pF := 48) (L1 := [some (.ref 75), some (.int l1), some (.int l2), some (.int l3)]) (st1 := []) (fun o kT kF => ?_) (fun h5 => ?_) (fun h5 => ?_)
    · refine j_icge (t := 48) (pc' := 14) rfl rfl rfl (fun h6 => ?_) (fun h6 => ?_)
      · exact kF h6
      · exact kT h6
    · refine j_iload_n (pc' := 15) rfl rfl rfl ?_
      refine j_aload_n (pc' := 16) rfl rfl rfl ?_
      refine j_iload_n (pc' := 17) rfl rfl rfl ?_
      refine j_iconst (pc' := 18) (x := (0 : Int32)) rfl rfl rfl ?_
      refine j_callPi (pc' := 21) (ai := 206) (vs := [.ref 75, .int l3, .int (0 : Int32)]) (rest := [.int l2]) rfl rfl (fun _ _ => rfl) (c_X12_ofComing l3 (0 : Int32) σ) (j_dd rfl hd) rfl (fun v1 => ?_)
      refine j_iload_n (pc' := 22) rfl rfl rfl ?_
      refine j_q1 (Φl := (fun r Q => j_Tr false τ M_cX12_oftenOf d 40 [some (.ref 75), some (.int l1), none, some (.int l3)] [.int r, .int l2] σ Q)) ?_ (fun v2 => ?_)
      · refine j_two (pT := 25) (pF := 35) (L1 := [some (.ref 75), some (.int l1), some (.int l2), some (.int l3)]) (st1 := [.int l2]) (fun o kT kF => ?_) (fun h3 => ?_) (fun h3 => ?_)
        · refine j_iceq (t := 35) (pc' := 25) rfl rfl rfl (fun h4 => ?_) (fun h4 => ?_)
          · exact kF (fun z => z h4)
          · exact kT h4
        · refine j_aload_n (pc' := 26) rfl rfl rfl ?_
          refine j_iload_n (pc' := 27) rfl rfl rfl ?_
          refine j_iconst (pc' := 28) (x := (1 : Int32)) rfl rfl rfl ?_
          refine j_callPi (pc' := 31) (ai := 206) (vs := [.ref 75, .int l3, .int (1 : Int32)]) (rest := [.int l2]) rfl rfl (fun _ _ => rfl) (c_X12_ofComing l3 (1 : Int32) σ) (j_dd rfl hd) rfl (fun v3 => ?_)
          refine j_iload_n (pc' := 32) rfl rfl rfl ?_
          refine j_two (pT := 35) (pF := 39) (L1 := [some (.ref 75), some (.int l1), some (.int l2), some (.int l3)]) (st1 := [.int l2]) (fun o kT kF => ?_) (fun h1 => ?_) (fun h1 => ?_)
          · refine j_icne (t := 39) (pc' := 35) rfl rfl rfl (fun h2 => ?_) (fun h2 => ?_)
            · exact kF h2
            · exact kT h2
          · refine j_iconst (pc' := 36) (x := (1 : Int32)) rfl rfl rfl ?_
            refine j_goto (t := 40) rfl rfl ?_
            refine j_wk [true, true, false, true] (L' := [some (.ref 75), some (.int l1), none, some (.int l3)]) rfl ?_
            exact j_end (fun _ h => h)
          · refine j_iconst (pc' := 40) (x := (0 : Int32)) rfl rfl rfl ?_
            refine j_wk [true, true, false, true] (L' := [some (.ref 75), some (.int l1), none, some (.int l3)]) rfl ?_
            exact j_end (fun _ h => h)
        · refine j_iconst (pc' := 36) (x := (1 : Int32)) rfl rfl rfl ?_
          refine j_goto (t := 40) rfl rfl ?_
          refine j_wk [true, true, false, true] (L' := [some (.ref 75), some (.int l1), none, some (.int l3)]) rfl ?_
          exact j_end (fun _ h => h)
      show j_J false τ M_cX12_oftenOf d 40 [some (.ref 75), some (.int l1), none, some (.int l3)] [.int v2, .int l2] σ _ _
      refine j_iadd (pc' := 41) rfl rfl ?_
      refine j_leti (fun v4 => ?_)
      refine j_istore_n (pc' := 42) (L' := [some (.ref 75), some (.int l1), some (.int v4), some (.int l3)]) rfl rfl rfl ?_
      refine j_iincx (pc' := 45) (y := (1 : Int32)) (L' := [some (.ref 75), some (.int l1), some (.int v4), some (.int (l3 + (1 : Int32)))]) rfl rfl rfl rfl rfl ?_
      refine j_goto (t := 4) rfl rfl ?_
      exact ih v4 (l3 + (1 : Int32))
    · refine j_wk [false, false, true, false] (L' := [none, none, some (.int l2), none]) rfl ?_
      exact j_end (fun _ h => h)

theorem c_X12_oftenOf (l1 : Int32) (σ : j_G) : j_K false 1 329 [.ref 75, .int l1] σ (f_X12_oftenOf l1 σ) (j_Pi σ) := by
  refine j_mkK (M := M_cX12_oftenOf) (L := [some (.ref 75), some (.int l1), none, none]) (m := 2) t_329 rfl (j_rcvO j_a75 rfl) rfl (fun d hd τ => ?_)
  unfold f_X12_oftenOf
  refine j_iconst (pc' := 1) (x := (0 : Int32)) rfl rfl rfl ?_
  refine j_istore_n (pc' := 2) (L' := [some (.ref 75), some (.int l1), some (.int (0 : Int32)), none]) rfl rfl rfl ?_
  refine j_iconst (pc' := 3) (x := (0 : Int32)) rfl rfl rfl ?_
  refine j_istore_n (pc' := 4) (L' := [some (.ref 75), some (.int l1), some (.int (0 : Int32)), some (.int (0 : Int32))]) rfl rfl rfl ?_
  refine j_q1 (l_X12_oftenOf_4 hd τ l1 σ j_F (0 : Int32) (0 : Int32)) (fun v1 => ?_)
  show j_J false τ M_cX12_oftenOf d 48 [none, none, some (.int v1), none] [] σ _ _
  refine j_iload_n (pc' := 49) rfl rfl rfl ?_
  exact j_ret rfl rfl rfl (fun _ h => h)

noncomputable def f_X12_often (l1 : Int32) (σ : j_G) : Option Int32 :=
  j_b1 (f_X12_isHole (l1).toInt64 σ) fun v1 =>
  if ¬ v1 = 0 then (j_b1 (f_X12_oftenOf l1 σ) fun v2 =>
  some v2) else (some (-2 : Int32))
theorem c_X12_often (l1 : Int32) (σ : j_G) : j_K false 2 330 [.ref 75, .int l1] σ (f_X12_often l1 σ) (j_Pi σ) := by
  refine j_mkK (M := M_cX12_often) (L := [some (.ref 75), some (.int l1)]) (m := 0) t_330 rfl (j_rcvO j_a75 rfl) rfl (fun d hd τ => ?_)
  unfold f_X12_often
  refine j_aload_n (pc' := 1) rfl rfl rfl ?_
  refine j_iload_n (pc' := 2) rfl rfl rfl ?_
  refine j_i2l (pc' := 3) rfl rfl ?_
  refine j_callPi (pc' := 6) (ai := 201) (vs := [.ref 75, .long (l1).toInt64]) (rest := []) rfl rfl (fun _ _ => rfl) (c_X12_isHole (l1).toInt64 σ) (j_dd rfl hd) rfl (fun v1 => ?_)
  refine j_two (pT := 9) (pF := 17) (L1 := [some (.ref 75), some (.int l1)]) (st1 := []) (fun o kT kF => ?_) (fun h1 => ?_) (fun h1 => ?_)
  · refine j_ifeq (t := 17) (pc' := 9) rfl rfl rfl (fun h2 => ?_) (fun h2 => ?_)
    · exact kF (fun z => z h2)
    · exact kT h2
  · refine j_aload_n (pc' := 10) rfl rfl rfl ?_
    refine j_iload_n (pc' := 11) rfl rfl rfl ?_
    refine j_callPi (pc' := 14) (ai := 329) (vs := [.ref 75, .int l1]) (rest := []) rfl rfl (fun _ _ => rfl) (c_X12_oftenOf l1 σ) (j_dd rfl hd) rfl (fun v2 => ?_)
    refine j_goto (t := 19) rfl rfl ?_
    exact j_ret rfl rfl rfl (fun _ h => h)
  · refine j_bipush (pc' := 19) (x := (-2 : Int32)) rfl rfl rfl ?_
    exact j_ret rfl rfl rfl (fun _ h => h)

noncomputable def p_X11_balance_19 (σ : j_G) : Nat → Int32 → Int32 → Int32 → Option (Int32 × Int32)
  | 0, _, _, _ => none
  | n + 1, l1, l2, l3 =>
    if l3 < (f_X2_holes 1 σ) then (j_b2 (if (f_X2_isShut 1 l3 σ) = 0 then (j_b1 (f_X3_oftenAt 5 6 7 l3 σ) fun v3 =>
    j_lt (if l1 < v3 then v3 else l1) fun v4 =>
    j_lt (if l2 = (-1 : Int32) then (v3) else ((if v3 < l2 then v3 else l2))) fun v5 =>
    some (v4, v5)) else (some (l1, l2))) fun v1 v2 =>
    p_X11_balance_19 σ n v1 v2 (l3 + (1 : Int32))) else (some (l1, l2))

noncomputable def f_X11_balance (σ : j_G) : Option Int32 :=
  if (f_X2_isTold σ) = 0 then (some (-2 : Int32)) else (j_b2 (p_X11_balance_19 σ j_F (-1 : Int32) (-1 : Int32) (0 : Int32)) fun v1 v2 =>
  if v1 = (-1 : Int32) then (some (-1 : Int32)) else (some (v1 - v2)))
theorem l_X11_balance_19 {d : Nat} (hd : 1 ≤ d) (τ : j_G) (σ : j_G) : ∀ (n : Nat) (l1 : Int32) (l2 : Int32) (l3 : Int32), j_J true τ M_cX11_balance d 19 [some (.ref 0), some (.int l1), some (.int l2), some (.int l3), none] [] σ (p_X11_balance_19 σ n l1 l2 l3) (fun r Q => j_Tr true τ M_cX11_balance d 84 [none, some (.int r.1), some (.int r.2), none, none] [] σ Q) := by
  intro n
  induction n with
  | zero => intro l1 l2 l3; exact j_none
  | succ n ih =>
    intro l1 l2 l3
    unfold p_X11_balance_19
    refine j_iload_n (pc' := 20) rfl rfl rfl ?_
    refine j_aload_n (pc' := 21) rfl rfl rfl ?_
    refine j_gfr (pc' := 24) (x := 1) rfl rfl j_a0 rfl rfl ?_
    refine j_callTi (pc' := 27) (ai := 12) (vs := [.ref 1]) (rest := [.int l3]) rfl rfl (fun _ _ => rfl) (c_X2_holes_1  σ) (j_dd rfl hd) rfl ?_
    refine j_two (pT := 30) (pF := 84) (L1 := [some (.ref 0), some (.int l1), some (.int l2), some (.int l3), none]) (st1 := []) (fun o kT kF => ?_) (fun h5 => ?_) (fun h5 => ?_)
    · refine j_icge (t := 84) (pc' := 30) rfl rfl rfl (fun h6 => ?_) (fun h6 => ?_)
      · exact kF h6
      · exact kT h6
    · refine j_aload_n (pc' := 31) rfl rfl rfl ?_
      refine j_gfr (pc' := 34) (x := 1) rfl rfl j_a0 rfl rfl ?_
      refine j_iload_n (pc' := 35) rfl rfl rfl ?_
      refine j_callTi (pc' := 38) (ai := 16) (vs := [.ref 1, .int l3]) (rest := []) rfl rfl (fun _ _ => rfl) (c_X2_isShut_1 l3 σ) (j_dd rfl hd) rfl ?_
      refine j_q2 (Φl := (fun r Q => j_Tr true τ M_cX11_balance d 78 [some (.ref 0), some (.int r.1), some (.int r.2), some (.int l3), none] [] σ Q)) ?_ (fun v1 v2 => ?_)
      · refine j_two (pT := 41) (pF := 78) (L1 := [some (.ref 0), some (.int l1), some (.int l2), some (.int l3), none]) (st1 := []) (fun o kT kF => ?_) (fun h3 => ?_) (fun h3 => ?_)
        · refine j_ifne (t := 78) (pc' := 41) rfl rfl rfl (fun h4 => ?_) (fun h4 => ?_)
          · exact kF h4
          · exact kT h4
        · refine j_aload_n (pc' := 42) rfl rfl rfl ?_
          refine j_gfr (pc' := 45) (x := 1) rfl rfl j_a0 rfl rfl ?_
          refine j_gfr (pc' := 48) (x := 5) rfl rfl j_a1 rfl rfl ?_
          refine j_iload_n (pc' := 49) rfl rfl rfl ?_
          refine j_callPi (pc' := 52) (ai := 36) (vs := [.ref 5, .int l3]) (rest := []) rfl rfl (fun _ _ => rfl) (c_X3_oftenAt_5 l3 σ) (j_dd rfl hd) rfl (fun v3 => ?_)
          refine j_istore (pc' := 54) (L' := [some (.ref 0), some (.int l1), some (.int l2), some (.int l3), some (.int v3)]) rfl rfl rfl ?_
          refine j_iload_n (pc' := 55) rfl rfl rfl ?_
          refine j_iload (pc' := 57) rfl rfl rfl ?_
          refine j_max (pc' := 60) rfl rfl rfl ?_
          refine j_leti (fun v4 => ?_)
          refine j_istore_n (pc' := 61) (L' := [some (.ref 0), some (.int v4), some (.int l2), some (.int l3), some (.int v3)]) rfl rfl rfl ?_
          refine j_iload_n (pc' := 62) rfl rfl rfl ?_
          refine j_iconst (pc' := 63) (x := (-1 : Int32)) rfl rfl rfl ?_
          refine j_ql (Φl := (fun r Q => j_Tr true τ M_cX11_balance d 77 [some (.ref 0), some (.int v4), none, some (.int l3), none] [.int r] σ Q)) ?_ (fun v5 => ?_)
          · refine j_twoT (pT := 66) (pF := 71) (L1 := [some (.ref 0), some (.int v4), some (.int l2), some (.int l3), some (.int v3)]) (st1 := []) (fun o kT kF => ?_) (fun h1 => ?_) (fun h1 => ?_)
            · refine j_icne (t := 71) (pc' := 66) rfl rfl rfl (fun h2 => ?_) (fun h2 => ?_)
              · exact kF h2
              · exact kT h2
            · refine j_iload (pc' := 68) rfl rfl rfl ?_
              refine j_goto (t := 77) rfl rfl ?_
              refine j_wk [true, true, false, true, false] (L' := [some (.ref 0), some (.int v4), none, some (.int l3), none]) rfl ?_
              exact j_end (fun _ h => h)
            · refine j_iload_n (pc' := 72) rfl rfl rfl ?_
              refine j_iload (pc' := 74) rfl rfl rfl ?_
              refine j_min (pc' := 77) rfl rfl rfl ?_
              refine j_wk [true, true, false, true, false] (L' := [some (.ref 0), some (.int v4), none, some (.int l3), none]) rfl ?_
              exact j_end (fun _ h => h)
          show j_J true τ M_cX11_balance d 77 [some (.ref 0), some (.int v4), none, some (.int l3), none] [.int v5] σ _ _
          refine j_istore_n (pc' := 78) (L' := [some (.ref 0), some (.int v4), some (.int v5), some (.int l3), none]) rfl rfl rfl ?_
          exact j_end (fun _ h => h)
        · exact j_end (fun _ h => h)
      show j_J true τ M_cX11_balance d 78 [some (.ref 0), some (.int v1), some (.int v2), some (.int l3), none] [] σ _ _
      refine j_iincx (pc' := 81) (y := (1 : Int32)) (L' := [some (.ref 0), some (.int v1), some (.int v2), some (.int (l3 + (1 : Int32))), none]) rfl rfl rfl rfl rfl ?_
      refine j_goto (t := 19) rfl rfl ?_
      exact ih v1 v2 (l3 + (1 : Int32))
    · refine j_wk [false, true, true, false, true] (L' := [none, some (.int l1), some (.int l2), none, none]) rfl ?_
      exact j_end (fun _ h => h)

theorem c_X11_balance (σ : j_G) : j_K true 1 166 [.ref 0] σ (f_X11_balance σ) (j_Pi σ) := by
  refine j_mkK (M := M_cX11_balance) (L := [some (.ref 0), none, none, none, none]) (m := 4) t_166 rfl (j_rcvO j_a0 rfl) rfl (fun d hd τ => ?_)
  unfold f_X11_balance
  refine j_aload_n (pc' := 1) rfl rfl rfl ?_
  refine j_gfr (pc' := 4) (x := 1) rfl rfl j_a0 rfl rfl ?_
  refine j_callTi (pc' := 7) (ai := 11) (vs := [.ref 1]) (rest := []) rfl rfl (fun _ _ => rfl) (c_X2_isTold  σ) (j_dd rfl hd) rfl ?_
  refine j_two (pT := 10) (pF := 13) (L1 := [some (.ref 0), none, none, none, none]) (st1 := []) (fun o kT kF => ?_) (fun h3 => ?_) (fun h3 => ?_)
  · refine j_ifne (t := 13) (pc' := 10) rfl rfl rfl (fun h4 => ?_) (fun h4 => ?_)
    · exact kF h4
    · exact kT h4
  · refine j_bipush (pc' := 12) (x := (-2 : Int32)) rfl rfl rfl ?_
    exact j_ret rfl rfl rfl (fun _ h => h)
  · refine j_iconst (pc' := 14) (x := (-1 : Int32)) rfl rfl rfl ?_
    refine j_istore_n (pc' := 15) (L' := [some (.ref 0), some (.int (-1 : Int32)), none, none, none]) rfl rfl rfl ?_
    refine j_iconst (pc' := 16) (x := (-1 : Int32)) rfl rfl rfl ?_
    refine j_istore_n (pc' := 17) (L' := [some (.ref 0), some (.int (-1 : Int32)), some (.int (-1 : Int32)), none, none]) rfl rfl rfl ?_
    refine j_iconst (pc' := 18) (x := (0 : Int32)) rfl rfl rfl ?_
    refine j_istore_n (pc' := 19) (L' := [some (.ref 0), some (.int (-1 : Int32)), some (.int (-1 : Int32)), some (.int (0 : Int32)), none]) rfl rfl rfl ?_
    refine j_q2 (l_X11_balance_19 hd τ σ j_F (-1 : Int32) (-1 : Int32) (0 : Int32)) (fun v1 v2 => ?_)
    show j_J true τ M_cX11_balance d 84 [none, some (.int v1), some (.int v2), none, none] [] σ _ _
    refine j_iload_n (pc' := 85) rfl rfl rfl ?_
    refine j_iconst (pc' := 86) (x := (-1 : Int32)) rfl rfl rfl ?_
    refine j_two (pT := 89) (pF := 93) (L1 := [none, some (.int v1), some (.int v2), none, none]) (st1 := []) (fun o kT kF => ?_) (fun h1 => ?_) (fun h1 => ?_)
    · refine j_icne (t := 93) (pc' := 89) rfl rfl rfl (fun h2 => ?_) (fun h2 => ?_)
      · exact kF h2
      · exact kT h2
    · refine j_iconst (pc' := 90) (x := (-1 : Int32)) rfl rfl rfl ?_
      refine j_goto (t := 96) rfl rfl ?_
      exact j_ret rfl rfl rfl (fun _ h => h)
    · refine j_iload_n (pc' := 94) rfl rfl rfl ?_
      refine j_iload_n (pc' := 95) rfl rfl rfl ?_
      refine j_isub (pc' := 96) rfl rfl ?_
      exact j_ret rfl rfl rfl (fun _ h => h)

noncomputable def p_X12_balance_18 (σ : j_G) : Nat → Int32 → Int32 → Int32 → Option (Int32 × Int32)
  | 0, _, _, _ => none
  | n + 1, l1, l2, l3 =>
    j_b1 (f_X12_holes σ) fun v1 =>
    if l3 < v1 then (j_b1 (f_X12_isShut l3 σ) fun v2 =>
    j_b2 (if ¬ v2 = 0 then (some (l1, l2)) else (j_b1 (f_X12_oftenOf l3 σ) fun v5 =>
    j_lt (if v5 < l1 then v5 else l1) fun v6 =>
    j_b1 (f_X12_oftenOf l3 σ) fun v7 =>
    j_lt (if l2 < v7 then v7 else l2) fun v8 =>
    some (v6, v8))) fun v3 v4 =>
    p_X12_balance_18 σ n v3 v4 (l3 + (1 : Int32))) else (some (l1, l2))

noncomputable def f_X12_balance (σ : j_G) : Option Int32 :=
  j_b1 (f_X12_isBoard σ) fun v1 =>
  if v1 = 0 then (some (-2 : Int32)) else (j_b2 (p_X12_balance_18 σ j_F (1000000 : Int32) (-1 : Int32) (0 : Int32)) fun v2 v3 =>
  if v3 = (-1 : Int32) then (some (-1 : Int32)) else (some (v3 - v2)))
theorem l_X12_balance_18 {d : Nat} (hd : 2 ≤ d) (τ : j_G) (σ : j_G) : ∀ (n : Nat) (l1 : Int32) (l2 : Int32) (l3 : Int32), j_J false τ M_cX12_balance d 18 [some (.ref 75), some (.int l1), some (.int l2), some (.int l3)] [] σ (p_X12_balance_18 σ n l1 l2 l3) (fun r Q => j_Tr false τ M_cX12_balance d 63 [none, some (.int r.1), some (.int r.2), none] [] σ Q) := by
  intro n
  induction n with
  | zero => intro l1 l2 l3; exact j_none
  | succ n ih =>
    intro l1 l2 l3
    unfold p_X12_balance_18
    refine j_iload_n (pc' := 19) rfl rfl rfl ?_
    refine j_aload_n (pc' := 20) rfl rfl rfl ?_
    refine j_callPi (pc' := 23) (ai := 200) (vs := [.ref 75]) (rest := [.int l3]) rfl rfl (fun _ _ => rfl) (c_X12_holes  σ) (j_dd rfl hd) rfl (fun v1 => ?_)
    refine j_two (pT := 26) (pF := 63) (L1 := [some (.ref 75), some (.int l1), some (.int l2), some (.int l3)]) (st1 := []) (fun o kT kF => ?_) (fun h3 => ?_) (fun h3 => ?_)
    · refine j_icge (t := 63) (pc' := 26) rfl rfl rfl (fun h4 => ?_) (fun h4 => ?_)
      · exact kF h4
      · exact kT h4
    · refine j_aload_n (pc' := 27) rfl rfl rfl ?_
      refine j_iload_n (pc' := 28) rfl rfl rfl ?_
      refine j_callPi (pc' := 31) (ai := 202) (vs := [.ref 75, .int l3]) (rest := []) rfl rfl (fun _ _ => rfl) (c_X12_isShut l3 σ) (j_dd rfl hd) rfl (fun v2 => ?_)
      refine j_q2 (Φl := (fun r Q => j_Tr false τ M_cX12_balance d 57 [some (.ref 75), some (.int r.1), some (.int r.2), some (.int l3)] [] σ Q)) ?_ (fun v3 v4 => ?_)
      · refine j_two (pT := 34) (pF := 37) (L1 := [some (.ref 75), some (.int l1), some (.int l2), some (.int l3)]) (st1 := []) (fun o kT kF => ?_) (fun h1 => ?_) (fun h1 => ?_)
        · refine j_ifeq (t := 37) (pc' := 34) rfl rfl rfl (fun h2 => ?_) (fun h2 => ?_)
          · exact kF (fun z => z h2)
          · exact kT h2
        · refine j_goto (t := 57) rfl rfl ?_
          exact j_end (fun _ h => h)
        · refine j_iload_n (pc' := 38) rfl rfl rfl ?_
          refine j_aload_n (pc' := 39) rfl rfl rfl ?_
          refine j_iload_n (pc' := 40) rfl rfl rfl ?_
          refine j_callPi (pc' := 43) (ai := 329) (vs := [.ref 75, .int l3]) (rest := [.int l1]) rfl rfl (fun _ _ => rfl) (c_X12_oftenOf l3 σ) (j_dd rfl hd) rfl (fun v5 => ?_)
          refine j_min (pc' := 46) rfl rfl rfl ?_
          refine j_leti (fun v6 => ?_)
          refine j_istore_n (pc' := 47) (L' := [some (.ref 75), some (.int v6), some (.int l2), some (.int l3)]) rfl rfl rfl ?_
          refine j_iload_n (pc' := 48) rfl rfl rfl ?_
          refine j_aload_n (pc' := 49) rfl rfl rfl ?_
          refine j_iload_n (pc' := 50) rfl rfl rfl ?_
          refine j_callPi (pc' := 53) (ai := 329) (vs := [.ref 75, .int l3]) (rest := [.int l2]) rfl rfl (fun _ _ => rfl) (c_X12_oftenOf l3 σ) (j_dd rfl hd) rfl (fun v7 => ?_)
          refine j_max (pc' := 56) rfl rfl rfl ?_
          refine j_leti (fun v8 => ?_)
          refine j_istore_n (pc' := 57) (L' := [some (.ref 75), some (.int v6), some (.int v8), some (.int l3)]) rfl rfl rfl ?_
          exact j_end (fun _ h => h)
      show j_J false τ M_cX12_balance d 57 [some (.ref 75), some (.int v3), some (.int v4), some (.int l3)] [] σ _ _
      refine j_iincx (pc' := 60) (y := (1 : Int32)) (L' := [some (.ref 75), some (.int v3), some (.int v4), some (.int (l3 + (1 : Int32)))]) rfl rfl rfl rfl rfl ?_
      refine j_goto (t := 18) rfl rfl ?_
      exact ih v3 v4 (l3 + (1 : Int32))
    · refine j_wk [false, true, true, false] (L' := [none, some (.int l1), some (.int l2), none]) rfl ?_
      exact j_end (fun _ h => h)

theorem c_X12_balance (σ : j_G) : j_K false 2 331 [.ref 75] σ (f_X12_balance σ) (j_Pi σ) := by
  refine j_mkK (M := M_cX12_balance) (L := [some (.ref 75), none, none, none]) (m := 3) t_331 rfl (j_rcvO j_a75 rfl) rfl (fun d hd τ => ?_)
  unfold f_X12_balance
  refine j_aload_n (pc' := 1) rfl rfl rfl ?_
  refine j_callPi (pc' := 4) (ai := 199) (vs := [.ref 75]) (rest := []) rfl rfl (fun _ _ => rfl) (c_X12_isBoard  σ) (j_dd rfl hd) rfl (fun v1 => ?_)
  refine j_two (pT := 7) (pF := 10) (L1 := [some (.ref 75), none, none, none]) (st1 := []) (fun o kT kF => ?_) (fun h3 => ?_) (fun h3 => ?_)
  · refine j_ifne (t := 10) (pc' := 7) rfl rfl rfl (fun h4 => ?_) (fun h4 => ?_)
    · exact kF h4
    · exact kT h4
  · refine j_bipush (pc' := 9) (x := (-2 : Int32)) rfl rfl rfl ?_
    exact j_ret rfl rfl rfl (fun _ h => h)
  · refine j_ldc_w (pc' := 13) (x := (1000000 : Int32)) rfl rfl rfl ?_
    refine j_istore_n (pc' := 14) (L' := [some (.ref 75), some (.int (1000000 : Int32)), none, none]) rfl rfl rfl ?_
    refine j_iconst (pc' := 15) (x := (-1 : Int32)) rfl rfl rfl ?_
    refine j_istore_n (pc' := 16) (L' := [some (.ref 75), some (.int (1000000 : Int32)), some (.int (-1 : Int32)), none]) rfl rfl rfl ?_
    refine j_iconst (pc' := 17) (x := (0 : Int32)) rfl rfl rfl ?_
    refine j_istore_n (pc' := 18) (L' := [some (.ref 75), some (.int (1000000 : Int32)), some (.int (-1 : Int32)), some (.int (0 : Int32))]) rfl rfl rfl ?_
    refine j_q2 (l_X12_balance_18 hd τ σ j_F (1000000 : Int32) (-1 : Int32) (0 : Int32)) (fun v2 v3 => ?_)
    show j_J false τ M_cX12_balance d 63 [none, some (.int v2), some (.int v3), none] [] σ _ _
    refine j_iload_n (pc' := 64) rfl rfl rfl ?_
    refine j_iconst (pc' := 65) (x := (-1 : Int32)) rfl rfl rfl ?_
    refine j_two (pT := 68) (pF := 72) (L1 := [none, some (.int v2), some (.int v3), none]) (st1 := []) (fun o kT kF => ?_) (fun h1 => ?_) (fun h1 => ?_)
    · refine j_icne (t := 72) (pc' := 68) rfl rfl rfl (fun h2 => ?_) (fun h2 => ?_)
      · exact kF h2
      · exact kT h2
    · refine j_iconst (pc' := 69) (x := (-1 : Int32)) rfl rfl rfl ?_
      refine j_goto (t := 75) rfl rfl ?_
      exact j_ret rfl rfl rfl (fun _ h => h)
    · refine j_iload_n (pc' := 73) rfl rfl rfl ?_
      refine j_iload_n (pc' := 74) rfl rfl rfl ?_
      refine j_isub (pc' := 75) rfl rfl ?_
      exact j_ret rfl rfl rfl (fun _ h => h)

noncomputable def p_X2_pathRound_4 (σ : j_G) : Nat → Int32 → Int32 → Option Int32
  | 0, _, _ => none
  | n + 1, l1, l2 =>
    if l2 < (σ.1 5 0) then (j_b1 (f_X3_round l2 σ) fun v1 =>
    j_b1 (f_X3_round (l2 + (1 : Int32)) σ) fun v2 =>
    j_b1 (f_X2_apart v1 v2 σ) fun v3 =>
    j_lt (l1 + v3) fun v4 =>
    p_X2_pathRound_4 σ n v4 (l2 + (1 : Int32))) else (some l1)

noncomputable def f_X2_pathRound (σ : j_G) : Option Int32 :=
  j_b1 (p_X2_pathRound_4 σ j_F (0 : Int32) (0 : Int32)) fun v1 =>
  some v1
theorem l_X2_pathRound_4 {d : Nat} (hd : 2 ≤ d) (τ : j_G) (σ : j_G) : ∀ (n : Nat) (l1 : Int32) (l2 : Int32), j_J true τ M_cX2_pathRound d 4 [some (.ref 1), some (.int l1), some (.int l2)] [] σ (p_X2_pathRound_4 σ n l1 l2) (fun r Q => j_Tr true τ M_cX2_pathRound d 46 [none, some (.int r), none] [] σ Q) := by
  intro n
  induction n with
  | zero => intro l1 l2; exact j_none
  | succ n ih =>
    intro l1 l2
    unfold p_X2_pathRound_4
    refine j_iload_n (pc' := 5) rfl rfl rfl ?_
    refine j_aload_n (pc' := 6) rfl rfl rfl ?_
    refine j_gfr (pc' := 9) (x := 5) rfl rfl j_a1 rfl rfl ?_
    refine j_gfi (pc' := 12) rfl rfl j_a5 rfl ?_
    refine j_two (pT := 15) (pF := 46) (L1 := [some (.ref 1), some (.int l1), some (.int l2)]) (st1 := []) (fun o kT kF => ?_) (fun h1 => ?_) (fun h1 => ?_)
    · refine j_icge (t := 46) (pc' := 15) rfl rfl rfl (fun h2 => ?_) (fun h2 => ?_)
      · exact kF h2
      · exact kT h2
    · refine j_iload_n (pc' := 16) rfl rfl rfl ?_
      refine j_aload_n (pc' := 17) rfl rfl rfl ?_
      refine j_aload_n (pc' := 18) rfl rfl rfl ?_
      refine j_gfr (pc' := 21) (x := 5) rfl rfl j_a1 rfl rfl ?_
      refine j_iload_n (pc' := 22) rfl rfl rfl ?_
      refine j_callPi (pc' := 25) (ai := 35) (vs := [.ref 5, .int l2]) (rest := [.ref 1, .int l1]) rfl rfl (fun _ _ => rfl) (c_X3_round l2 σ) (j_dd rfl hd) rfl (fun v1 => ?_)
      refine j_aload_n (pc' := 26) rfl rfl rfl ?_
      refine j_gfr (pc' := 29) (x := 5) rfl rfl j_a1 rfl rfl ?_
      refine j_iload_n (pc' := 30) rfl rfl rfl ?_
      refine j_iconst (pc' := 31) (x := (1 : Int32)) rfl rfl rfl ?_
      refine j_iadd (pc' := 32) rfl rfl ?_
      refine j_callPi (pc' := 35) (ai := 35) (vs := [.ref 5, .int (l2 + (1 : Int32))]) (rest := [.int v1, .ref 1, .int l1]) rfl rfl (fun _ _ => rfl) (c_X3_round (l2 + (1 : Int32)) σ) (j_dd rfl hd) rfl (fun v2 => ?_)
      refine j_callPi (pc' := 38) (ai := 18) (vs := [.ref 1, .int v1, .int v2]) (rest := [.int l1]) rfl rfl (fun _ _ => rfl) (c_X2_apart v1 v2 σ) (j_dd rfl hd) rfl (fun v3 => ?_)
      refine j_iadd (pc' := 39) rfl rfl ?_
      refine j_leti (fun v4 => ?_)
      refine j_istore_n (pc' := 40) (L' := [some (.ref 1), some (.int v4), some (.int l2)]) rfl rfl rfl ?_
      refine j_iincx (pc' := 43) (y := (1 : Int32)) (L' := [some (.ref 1), some (.int v4), some (.int (l2 + (1 : Int32)))]) rfl rfl rfl rfl rfl ?_
      refine j_goto (t := 4) rfl rfl ?_
      exact ih v4 (l2 + (1 : Int32))
    · refine j_wk [false, true, false] (L' := [none, some (.int l1), none]) rfl ?_
      exact j_end (fun _ h => h)

theorem c_X2_pathRound (σ : j_G) : j_K true 2 20 [.ref 1] σ (f_X2_pathRound σ) (j_Pi σ) := by
  refine j_mkK (M := M_cX2_pathRound) (L := [some (.ref 1), none, none]) (m := 2) t_20 rfl (j_rcvO j_a1 rfl) rfl (fun d hd τ => ?_)
  unfold f_X2_pathRound
  refine j_iconst (pc' := 1) (x := (0 : Int32)) rfl rfl rfl ?_
  refine j_istore_n (pc' := 2) (L' := [some (.ref 1), some (.int (0 : Int32)), none]) rfl rfl rfl ?_
  refine j_iconst (pc' := 3) (x := (0 : Int32)) rfl rfl rfl ?_
  refine j_istore_n (pc' := 4) (L' := [some (.ref 1), some (.int (0 : Int32)), some (.int (0 : Int32))]) rfl rfl rfl ?_
  refine j_q1 (l_X2_pathRound_4 hd τ σ j_F (0 : Int32) (0 : Int32)) (fun v1 => ?_)
  show j_J true τ M_cX2_pathRound d 46 [none, some (.int v1), none] [] σ _ _
  refine j_iload_n (pc' := 47) rfl rfl rfl ?_
  exact j_ret rfl rfl rfl (fun _ h => h)

noncomputable def f_X11_path (σ : j_G) : Option Int32 :=
  if ¬ (f_X2_isTold σ) = 0 then (j_b1 (f_X2_pathRound σ) fun v1 =>
  some v1) else (some (-2 : Int32))
theorem c_X11_path (σ : j_G) : j_K true 3 167 [.ref 0] σ (f_X11_path σ) (j_Pi σ) := by
  refine j_mkK (M := M_cX11_path) (L := [some (.ref 0)]) (m := 0) t_167 rfl (j_rcvO j_a0 rfl) rfl (fun d hd τ => ?_)
  unfold f_X11_path
  refine j_aload_n (pc' := 1) rfl rfl rfl ?_
  refine j_gfr (pc' := 4) (x := 1) rfl rfl j_a0 rfl rfl ?_
  refine j_callTi (pc' := 7) (ai := 11) (vs := [.ref 1]) (rest := []) rfl rfl (fun _ _ => rfl) (c_X2_isTold  σ) (j_dd rfl hd) rfl ?_
  refine j_two (pT := 10) (pF := 20) (L1 := [some (.ref 0)]) (st1 := []) (fun o kT kF => ?_) (fun h1 => ?_) (fun h1 => ?_)
  · refine j_ifeq (t := 20) (pc' := 10) rfl rfl rfl (fun h2 => ?_) (fun h2 => ?_)
    · exact kF (fun z => z h2)
    · exact kT h2
  · refine j_aload_n (pc' := 11) rfl rfl rfl ?_
    refine j_gfr (pc' := 14) (x := 1) rfl rfl j_a0 rfl rfl ?_
    refine j_callPi (pc' := 17) (ai := 20) (vs := [.ref 1]) (rest := []) rfl rfl (fun _ _ => rfl) (c_X2_pathRound  σ) (j_dd rfl hd) rfl (fun v1 => ?_)
    refine j_goto (t := 22) rfl rfl ?_
    exact j_ret rfl rfl rfl (fun _ h => h)
  · refine j_bipush (pc' := 22) (x := (-2 : Int32)) rfl rfl rfl ?_
    exact j_ret rfl rfl rfl (fun _ h => h)

noncomputable def p_X12_pathOf_4 (σ : j_G) : Nat → Int32 → Int32 → Option Int32
  | 0, _, _ => none
  | n + 1, l1, l2 =>
    j_ix (5 : Int32) 116 (
    if l2 < (σ.1 76 ((5 : Int32)).toNatClampNeg) then (j_b1 (f_X12_holeAt l2 σ) fun v1 =>
    j_b1 (f_X12_holeAt (l2 + (1 : Int32)) σ) fun v2 =>
    j_b1 (f_X12_stepsOf v1 v2 σ) fun v3 =>
    j_lt (l1 + v3) fun v4 =>
    p_X12_pathOf_4 σ n v4 (l2 + (1 : Int32))) else (some l1))

noncomputable def f_X12_pathOf (σ : j_G) : Option Int32 :=
  j_b1 (p_X12_pathOf_4 σ j_F (0 : Int32) (0 : Int32)) fun v1 =>
  some v1
theorem l_X12_pathOf_4 {d : Nat} (hd : 2 ≤ d) (τ : j_G) (σ : j_G) : ∀ (n : Nat) (l1 : Int32) (l2 : Int32), j_J false τ M_cX12_pathOf d 4 [some (.ref 75), some (.int l1), some (.int l2)] [] σ (p_X12_pathOf_4 σ n l1 l2) (fun r Q => j_Tr false τ M_cX12_pathOf d 39 [none, some (.int r), none] [] σ Q) := by
  intro n
  induction n with
  | zero => intro l1 l2; exact j_none
  | succ n ih =>
    intro l1 l2
    unfold p_X12_pathOf_4
    refine j_iload_n (pc' := 5) rfl rfl rfl ?_
    refine j_aload_n (pc' := 6) rfl rfl rfl ?_
    refine j_gfr (pc' := 9) (x := 76) rfl rfl j_a75 rfl rfl ?_
    refine j_iconst (pc' := 10) (x := (5 : Int32)) rfl rfl rfl ?_
    refine j_iald (pc' := 11) rfl rfl j_a76 ?_
    refine j_two (pT := 14) (pF := 39) (L1 := [some (.ref 75), some (.int l1), some (.int l2)]) (st1 := []) (fun o kT kF => ?_) (fun h1 => ?_) (fun h1 => ?_)
    · refine j_icge (t := 39) (pc' := 14) rfl rfl rfl (fun h2 => ?_) (fun h2 => ?_)
      · exact kF h2
      · exact kT h2
    · refine j_iload_n (pc' := 15) rfl rfl rfl ?_
      refine j_aload_n (pc' := 16) rfl rfl rfl ?_
      refine j_aload_n (pc' := 17) rfl rfl rfl ?_
      refine j_iload_n (pc' := 18) rfl rfl rfl ?_
      refine j_callPi (pc' := 21) (ai := 296) (vs := [.ref 75, .int l2]) (rest := [.ref 75, .int l1]) rfl rfl (fun _ _ => rfl) (c_X12_holeAt l2 σ) (j_dd rfl hd) rfl (fun v1 => ?_)
      refine j_aload_n (pc' := 22) rfl rfl rfl ?_
      refine j_iload_n (pc' := 23) rfl rfl rfl ?_
      refine j_iconst (pc' := 24) (x := (1 : Int32)) rfl rfl rfl ?_
      refine j_iadd (pc' := 25) rfl rfl ?_
      refine j_callPi (pc' := 28) (ai := 296) (vs := [.ref 75, .int (l2 + (1 : Int32))]) (rest := [.int v1, .ref 75, .int l1]) rfl rfl (fun _ _ => rfl) (c_X12_holeAt (l2 + (1 : Int32)) σ) (j_dd rfl hd) rfl (fun v2 => ?_)
      refine j_callPi (pc' := 31) (ai := 248) (vs := [.ref 75, .int v1, .int v2]) (rest := [.int l1]) rfl rfl (fun _ _ => rfl) (c_X12_stepsOf v1 v2 σ) (j_dd rfl hd) rfl (fun v3 => ?_)
      refine j_iadd (pc' := 32) rfl rfl ?_
      refine j_leti (fun v4 => ?_)
      refine j_istore_n (pc' := 33) (L' := [some (.ref 75), some (.int v4), some (.int l2)]) rfl rfl rfl ?_
      refine j_iincx (pc' := 36) (y := (1 : Int32)) (L' := [some (.ref 75), some (.int v4), some (.int (l2 + (1 : Int32)))]) rfl rfl rfl rfl rfl ?_
      refine j_goto (t := 4) rfl rfl ?_
      exact ih v4 (l2 + (1 : Int32))
    · refine j_wk [false, true, false] (L' := [none, some (.int l1), none]) rfl ?_
      exact j_end (fun _ h => h)

theorem c_X12_pathOf (σ : j_G) : j_K false 2 332 [.ref 75] σ (f_X12_pathOf σ) (j_Pi σ) := by
  refine j_mkK (M := M_cX12_pathOf) (L := [some (.ref 75), none, none]) (m := 2) t_332 rfl (j_rcvO j_a75 rfl) rfl (fun d hd τ => ?_)
  unfold f_X12_pathOf
  refine j_iconst (pc' := 1) (x := (0 : Int32)) rfl rfl rfl ?_
  refine j_istore_n (pc' := 2) (L' := [some (.ref 75), some (.int (0 : Int32)), none]) rfl rfl rfl ?_
  refine j_iconst (pc' := 3) (x := (0 : Int32)) rfl rfl rfl ?_
  refine j_istore_n (pc' := 4) (L' := [some (.ref 75), some (.int (0 : Int32)), some (.int (0 : Int32))]) rfl rfl rfl ?_
  refine j_q1 (l_X12_pathOf_4 hd τ σ j_F (0 : Int32) (0 : Int32)) (fun v1 => ?_)
  show j_J false τ M_cX12_pathOf d 39 [none, some (.int v1), none] [] σ _ _
  refine j_iload_n (pc' := 40) rfl rfl rfl ?_
  exact j_ret rfl rfl rfl (fun _ h => h)

noncomputable def f_X12_path (σ : j_G) : Option Int32 :=
  j_b1 (f_X12_isBoard σ) fun v1 =>
  if ¬ v1 = 0 then (j_b1 (f_X12_pathOf σ) fun v2 =>
  some v2) else (some (-2 : Int32))
theorem c_X12_path (σ : j_G) : j_K false 3 333 [.ref 75] σ (f_X12_path σ) (j_Pi σ) := by
  refine j_mkK (M := M_cX12_path) (L := [some (.ref 75)]) (m := 0) t_333 rfl (j_rcvO j_a75 rfl) rfl (fun d hd τ => ?_)
  unfold f_X12_path
  refine j_aload_n (pc' := 1) rfl rfl rfl ?_
  refine j_callPi (pc' := 4) (ai := 199) (vs := [.ref 75]) (rest := []) rfl rfl (fun _ _ => rfl) (c_X12_isBoard  σ) (j_dd rfl hd) rfl (fun v1 => ?_)
  refine j_two (pT := 7) (pF := 14) (L1 := [some (.ref 75)]) (st1 := []) (fun o kT kF => ?_) (fun h1 => ?_) (fun h1 => ?_)
  · refine j_ifeq (t := 14) (pc' := 7) rfl rfl rfl (fun h2 => ?_) (fun h2 => ?_)
    · exact kF (fun z => z h2)
    · exact kT h2
  · refine j_aload_n (pc' := 8) rfl rfl rfl ?_
    refine j_callPi (pc' := 11) (ai := 332) (vs := [.ref 75]) (rest := []) rfl rfl (fun _ _ => rfl) (c_X12_pathOf  σ) (j_dd rfl hd) rfl (fun v2 => ?_)
    refine j_goto (t := 16) rfl rfl ?_
    exact j_ret rfl rfl rfl (fun _ h => h)
  · refine j_bipush (pc' := 16) (x := (-2 : Int32)) rfl rfl rfl ?_
    exact j_ret rfl rfl rfl (fun _ h => h)

noncomputable def f_X3_exchangeIn (a0 : Nat) (l1 : Int32) (l2 : Int32) (σ : j_G) : Option j_G :=
  j_ix l1 24 (
  j_lt (σ.1 a0 (l1).toNatClampNeg) fun v1 =>
  j_ix l2 24 (
  j_ix l1 24 (
  j_lt (j_si σ a0 (l1).toNatClampNeg (σ.1 a0 (l2).toNatClampNeg)) fun σ2 =>
  j_ix l2 24 (
  j_lt (j_si σ2 a0 (l2).toNatClampNeg v1) fun σ3 =>
  some σ3))))
theorem c_X3_exchangeIn_6 (l1 : Int32) (l2 : Int32) (σ : j_G) : j_K true 0 34 [.ref 6, .int l1, .int l2] σ (f_X3_exchangeIn 6 l1 l2 σ) j_Rv := by
  refine j_mkK (M := M_cX3_exchangeIn) (L := [some (.ref 6), some (.int l1), some (.int l2), none]) (m := 1) t_34 rfl (j_rcvS rfl) rfl (fun d hd τ => ?_)
  unfold f_X3_exchangeIn
  refine j_aload_n (pc' := 1) rfl rfl rfl ?_
  refine j_iload_n (pc' := 2) rfl rfl rfl ?_
  refine j_iald (pc' := 3) rfl rfl j_a6 ?_
  refine j_leti (fun v1 => ?_)
  refine j_istore_n (pc' := 4) (L' := [some (.ref 6), some (.int l1), some (.int l2), some (.int v1)]) rfl rfl rfl ?_
  refine j_aload_n (pc' := 5) rfl rfl rfl ?_
  refine j_iload_n (pc' := 6) rfl rfl rfl ?_
  refine j_aload_n (pc' := 7) rfl rfl rfl ?_
  refine j_iload_n (pc' := 8) rfl rfl rfl ?_
  refine j_iald (pc' := 9) rfl rfl j_a6 ?_
  refine j_iast (pc' := 10) rfl rfl j_a6 (fun σ2 => ?_)
  refine j_aload_n (pc' := 11) rfl rfl rfl ?_
  refine j_iload_n (pc' := 12) rfl rfl rfl ?_
  refine j_iload_n (pc' := 13) rfl rfl rfl ?_
  refine j_iast (pc' := 14) rfl rfl j_a6 (fun σ3 => ?_)
  exact j_ret rfl rfl rfl (fun _ h => h)

theorem c_X3_exchangeIn_7 (l1 : Int32) (l2 : Int32) (σ : j_G) : j_K true 0 34 [.ref 7, .int l1, .int l2] σ (f_X3_exchangeIn 7 l1 l2 σ) j_Rv := by
  refine j_mkK (M := M_cX3_exchangeIn) (L := [some (.ref 7), some (.int l1), some (.int l2), none]) (m := 1) t_34 rfl (j_rcvS rfl) rfl (fun d hd τ => ?_)
  unfold f_X3_exchangeIn
  refine j_aload_n (pc' := 1) rfl rfl rfl ?_
  refine j_iload_n (pc' := 2) rfl rfl rfl ?_
  refine j_iald (pc' := 3) rfl rfl j_a7 ?_
  refine j_leti (fun v1 => ?_)
  refine j_istore_n (pc' := 4) (L' := [some (.ref 7), some (.int l1), some (.int l2), some (.int v1)]) rfl rfl rfl ?_
  refine j_aload_n (pc' := 5) rfl rfl rfl ?_
  refine j_iload_n (pc' := 6) rfl rfl rfl ?_
  refine j_aload_n (pc' := 7) rfl rfl rfl ?_
  refine j_iload_n (pc' := 8) rfl rfl rfl ?_
  refine j_iald (pc' := 9) rfl rfl j_a7 ?_
  refine j_iast (pc' := 10) rfl rfl j_a7 (fun σ2 => ?_)
  refine j_aload_n (pc' := 11) rfl rfl rfl ?_
  refine j_iload_n (pc' := 12) rfl rfl rfl ?_
  refine j_iload_n (pc' := 13) rfl rfl rfl ?_
  refine j_iast (pc' := 14) rfl rfl j_a7 (fun σ3 => ?_)
  exact j_ret rfl rfl rfl (fun _ h => h)

theorem c_X3_exchangeIn_8 (l1 : Int32) (l2 : Int32) (σ : j_G) : j_K true 0 34 [.ref 8, .int l1, .int l2] σ (f_X3_exchangeIn 8 l1 l2 σ) j_Rv := by
  refine j_mkK (M := M_cX3_exchangeIn) (L := [some (.ref 8), some (.int l1), some (.int l2), none]) (m := 1) t_34 rfl (j_rcvS rfl) rfl (fun d hd τ => ?_)
  unfold f_X3_exchangeIn
  refine j_aload_n (pc' := 1) rfl rfl rfl ?_
  refine j_iload_n (pc' := 2) rfl rfl rfl ?_
  refine j_iald (pc' := 3) rfl rfl j_a8 ?_
  refine j_leti (fun v1 => ?_)
  refine j_istore_n (pc' := 4) (L' := [some (.ref 8), some (.int l1), some (.int l2), some (.int v1)]) rfl rfl rfl ?_
  refine j_aload_n (pc' := 5) rfl rfl rfl ?_
  refine j_iload_n (pc' := 6) rfl rfl rfl ?_
  refine j_aload_n (pc' := 7) rfl rfl rfl ?_
  refine j_iload_n (pc' := 8) rfl rfl rfl ?_
  refine j_iald (pc' := 9) rfl rfl j_a8 ?_
  refine j_iast (pc' := 10) rfl rfl j_a8 (fun σ2 => ?_)
  refine j_aload_n (pc' := 11) rfl rfl rfl ?_
  refine j_iload_n (pc' := 12) rfl rfl rfl ?_
  refine j_iload_n (pc' := 13) rfl rfl rfl ?_
  refine j_iast (pc' := 14) rfl rfl j_a8 (fun σ3 => ?_)
  exact j_ret rfl rfl rfl (fun _ h => h)

noncomputable def f_X3_exchange (l1 : Int32) (l2 : Int32) (σ : j_G) : Option j_G :=
  if (¬ (f_X3_has l1 σ) = 0) ∧ (¬ (f_X3_has l2 σ) = 0) then (j_b1 (f_X3_exchangeIn 6 l1 l2 σ) fun σ1 =>
  j_b1 (f_X3_exchangeIn 7 l1 l2 σ1) fun σ2 =>
  j_b1 (f_X3_exchangeIn 8 l1 l2 σ2) fun σ3 =>
  some σ3) else (some σ)
theorem c_X3_exchange (l1 : Int32) (l2 : Int32) (σ : j_G) : j_K true 1 33 [.ref 5, .int l1, .int l2] σ (f_X3_exchange l1 l2 σ) j_Rv := by
  refine j_mkK (M := M_cX3_exchange) (L := [some (.ref 5), some (.int l1), some (.int l2)]) (m := 0) t_33 rfl (j_rcvO j_a5 rfl) rfl (fun d hd τ => ?_)
  unfold f_X3_exchange
  refine j_aload_n (pc' := 1) rfl rfl rfl ?_
  refine j_iload_n (pc' := 2) rfl rfl rfl ?_
  refine j_callTi (pc' := 5) (ai := 31) (vs := [.ref 5, .int l1]) (rest := []) rfl rfl (fun _ _ => rfl) (c_X3_has l1 σ) (j_dd rfl hd) rfl ?_
  refine j_two (pT := 16) (pF := 43) (L1 := [some (.ref 5), some (.int l1), some (.int l2)]) (st1 := []) (fun o kT kF => ?_) (fun h1 => ?_) (fun h1 => ?_)
  · refine j_ifeq (t := 43) (pc' := 8) rfl rfl rfl (fun h2 => ?_) (fun h2 => ?_)
    · exact kF (fun z => z.1 h2)
    · refine j_aload_n (pc' := 9) rfl rfl rfl ?_
      refine j_iload_n (pc' := 10) rfl rfl rfl ?_
      refine j_callTi (pc' := 13) (ai := 31) (vs := [.ref 5, .int l2]) (rest := []) rfl rfl (fun _ _ => rfl) (c_X3_has l2 σ) (j_dd rfl hd) rfl ?_
      refine j_ifeq (t := 43) (pc' := 16) rfl rfl rfl (fun h3 => ?_) (fun h3 => ?_)
      · exact kF (fun z => (fun z => z h3) z.2)
      · exact kT (⟨h2, h3⟩)
  · refine j_aload_n (pc' := 17) rfl rfl rfl ?_
    refine j_gfr (pc' := 20) (x := 6) rfl rfl j_a5 rfl rfl ?_
    refine j_iload_n (pc' := 21) rfl rfl rfl ?_
    refine j_iload_n (pc' := 22) rfl rfl rfl ?_
    refine j_callRv (pc' := 25) (ai := 34) (vs := [.ref 6, .int l1, .int l2]) (rest := []) rfl rfl (fun _ _ => rfl) (c_X3_exchangeIn_6 l1 l2 σ) (j_dd rfl hd) rfl (fun σ1 => ?_)
    refine j_aload_n (pc' := 26) rfl rfl rfl ?_
    refine j_gfr (pc' := 29) (x := 7) rfl rfl j_a5 rfl rfl ?_
    refine j_iload_n (pc' := 30) rfl rfl rfl ?_
    refine j_iload_n (pc' := 31) rfl rfl rfl ?_
    refine j_callRv (pc' := 34) (ai := 34) (vs := [.ref 7, .int l1, .int l2]) (rest := []) rfl rfl (fun _ _ => rfl) (c_X3_exchangeIn_7 l1 l2 σ1) (j_dd rfl hd) rfl (fun σ2 => ?_)
    refine j_aload_n (pc' := 35) rfl rfl rfl ?_
    refine j_gfr (pc' := 38) (x := 8) rfl rfl j_a5 rfl rfl ?_
    refine j_iload_n (pc' := 39) rfl rfl rfl ?_
    refine j_iload_n (pc' := 40) rfl rfl rfl ?_
    refine j_callRv (pc' := 43) (ai := 34) (vs := [.ref 8, .int l1, .int l2]) (rest := []) rfl rfl (fun _ _ => rfl) (c_X3_exchangeIn_8 l1 l2 σ2) (j_dd rfl hd) rfl (fun σ3 => ?_)
    exact j_ret rfl rfl rfl (fun _ h => h)
  · exact j_ret rfl rfl rfl (fun _ h => h)

noncomputable def p_X11_better_56 (l1 : Int32) (l4 : Int32) : Nat → Int32 → Int32 → Int32 → j_G → Option (Int32 × Int32 × j_G)
  | 0, _, _, _, _ => none
  | n + 1, l2, l3, l5, σ =>
    if l5 < (σ.1 5 0) then (j_b1 (f_X3_exchange l4 l5 σ) fun σ1 =>
    j_b1 (f_X2_pathRound σ1) fun v2 =>
    j_b1 (f_X3_exchange l4 l5 σ1) fun σ3 =>
    j_lt (if l1 = 0 then (if l3 < v2 then (j_lt (((100 : Int32) * l4) + l5) fun v6 =>
    (v6, v2)) else ((l2, l3))) else (if v2 < l3 then (j_lt (((100 : Int32) * l4) + l5) fun v7 =>
    (v7, v2)) else ((l2, l3)))) fun r8 =>
    p_X11_better_56 l1 l4 n (r8.1) (r8.2) (l5 + (1 : Int32)) σ3) else (some (l2, l3, σ))

noncomputable def p_X11_better_35 (l1 : Int32) : Nat → Int32 → Int32 → Int32 → j_G → Option (Int32 × j_G)
  | 0, _, _, _, _ => none
  | n + 1, l2, l3, l4, σ =>
    if l4 < (σ.1 5 0) then (j_lt (l4 + (1 : Int32)) fun v1 =>
    j_b3 (p_X11_better_56 l1 l4 j_F l2 l3 v1 σ) fun v2 v3 σ4 =>
    p_X11_better_35 l1 n v2 v3 (l4 + (1 : Int32)) σ4) else (some (l2, σ))

noncomputable def f_X11_better (l1 : Int32) (σ : j_G) : Option (Int32 × j_G) :=
  if ((f_X2_isTold σ) = 0) ∨ ((l1 < 0) ∨ ((1 : Int32) < l1)) then (some ((-2 : Int32), σ)) else (j_b1 (f_X2_pathRound σ) fun v1 =>
  j_b2 (p_X11_better_35 l1 j_F (-1 : Int32) v1 (0 : Int32) σ) fun v2 σ3 =>
  some (v2, σ3))
theorem l_X11_better_56 {d : Nat} (hd : 3 ≤ d) (τ : j_G) (l1 : Int32) (l4 : Int32) : ∀ (n : Nat) (l2 : Int32) (l3 : Int32) (l5 : Int32) (σ : j_G), j_J true τ M_cX11_better d 56 [some (.ref 0), some (.int l1), some (.int l2), some (.int l3), some (.int l4), some (.int l5), none] [] σ (p_X11_better_56 l1 l4 n l2 l3 l5 σ) (fun r Q => j_Tr true τ M_cX11_better d 145 [some (.ref 0), some (.int l1), some (.int r.1), some (.int r.2.1), some (.int l4), none, none] [] r.2.2 Q) := by
  intro n
  induction n with
  | zero => intro l2 l3 l5 σ; exact j_none
  | succ n ih =>
    intro l2 l3 l5 σ
    unfold p_X11_better_56
    refine j_iload (pc' := 58) rfl rfl rfl ?_
    refine j_aload_n (pc' := 59) rfl rfl rfl ?_
    refine j_gfr (pc' := 62) (x := 1) rfl rfl j_a0 rfl rfl ?_
    refine j_gfr (pc' := 65) (x := 5) rfl rfl j_a1 rfl rfl ?_
    refine j_gfi (pc' := 68) rfl rfl j_a5 rfl ?_
    refine j_two (pT := 71) (pF := 145) (L1 := [some (.ref 0), some (.int l1), some (.int l2), some (.int l3), some (.int l4), some (.int l5), none]) (st1 := []) (fun o kT kF => ?_) (fun h7 => ?_) (fun h7 => ?_)
    · refine j_icge (t := 145) (pc' := 71) rfl rfl rfl (fun h8 => ?_) (fun h8 => ?_)
      · exact kF h8
      · exact kT h8
    · refine j_aload_n (pc' := 72) rfl rfl rfl ?_
      refine j_gfr (pc' := 75) (x := 1) rfl rfl j_a0 rfl rfl ?_
      refine j_gfr (pc' := 78) (x := 5) rfl rfl j_a1 rfl rfl ?_
      refine j_iload (pc' := 80) rfl rfl rfl ?_
      refine j_iload (pc' := 82) rfl rfl rfl ?_
      refine j_callRv (pc' := 85) (ai := 33) (vs := [.ref 5, .int l4, .int l5]) (rest := []) rfl rfl (fun _ _ => rfl) (c_X3_exchange l4 l5 σ) (j_dd rfl hd) rfl (fun σ1 => ?_)
      refine j_aload_n (pc' := 86) rfl rfl rfl ?_
      refine j_gfr (pc' := 89) (x := 1) rfl rfl j_a0 rfl rfl ?_
      refine j_callPi (pc' := 92) (ai := 20) (vs := [.ref 1]) (rest := []) rfl rfl (fun _ _ => rfl) (c_X2_pathRound  σ1) (j_dd rfl hd) rfl (fun v2 => ?_)
      refine j_istore (pc' := 94) (L' := [some (.ref 0), some (.int l1), some (.int l2), some (.int l3), some (.int l4), some (.int l5), some (.int v2)]) rfl rfl rfl ?_
      refine j_aload_n (pc' := 95) rfl rfl rfl ?_
      refine j_gfr (pc' := 98) (x := 1) rfl rfl j_a0 rfl rfl ?_
      refine j_gfr (pc' := 101) (x := 5) rfl rfl j_a1 rfl rfl ?_
      refine j_iload (pc' := 103) rfl rfl rfl ?_
      refine j_iload (pc' := 105) rfl rfl rfl ?_
      refine j_callRv (pc' := 108) (ai := 33) (vs := [.ref 5, .int l4, .int l5]) (rest := []) rfl rfl (fun _ _ => rfl) (c_X3_exchange l4 l5 σ1) (j_dd rfl hd) rfl (fun σ3 => ?_)
      refine j_iload_n (pc' := 109) rfl rfl rfl ?_
      refine j_ql (Φl := (fun r Q => j_Tr true τ M_cX11_better d 139 [some (.ref 0), some (.int l1), some (.int r.1), some (.int r.2), some (.int l4), some (.int l5), none] [] σ3 Q)) ?_ (fun r8 => ?_)
      · refine j_twoT (pT := 112) (pF := 121) (L1 := [some (.ref 0), some (.int l1), some (.int l2), some (.int l3), some (.int l4), some (.int l5), some (.int v2)]) (st1 := []) (fun o kT kF => ?_) (fun h5 => ?_) (fun h5 => ?_)
        · refine j_ifne (t := 121) (pc' := 112) rfl rfl rfl (fun h6 => ?_) (fun h6 => ?_)
          · exact kF h6
          · exact kT h6
        · refine j_iload (pc' := 114) rfl rfl rfl ?_
          refine j_iload_n (pc' := 115) rfl rfl rfl ?_
          refine j_twoT (pT := 118) (pF := 139) (L1 := [some (.ref 0), some (.int l1), some (.int l2), some (.int l3), some (.int l4), some (.int l5), some (.int v2)]) (st1 := []) (fun o kT kF => ?_) (fun h1 => ?_) (fun h1 => ?_)
          · refine j_icle (t := 139) (pc' := 118) rfl rfl rfl (fun h2 => ?_) (fun h2 => ?_)
            · exact kF h2
            · exact kT h2
          · refine j_goto (t := 127) rfl rfl ?_
            refine j_iload (pc' := 129) rfl rfl rfl ?_
            refine j_istore_n (pc' := 130) (L' := [some (.ref 0), some (.int l1), some (.int l2), some (.int v2), some (.int l4), some (.int l5), some (.int v2)]) rfl rfl rfl ?_
            refine j_bipush (pc' := 132) (x := (100 : Int32)) rfl rfl rfl ?_
            refine j_iload (pc' := 134) rfl rfl rfl ?_
            refine j_imul (pc' := 135) rfl rfl ?_
            refine j_iload (pc' := 137) rfl rfl rfl ?_
            refine j_iadd (pc' := 138) rfl rfl ?_
            refine j_letiT (fun v6 => ?_)
            refine j_istore_n (pc' := 139) (L' := [some (.ref 0), some (.int l1), some (.int v6), some (.int v2), some (.int l4), some (.int l5), some (.int v2)]) rfl rfl rfl ?_
            refine j_wk [true, true, true, true, true, true, false] (L' := [some (.ref 0), some (.int l1), some (.int v6), some (.int v2), some (.int l4), some (.int l5), none]) rfl ?_
            exact j_end (fun _ h => h)
          · refine j_wk [true, true, true, true, true, true, false] (L' := [some (.ref 0), some (.int l1), some (.int l2), some (.int l3), some (.int l4), some (.int l5), none]) rfl ?_
            exact j_end (fun _ h => h)
        · refine j_iload (pc' := 123) rfl rfl rfl ?_
          refine j_iload_n (pc' := 124) rfl rfl rfl ?_
          refine j_twoT (pT := 127) (pF := 139) (L1 := [some (.ref 0), some (.int l1), some (.int l2), some (.int l3), some (.int l4), some (.int l5), some (.int v2)]) (st1 := []) (fun o kT kF => ?_) (fun h3 => ?_) (fun h3 => ?_)
          · refine j_icge (t := 139) (pc' := 127) rfl rfl rfl (fun h4 => ?_) (fun h4 => ?_)
            · exact kF h4
            · exact kT h4
          · refine j_iload (pc' := 129) rfl rfl rfl ?_
            refine j_istore_n (pc' := 130) (L' := [some (.ref 0), some (.int l1), some (.int l2), some (.int v2), some (.int l4), some (.int l5), some (.int v2)]) rfl rfl rfl ?_
            refine j_bipush (pc' := 132) (x := (100 : Int32)) rfl rfl rfl ?_
            refine j_iload (pc' := 134) rfl rfl rfl ?_
            refine j_imul (pc' := 135) rfl rfl ?_
            refine j_iload (pc' := 137) rfl rfl rfl ?_
            refine j_iadd (pc' := 138) rfl rfl ?_
            refine j_letiT (fun v7 => ?_)
            refine j_istore_n (pc' := 139) (L' := [some (.ref 0), some (.int l1), some (.int v7), some (.int v2), some (.int l4), some (.int l5), some (.int v2)]) rfl rfl rfl ?_
            refine j_wk [true, true, true, true, true, true, false] (L' := [some (.ref 0), some (.int l1), some (.int v7), some (.int v2), some (.int l4), some (.int l5), none]) rfl ?_
            exact j_end (fun _ h => h)
          · refine j_wk [true, true, true, true, true, true, false] (L' := [some (.ref 0), some (.int l1), some (.int l2), some (.int l3), some (.int l4), some (.int l5), none]) rfl ?_
            exact j_end (fun _ h => h)
      show j_J true τ M_cX11_better d 139 [some (.ref 0), some (.int l1), some (.int (r8.1)), some (.int (r8.2)), some (.int l4), some (.int l5), none] [] σ3 _ _
      refine j_iincx (pc' := 142) (y := (1 : Int32)) (L' := [some (.ref 0), some (.int l1), some (.int (r8.1)), some (.int (r8.2)), some (.int l4), some (.int (l5 + (1 : Int32))), none]) rfl rfl rfl rfl rfl ?_
      refine j_goto (t := 56) rfl rfl ?_
      exact ih (r8.1) (r8.2) (l5 + (1 : Int32)) σ3
    · refine j_wk [true, true, true, true, true, false, true] (L' := [some (.ref 0), some (.int l1), some (.int l2), some (.int l3), some (.int l4), none, none]) rfl ?_
      exact j_end (fun _ h => h)

theorem l_X11_better_35 {d : Nat} (hd : 3 ≤ d) (τ : j_G) (l1 : Int32) : ∀ (n : Nat) (l2 : Int32) (l3 : Int32) (l4 : Int32) (σ : j_G), j_J true τ M_cX11_better d 35 [some (.ref 0), some (.int l1), some (.int l2), some (.int l3), some (.int l4), none, none] [] σ (p_X11_better_35 l1 n l2 l3 l4 σ) (fun r Q => j_Tr true τ M_cX11_better d 151 [none, none, some (.int r.1), none, none, none, none] [] r.2 Q) := by
  intro n
  induction n with
  | zero => intro l2 l3 l4 σ; exact j_none
  | succ n ih =>
    intro l2 l3 l4 σ
    unfold p_X11_better_35
    refine j_iload (pc' := 37) rfl rfl rfl ?_
    refine j_aload_n (pc' := 38) rfl rfl rfl ?_
    refine j_gfr (pc' := 41) (x := 1) rfl rfl j_a0 rfl rfl ?_
    refine j_gfr (pc' := 44) (x := 5) rfl rfl j_a1 rfl rfl ?_
    refine j_gfi (pc' := 47) rfl rfl j_a5 rfl ?_
    refine j_two (pT := 50) (pF := 151) (L1 := [some (.ref 0), some (.int l1), some (.int l2), some (.int l3), some (.int l4), none, none]) (st1 := []) (fun o kT kF => ?_) (fun h1 => ?_) (fun h1 => ?_)
    · refine j_icge (t := 151) (pc' := 50) rfl rfl rfl (fun h2 => ?_) (fun h2 => ?_)
      · exact kF h2
      · exact kT h2
    · refine j_iload (pc' := 52) rfl rfl rfl ?_
      refine j_iconst (pc' := 53) (x := (1 : Int32)) rfl rfl rfl ?_
      refine j_iadd (pc' := 54) rfl rfl ?_
      refine j_leti (fun v1 => ?_)
      refine j_istore (pc' := 56) (L' := [some (.ref 0), some (.int l1), some (.int l2), some (.int l3), some (.int l4), some (.int v1), none]) rfl rfl rfl ?_
      refine j_q3 (l_X11_better_56 hd τ l1 l4 j_F l2 l3 v1 σ) (fun v2 v3 σ4 => ?_)
      show j_J true τ M_cX11_better d 145 [some (.ref 0), some (.int l1), some (.int v2), some (.int v3), some (.int l4), none, none] [] σ4 _ _
      refine j_iincx (pc' := 148) (y := (1 : Int32)) (L' := [some (.ref 0), some (.int l1), some (.int v2), some (.int v3), some (.int (l4 + (1 : Int32))), none, none]) rfl rfl rfl rfl rfl ?_
      refine j_goto (t := 35) rfl rfl ?_
      exact ih v2 v3 (l4 + (1 : Int32)) σ4
    · refine j_wk [false, false, true, false, false, true, true] (L' := [none, none, some (.int l2), none, none, none, none]) rfl ?_
      exact j_end (fun _ h => h)

theorem c_X11_better (l1 : Int32) (σ : j_G) : j_K true 3 168 [.ref 0, .int l1] σ (f_X11_better l1 σ) j_Ri := by
  refine j_mkK (M := M_cX11_better) (L := [some (.ref 0), some (.int l1), none, none, none, none, none]) (m := 5) t_168 rfl (j_rcvO j_a0 rfl) rfl (fun d hd τ => ?_)
  unfold f_X11_better
  refine j_aload_n (pc' := 1) rfl rfl rfl ?_
  refine j_gfr (pc' := 4) (x := 1) rfl rfl j_a0 rfl rfl ?_
  refine j_callTi (pc' := 7) (ai := 11) (vs := [.ref 1]) (rest := []) rfl rfl (fun _ _ => rfl) (c_X2_isTold  σ) (j_dd rfl hd) rfl ?_
  refine j_two (pT := 19) (pF := 22) (L1 := [some (.ref 0), some (.int l1), none, none, none, none, none]) (st1 := []) (fun o kT kF => ?_) (fun h1 => ?_) (fun h1 => ?_)
  · refine j_ifeq (t := 19) (pc' := 10) rfl rfl rfl (fun h2 => ?_) (fun h2 => ?_)
    · exact kT (Or.inl h2)
    · refine j_iload_n (pc' := 11) rfl rfl rfl ?_
      refine j_iflt (t := 19) (pc' := 14) rfl rfl rfl (fun h3 => ?_) (fun h3 => ?_)
      · exact kT (Or.inr (Or.inl h3))
      · refine j_iload_n (pc' := 15) rfl rfl rfl ?_
        refine j_iconst (pc' := 16) (x := (1 : Int32)) rfl rfl rfl ?_
        refine j_icle (t := 22) (pc' := 19) rfl rfl rfl (fun h4 => ?_) (fun h4 => ?_)
        · exact kF (fun z => z.elim h2 (fun z => z.elim h3 (h4)))
        · exact kT (Or.inr (Or.inr (h4)))
  · refine j_bipush (pc' := 21) (x := (-2 : Int32)) rfl rfl rfl ?_
    exact j_ret rfl rfl rfl (fun _ h => h)
  · refine j_iconst (pc' := 23) (x := (-1 : Int32)) rfl rfl rfl ?_
    refine j_istore_n (pc' := 24) (L' := [some (.ref 0), some (.int l1), some (.int (-1 : Int32)), none, none, none, none]) rfl rfl rfl ?_
    refine j_aload_n (pc' := 25) rfl rfl rfl ?_
    refine j_gfr (pc' := 28) (x := 1) rfl rfl j_a0 rfl rfl ?_
    refine j_callPi (pc' := 31) (ai := 20) (vs := [.ref 1]) (rest := []) rfl rfl (fun _ _ => rfl) (c_X2_pathRound  σ) (j_dd rfl hd) rfl (fun v1 => ?_)
    refine j_istore_n (pc' := 32) (L' := [some (.ref 0), some (.int l1), some (.int (-1 : Int32)), some (.int v1), none, none, none]) rfl rfl rfl ?_
    refine j_iconst (pc' := 33) (x := (0 : Int32)) rfl rfl rfl ?_
    refine j_istore (pc' := 35) (L' := [some (.ref 0), some (.int l1), some (.int (-1 : Int32)), some (.int v1), some (.int (0 : Int32)), none, none]) rfl rfl rfl ?_
    refine j_q2 (l_X11_better_35 hd τ l1 j_F (-1 : Int32) v1 (0 : Int32) σ) (fun v2 σ3 => ?_)
    show j_J true τ M_cX11_better d 151 [none, none, some (.int v2), none, none, none, none] [] σ3 _ _
    refine j_iload_n (pc' := 152) rfl rfl rfl ?_
    exact j_ret rfl rfl rfl (fun _ h => h)

noncomputable def p_X12_trade_2 (l1 : Int32) (l2 : Int32) : Nat → Int32 → j_G → Option j_G
  | 0, _, _ => none
  | n + 1, l3, σ =>
    if l3 < (3 : Int32) then (j_b1 (f_X12_ofComing l1 l3 σ) fun v1 =>
    j_b1 (f_X12_ofComing l2 l3 σ) fun v2 =>
    j_ix (((24 : Int32) + ((3 : Int32) * l1)) + l3) 116 (
    j_lt (j_si σ 76 ((((24 : Int32) + ((3 : Int32) * l1)) + l3)).toNatClampNeg v2) fun σ3 =>
    j_ix (((24 : Int32) + ((3 : Int32) * l2)) + l3) 116 (
    j_lt (j_si σ3 76 ((((24 : Int32) + ((3 : Int32) * l2)) + l3)).toNatClampNeg v1) fun σ4 =>
    p_X12_trade_2 l1 l2 n (l3 + (1 : Int32)) σ4))) else (some σ)

noncomputable def f_X12_trade (l1 : Int32) (l2 : Int32) (σ : j_G) : Option j_G :=
  j_b1 (p_X12_trade_2 l1 l2 j_F (0 : Int32) σ) fun σ1 =>
  some σ1
theorem l_X12_trade_2 {d : Nat} (hd : 1 ≤ d) (τ : j_G) (l1 : Int32) (l2 : Int32) : ∀ (n : Nat) (l3 : Int32) (σ : j_G), j_J false τ M_cX12_trade d 2 [some (.ref 75), some (.int l1), some (.int l2), some (.int l3), none] [] σ (p_X12_trade_2 l1 l2 n l3 σ) (fun r Q => j_Tr false τ M_cX12_trade d 55 [none, none, none, none, none] [] r Q) := by
  intro n
  induction n with
  | zero => intro l3 σ; exact j_none
  | succ n ih =>
    intro l3 σ
    unfold p_X12_trade_2
    refine j_iload_n (pc' := 3) rfl rfl rfl ?_
    refine j_iconst (pc' := 4) (x := (3 : Int32)) rfl rfl rfl ?_
    refine j_two (pT := 7) (pF := 55) (L1 := [some (.ref 75), some (.int l1), some (.int l2), some (.int l3), none]) (st1 := []) (fun o kT kF => ?_) (fun h1 => ?_) (fun h1 => ?_)
    · refine j_icge (t := 55) (pc' := 7) rfl rfl rfl (fun h2 => ?_) (fun h2 => ?_)
      · exact kF h2
      · exact kT h2
    · refine j_aload_n (pc' := 8) rfl rfl rfl ?_
      refine j_iload_n (pc' := 9) rfl rfl rfl ?_
      refine j_iload_n (pc' := 10) rfl rfl rfl ?_
      refine j_callPi (pc' := 13) (ai := 206) (vs := [.ref 75, .int l1, .int l3]) (rest := []) rfl rfl (fun _ _ => rfl) (c_X12_ofComing l1 l3 σ) (j_dd rfl hd) rfl (fun v1 => ?_)
      refine j_istore (pc' := 15) (L' := [some (.ref 75), some (.int l1), some (.int l2), some (.int l3), some (.int v1)]) rfl rfl rfl ?_
      refine j_aload_n (pc' := 16) rfl rfl rfl ?_
      refine j_gfr (pc' := 19) (x := 76) rfl rfl j_a75 rfl rfl ?_
      refine j_bipush (pc' := 21) (x := (24 : Int32)) rfl rfl rfl ?_
      refine j_iconst (pc' := 22) (x := (3 : Int32)) rfl rfl rfl ?_
      refine j_iload_n (pc' := 23) rfl rfl rfl ?_
      refine j_imul (pc' := 24) rfl rfl ?_
      refine j_iadd (pc' := 25) rfl rfl ?_
      refine j_iload_n (pc' := 26) rfl rfl rfl ?_
      refine j_iadd (pc' := 27) rfl rfl ?_
      refine j_aload_n (pc' := 28) rfl rfl rfl ?_
      refine j_iload_n (pc' := 29) rfl rfl rfl ?_
      refine j_iload_n (pc' := 30) rfl rfl rfl ?_
      refine j_callPi (pc' := 33) (ai := 206) (vs := [.ref 75, .int l2, .int l3]) (rest := [.int (((24 : Int32) + ((3 : Int32) * l1)) + l3), .ref 76]) rfl rfl (fun _ _ => rfl) (c_X12_ofComing l2 l3 σ) (j_dd rfl hd) rfl (fun v2 => ?_)
      refine j_iast (pc' := 34) rfl rfl j_a76 (fun σ3 => ?_)
      refine j_aload_n (pc' := 35) rfl rfl rfl ?_
      refine j_gfr (pc' := 38) (x := 76) rfl rfl j_a75 rfl rfl ?_
      refine j_bipush (pc' := 40) (x := (24 : Int32)) rfl rfl rfl ?_
      refine j_iconst (pc' := 41) (x := (3 : Int32)) rfl rfl rfl ?_
      refine j_iload_n (pc' := 42) rfl rfl rfl ?_
      refine j_imul (pc' := 43) rfl rfl ?_
      refine j_iadd (pc' := 44) rfl rfl ?_
      refine j_iload_n (pc' := 45) rfl rfl rfl ?_
      refine j_iadd (pc' := 46) rfl rfl ?_
      refine j_iload (pc' := 48) rfl rfl rfl ?_
      refine j_iast (pc' := 49) rfl rfl j_a76 (fun σ4 => ?_)
      refine j_iincx (pc' := 52) (y := (1 : Int32)) (L' := [some (.ref 75), some (.int l1), some (.int l2), some (.int (l3 + (1 : Int32))), some (.int v1)]) rfl rfl rfl rfl rfl ?_
      refine j_goto (t := 2) rfl rfl ?_
      refine j_wk [true, true, true, true, false] (L' := [some (.ref 75), some (.int l1), some (.int l2), some (.int (l3 + (1 : Int32))), none]) rfl ?_
      exact ih (l3 + (1 : Int32)) σ4
    · refine j_wk [false, false, false, false, true] (L' := [none, none, none, none, none]) rfl ?_
      exact j_end (fun _ h => h)

theorem c_X12_trade (l1 : Int32) (l2 : Int32) (σ : j_G) : j_K false 1 334 [.ref 75, .int l1, .int l2] σ (f_X12_trade l1 l2 σ) j_Rv := by
  refine j_mkK (M := M_cX12_trade) (L := [some (.ref 75), some (.int l1), some (.int l2), none, none]) (m := 2) t_334 rfl (j_rcvO j_a75 rfl) rfl (fun d hd τ => ?_)
  unfold f_X12_trade
  refine j_iconst (pc' := 1) (x := (0 : Int32)) rfl rfl rfl ?_
  refine j_istore_n (pc' := 2) (L' := [some (.ref 75), some (.int l1), some (.int l2), some (.int (0 : Int32)), none]) rfl rfl rfl ?_
  refine j_q1 (l_X12_trade_2 hd τ l1 l2 j_F (0 : Int32) σ) (fun σ1 => ?_)
  show j_J false τ M_cX12_trade d 55 [none, none, none, none, none] [] σ1 _ _
  exact j_ret rfl rfl rfl (fun _ h => h)

noncomputable def p_X12_better_47 (l1 : Int32) (l4 : Int32) : Nat → Int32 → Int32 → Int32 → j_G → Option (Int32 × Int32 × j_G)
  | 0, _, _, _, _ => none
  | n + 1, l2, l3, l5, σ =>
    j_ix (5 : Int32) 116 (
    if l5 < (σ.1 76 ((5 : Int32)).toNatClampNeg) then (j_b1 (f_X12_trade l4 l5 σ) fun σ1 =>
    j_b1 (f_X12_pathOf σ1) fun v2 =>
    j_b1 (f_X12_trade l4 l5 σ1) fun σ3 =>
    j_lt (if l1 = 0 then (if ¬ l3 < v2 then ((l2, l3)) else (j_lt (((100 : Int32) * l4) + l5) fun v6 =>
    (v6, v2))) else (if ¬ v2 < l3 then ((l2, l3)) else (j_lt (((100 : Int32) * l4) + l5) fun v7 =>
    (v7, v2)))) fun r8 =>
    p_X12_better_47 l1 l4 n (r8.1) (r8.2) (l5 + (1 : Int32)) σ3) else (some (l2, l3, σ)))

noncomputable def p_X12_better_30 (l1 : Int32) : Nat → Int32 → Int32 → Int32 → j_G → Option (Int32 × j_G)
  | 0, _, _, _, _ => none
  | n + 1, l2, l3, l4, σ =>
    j_ix (5 : Int32) 116 (
    if l4 < (σ.1 76 ((5 : Int32)).toNatClampNeg) then (j_lt (l4 + (1 : Int32)) fun v1 =>
    j_b3 (p_X12_better_47 l1 l4 j_F l2 l3 v1 σ) fun v2 v3 σ4 =>
    p_X12_better_30 l1 n v2 v3 (l4 + (1 : Int32)) σ4) else (some (l2, σ)))

noncomputable def f_X12_better (l1 : Int32) (σ : j_G) : Option (Int32 × j_G) :=
  j_b1 (f_X12_isBoard σ) fun v1 =>
  if (v1 = 0) ∨ ((f_X12_in (l1).toInt64 (0 : Int64) (1 : Int64)) = 0) then (some ((-2 : Int32), σ)) else (j_b1 (f_X12_pathOf σ) fun v2 =>
  j_b2 (p_X12_better_30 l1 j_F (-1 : Int32) v2 (0 : Int32) σ) fun v3 σ4 =>
  some (v3, σ4))
theorem l_X12_better_47 {d : Nat} (hd : 3 ≤ d) (τ : j_G) (l1 : Int32) (l4 : Int32) : ∀ (n : Nat) (l2 : Int32) (l3 : Int32) (l5 : Int32) (σ : j_G), j_J false τ M_cX12_better d 47 [some (.ref 75), some (.int l1), some (.int l2), some (.int l3), some (.int l4), some (.int l5), none] [] σ (p_X12_better_47 l1 l4 n l2 l3 l5 σ) (fun r Q => j_Tr false τ M_cX12_better d 120 [some (.ref 75), some (.int l1), some (.int r.1), some (.int r.2.1), some (.int l4), none, none] [] r.2.2 Q) := by
  intro n
  induction n with
  | zero => intro l2 l3 l5 σ; exact j_none
  | succ n ih =>
    intro l2 l3 l5 σ
    unfold p_X12_better_47
    refine j_iload (pc' := 49) rfl rfl rfl ?_
    refine j_aload_n (pc' := 50) rfl rfl rfl ?_
    refine j_gfr (pc' := 53) (x := 76) rfl rfl j_a75 rfl rfl ?_
    refine j_iconst (pc' := 54) (x := (5 : Int32)) rfl rfl rfl ?_
    refine j_iald (pc' := 55) rfl rfl j_a76 ?_
    refine j_two (pT := 58) (pF := 120) (L1 := [some (.ref 75), some (.int l1), some (.int l2), some (.int l3), some (.int l4), some (.int l5), none]) (st1 := []) (fun o kT kF => ?_) (fun h7 => ?_) (fun h7 => ?_)
    · refine j_icge (t := 120) (pc' := 58) rfl rfl rfl (fun h8 => ?_) (fun h8 => ?_)
      · exact kF h8
      · exact kT h8
    · refine j_aload_n (pc' := 59) rfl rfl rfl ?_
      refine j_iload (pc' := 61) rfl rfl rfl ?_
      refine j_iload (pc' := 63) rfl rfl rfl ?_
      refine j_callRv (pc' := 66) (ai := 334) (vs := [.ref 75, .int l4, .int l5]) (rest := []) rfl rfl (fun _ _ => rfl) (c_X12_trade l4 l5 σ) (j_dd rfl hd) rfl (fun σ1 => ?_)
      refine j_aload_n (pc' := 67) rfl rfl rfl ?_
      refine j_callPi (pc' := 70) (ai := 332) (vs := [.ref 75]) (rest := []) rfl rfl (fun _ _ => rfl) (c_X12_pathOf  σ1) (j_dd rfl hd) rfl (fun v2 => ?_)
      refine j_istore (pc' := 72) (L' := [some (.ref 75), some (.int l1), some (.int l2), some (.int l3), some (.int l4), some (.int l5), some (.int v2)]) rfl rfl rfl ?_
      refine j_aload_n (pc' := 73) rfl rfl rfl ?_
      refine j_iload (pc' := 75) rfl rfl rfl ?_
      refine j_iload (pc' := 77) rfl rfl rfl ?_
      refine j_callRv (pc' := 80) (ai := 334) (vs := [.ref 75, .int l4, .int l5]) (rest := []) rfl rfl (fun _ _ => rfl) (c_X12_trade l4 l5 σ1) (j_dd rfl hd) rfl (fun σ3 => ?_)
      refine j_iload_n (pc' := 81) rfl rfl rfl ?_
      refine j_ql (Φl := (fun r Q => j_Tr false τ M_cX12_better d 114 [some (.ref 75), some (.int l1), some (.int r.1), some (.int r.2), some (.int l4), some (.int l5), none] [] σ3 Q)) ?_ (fun r8 => ?_)
      · refine j_twoT (pT := 84) (pF := 93) (L1 := [some (.ref 75), some (.int l1), some (.int l2), some (.int l3), some (.int l4), some (.int l5), some (.int v2)]) (st1 := []) (fun o kT kF => ?_) (fun h5 => ?_) (fun h5 => ?_)
        · refine j_ifne (t := 93) (pc' := 84) rfl rfl rfl (fun h6 => ?_) (fun h6 => ?_)
          · exact kF h6
          · exact kT h6
        · refine j_iload (pc' := 86) rfl rfl rfl ?_
          refine j_iload_n (pc' := 87) rfl rfl rfl ?_
          refine j_twoT (pT := 90) (pF := 102) (L1 := [some (.ref 75), some (.int l1), some (.int l2), some (.int l3), some (.int l4), some (.int l5), some (.int v2)]) (st1 := []) (fun o kT kF => ?_) (fun h1 => ?_) (fun h1 => ?_)
          · refine j_icgt (t := 102) (pc' := 90) rfl rfl rfl (fun h2 => ?_) (fun h2 => ?_)
            · exact kF (fun z => z h2)
            · exact kT h2
          · refine j_goto (t := 114) rfl rfl ?_
            refine j_wk [true, true, true, true, true, true, false] (L' := [some (.ref 75), some (.int l1), some (.int l2), some (.int l3), some (.int l4), some (.int l5), none]) rfl ?_
            exact j_end (fun _ h => h)
          · refine j_iload (pc' := 104) rfl rfl rfl ?_
            refine j_istore_n (pc' := 105) (L' := [some (.ref 75), some (.int l1), some (.int l2), some (.int v2), some (.int l4), some (.int l5), some (.int v2)]) rfl rfl rfl ?_
            refine j_bipush (pc' := 107) (x := (100 : Int32)) rfl rfl rfl ?_
            refine j_iload (pc' := 109) rfl rfl rfl ?_
            refine j_imul (pc' := 110) rfl rfl ?_
            refine j_iload (pc' := 112) rfl rfl rfl ?_
            refine j_iadd (pc' := 113) rfl rfl ?_
            refine j_letiT (fun v6 => ?_)
            refine j_istore_n (pc' := 114) (L' := [some (.ref 75), some (.int l1), some (.int v6), some (.int v2), some (.int l4), some (.int l5), some (.int v2)]) rfl rfl rfl ?_
            refine j_wk [true, true, true, true, true, true, false] (L' := [some (.ref 75), some (.int l1), some (.int v6), some (.int v2), some (.int l4), some (.int l5), none]) rfl ?_
            exact j_end (fun _ h => h)
        · refine j_iload (pc' := 95) rfl rfl rfl ?_
          refine j_iload_n (pc' := 96) rfl rfl rfl ?_
          refine j_twoT (pT := 99) (pF := 102) (L1 := [some (.ref 75), some (.int l1), some (.int l2), some (.int l3), some (.int l4), some (.int l5), some (.int v2)]) (st1 := []) (fun o kT kF => ?_) (fun h3 => ?_) (fun h3 => ?_)
          · refine j_iclt (t := 102) (pc' := 99) rfl rfl rfl (fun h4 => ?_) (fun h4 => ?_)
            · exact kF (fun z => z h4)
            · exact kT h4
          · refine j_goto (t := 114) rfl rfl ?_
            refine j_wk [true, true, true, true, true, true, false] (L' := [some (.ref 75), some (.int l1), some (.int l2), some (.int l3), some (.int l4), some (.int l5), none]) rfl ?_
            exact j_end (fun _ h => h)
          · refine j_iload (pc' := 104) rfl rfl rfl ?_
            refine j_istore_n (pc' := 105) (L' := [some (.ref 75), some (.int l1), some (.int l2), some (.int v2), some (.int l4), some (.int l5), some (.int v2)]) rfl rfl rfl ?_
            refine j_bipush (pc' := 107) (x := (100 : Int32)) rfl rfl rfl ?_
            refine j_iload (pc' := 109) rfl rfl rfl ?_
            refine j_imul (pc' := 110) rfl rfl ?_
            refine j_iload (pc' := 112) rfl rfl rfl ?_
            refine j_iadd (pc' := 113) rfl rfl ?_
            refine j_letiT (fun v7 => ?_)
            refine j_istore_n (pc' := 114) (L' := [some (.ref 75), some (.int l1), some (.int v7), some (.int v2), some (.int l4), some (.int l5), some (.int v2)]) rfl rfl rfl ?_
            refine j_wk [true, true, true, true, true, true, false] (L' := [some (.ref 75), some (.int l1), some (.int v7), some (.int v2), some (.int l4), some (.int l5), none]) rfl ?_
            exact j_end (fun _ h => h)
      show j_J false τ M_cX12_better d 114 [some (.ref 75), some (.int l1), some (.int (r8.1)), some (.int (r8.2)), some (.int l4), some (.int l5), none] [] σ3 _ _
      refine j_iincx (pc' := 117) (y := (1 : Int32)) (L' := [some (.ref 75), some (.int l1), some (.int (r8.1)), some (.int (r8.2)), some (.int l4), some (.int (l5 + (1 : Int32))), none]) rfl rfl rfl rfl rfl ?_
      refine j_goto (t := 47) rfl rfl ?_
      exact ih (r8.1) (r8.2) (l5 + (1 : Int32)) σ3
    · refine j_wk [true, true, true, true, true, false, true] (L' := [some (.ref 75), some (.int l1), some (.int l2), some (.int l3), some (.int l4), none, none]) rfl ?_
      exact j_end (fun _ h => h)

theorem l_X12_better_30 {d : Nat} (hd : 3 ≤ d) (τ : j_G) (l1 : Int32) : ∀ (n : Nat) (l2 : Int32) (l3 : Int32) (l4 : Int32) (σ : j_G), j_J false τ M_cX12_better d 30 [some (.ref 75), some (.int l1), some (.int l2), some (.int l3), some (.int l4), none, none] [] σ (p_X12_better_30 l1 n l2 l3 l4 σ) (fun r Q => j_Tr false τ M_cX12_better d 126 [none, none, some (.int r.1), none, none, none, none] [] r.2 Q) := by
  intro n
  induction n with
  | zero => intro l2 l3 l4 σ; exact j_none
  | succ n ih =>
    intro l2 l3 l4 σ
    unfold p_X12_better_30
    refine j_iload (pc' := 32) rfl rfl rfl ?_
    refine j_aload_n (pc' := 33) rfl rfl rfl ?_
    refine j_gfr (pc' := 36) (x := 76) rfl rfl j_a75 rfl rfl ?_
    refine j_iconst (pc' := 37) (x := (5 : Int32)) rfl rfl rfl ?_
    refine j_iald (pc' := 38) rfl rfl j_a76 ?_
    refine j_two (pT := 41) (pF := 126) (L1 := [some (.ref 75), some (.int l1), some (.int l2), some (.int l3), some (.int l4), none, none]) (st1 := []) (fun o kT kF => ?_) (fun h1 => ?_) (fun h1 => ?_)
    · refine j_icge (t := 126) (pc' := 41) rfl rfl rfl (fun h2 => ?_) (fun h2 => ?_)
      · exact kF h2
      · exact kT h2
    · refine j_iload (pc' := 43) rfl rfl rfl ?_
      refine j_iconst (pc' := 44) (x := (1 : Int32)) rfl rfl rfl ?_
      refine j_iadd (pc' := 45) rfl rfl ?_
      refine j_leti (fun v1 => ?_)
      refine j_istore (pc' := 47) (L' := [some (.ref 75), some (.int l1), some (.int l2), some (.int l3), some (.int l4), some (.int v1), none]) rfl rfl rfl ?_
      refine j_q3 (l_X12_better_47 hd τ l1 l4 j_F l2 l3 v1 σ) (fun v2 v3 σ4 => ?_)
      show j_J false τ M_cX12_better d 120 [some (.ref 75), some (.int l1), some (.int v2), some (.int v3), some (.int l4), none, none] [] σ4 _ _
      refine j_iincx (pc' := 123) (y := (1 : Int32)) (L' := [some (.ref 75), some (.int l1), some (.int v2), some (.int v3), some (.int (l4 + (1 : Int32))), none, none]) rfl rfl rfl rfl rfl ?_
      refine j_goto (t := 30) rfl rfl ?_
      exact ih v2 v3 (l4 + (1 : Int32)) σ4
    · refine j_wk [false, false, true, false, false, true, true] (L' := [none, none, some (.int l2), none, none, none, none]) rfl ?_
      exact j_end (fun _ h => h)

theorem c_X12_better (l1 : Int32) (σ : j_G) : j_K false 3 335 [.ref 75, .int l1] σ (f_X12_better l1 σ) j_Ri := by
  refine j_mkK (M := M_cX12_better) (L := [some (.ref 75), some (.int l1), none, none, none, none, none]) (m := 5) t_335 rfl (j_rcvO j_a75 rfl) rfl (fun d hd τ => ?_)
  unfold f_X12_better
  refine j_aload_n (pc' := 1) rfl rfl rfl ?_
  refine j_callPi (pc' := 4) (ai := 199) (vs := [.ref 75]) (rest := []) rfl rfl (fun _ _ => rfl) (c_X12_isBoard  σ) (j_dd rfl hd) rfl (fun v1 => ?_)
  refine j_two (pT := 17) (pF := 20) (L1 := [some (.ref 75), some (.int l1), none, none, none, none, none]) (st1 := []) (fun o kT kF => ?_) (fun h1 => ?_) (fun h1 => ?_)
  · refine j_ifeq (t := 17) (pc' := 7) rfl rfl rfl (fun h2 => ?_) (fun h2 => ?_)
    · exact kT (Or.inl h2)
    · refine j_iload_n (pc' := 8) rfl rfl rfl ?_
      refine j_i2l (pc' := 9) rfl rfl ?_
      refine j_lconst (pc' := 10) (x := (0 : Int64)) rfl rfl rfl ?_
      refine j_lconst (pc' := 11) (x := (1 : Int64)) rfl rfl rfl ?_
      refine j_callTi (pc' := 14) (ai := 196) (vs := [.long (l1).toInt64, .long (0 : Int64), .long (1 : Int64)]) (rest := []) rfl rfl (fun _ _ => rfl) (c_X12_in (l1).toInt64 (0 : Int64) (1 : Int64) σ) (j_dd rfl hd) rfl ?_
      refine j_ifne (t := 20) (pc' := 17) rfl rfl rfl (fun h3 => ?_) (fun h3 => ?_)
      · exact kF (fun z => z.elim h2 (h3))
      · exact kT (Or.inr (h3))
  · refine j_bipush (pc' := 19) (x := (-2 : Int32)) rfl rfl rfl ?_
    exact j_ret rfl rfl rfl (fun _ h => h)
  · refine j_iconst (pc' := 21) (x := (-1 : Int32)) rfl rfl rfl ?_
    refine j_istore_n (pc' := 22) (L' := [some (.ref 75), some (.int l1), some (.int (-1 : Int32)), none, none, none, none]) rfl rfl rfl ?_
    refine j_aload_n (pc' := 23) rfl rfl rfl ?_
    refine j_callPi (pc' := 26) (ai := 332) (vs := [.ref 75]) (rest := []) rfl rfl (fun _ _ => rfl) (c_X12_pathOf  σ) (j_dd rfl hd) rfl (fun v2 => ?_)
    refine j_istore_n (pc' := 27) (L' := [some (.ref 75), some (.int l1), some (.int (-1 : Int32)), some (.int v2), none, none, none]) rfl rfl rfl ?_
    refine j_iconst (pc' := 28) (x := (0 : Int32)) rfl rfl rfl ?_
    refine j_istore (pc' := 30) (L' := [some (.ref 75), some (.int l1), some (.int (-1 : Int32)), some (.int v2), some (.int (0 : Int32)), none, none]) rfl rfl rfl ?_
    refine j_q2 (l_X12_better_30 hd τ l1 j_F (-1 : Int32) v2 (0 : Int32) σ) (fun v3 σ4 => ?_)
    show j_J false τ M_cX12_better d 126 [none, none, some (.int v3), none, none, none, none] [] σ4 _ _
    refine j_iload_n (pc' := 127) rfl rfl rfl ?_
    exact j_ret rfl rfl rfl (fun _ h => h)

noncomputable def f_X11_swap (l1 : Int32) (l2 : Int32) (σ : j_G) : Option (Int32 × j_G) :=
  if ((f_X3_has l1 σ) = 0) ∨ ((f_X3_has l2 σ) = 0) then (some ((-2 : Int32), σ)) else (j_b1 (f_X3_exchange l1 l2 σ) fun σ1 =>
  some ((0 : Int32), σ1))
theorem c_X11_swap (l1 : Int32) (l2 : Int32) (σ : j_G) : j_K true 2 169 [.ref 0, .int l1, .int l2] σ (f_X11_swap l1 l2 σ) j_Ri := by
  refine j_mkK (M := M_cX11_swap) (L := [some (.ref 0), some (.int l1), some (.int l2)]) (m := 0) t_169 rfl (j_rcvO j_a0 rfl) rfl (fun d hd τ => ?_)
  unfold f_X11_swap
  refine j_aload_n (pc' := 1) rfl rfl rfl ?_
  refine j_gfr (pc' := 4) (x := 1) rfl rfl j_a0 rfl rfl ?_
  refine j_gfr (pc' := 7) (x := 5) rfl rfl j_a1 rfl rfl ?_
  refine j_iload_n (pc' := 8) rfl rfl rfl ?_
  refine j_callTi (pc' := 11) (ai := 31) (vs := [.ref 5, .int l1]) (rest := []) rfl rfl (fun _ _ => rfl) (c_X3_has l1 σ) (j_dd rfl hd) rfl ?_
  refine j_two (pT := 28) (pF := 31) (L1 := [some (.ref 0), some (.int l1), some (.int l2)]) (st1 := []) (fun o kT kF => ?_) (fun h1 => ?_) (fun h1 => ?_)
  · refine j_ifeq (t := 28) (pc' := 14) rfl rfl rfl (fun h2 => ?_) (fun h2 => ?_)
    · exact kT (Or.inl h2)
    · refine j_aload_n (pc' := 15) rfl rfl rfl ?_
      refine j_gfr (pc' := 18) (x := 1) rfl rfl j_a0 rfl rfl ?_
      refine j_gfr (pc' := 21) (x := 5) rfl rfl j_a1 rfl rfl ?_
      refine j_iload_n (pc' := 22) rfl rfl rfl ?_
      refine j_callTi (pc' := 25) (ai := 31) (vs := [.ref 5, .int l2]) (rest := []) rfl rfl (fun _ _ => rfl) (c_X3_has l2 σ) (j_dd rfl hd) rfl ?_
      refine j_ifne (t := 31) (pc' := 28) rfl rfl rfl (fun h3 => ?_) (fun h3 => ?_)
      · exact kF (fun z => z.elim h2 (h3))
      · exact kT (Or.inr (h3))
  · refine j_bipush (pc' := 30) (x := (-2 : Int32)) rfl rfl rfl ?_
    exact j_ret rfl rfl rfl (fun _ h => h)
  · refine j_aload_n (pc' := 32) rfl rfl rfl ?_
    refine j_gfr (pc' := 35) (x := 1) rfl rfl j_a0 rfl rfl ?_
    refine j_gfr (pc' := 38) (x := 5) rfl rfl j_a1 rfl rfl ?_
    refine j_iload_n (pc' := 39) rfl rfl rfl ?_
    refine j_iload_n (pc' := 40) rfl rfl rfl ?_
    refine j_callRv (pc' := 43) (ai := 33) (vs := [.ref 5, .int l1, .int l2]) (rest := []) rfl rfl (fun _ _ => rfl) (c_X3_exchange l1 l2 σ) (j_dd rfl hd) rfl (fun σ1 => ?_)
    refine j_iconst (pc' := 44) (x := (0 : Int32)) rfl rfl rfl ?_
    exact j_ret rfl rfl rfl (fun _ h => h)

noncomputable def f_X12_swap (l1 : Int32) (l2 : Int32) (σ : j_G) : Option (Int32 × j_G) :=
  j_b1 (f_X12_isComing l1 σ) fun v1 =>
  if ¬ v1 = 0 then (j_b1 (f_X12_isComing l2 σ) fun v2 =>
  if v2 = 0 then (some ((-2 : Int32), σ)) else (j_b1 (f_X12_trade l1 l2 σ) fun σ3 =>
  some ((0 : Int32), σ3))) else (some ((-2 : Int32), σ))
theorem c_X12_swap (l1 : Int32) (l2 : Int32) (σ : j_G) : j_K false 2 336 [.ref 75, .int l1, .int l2] σ (f_X12_swap l1 l2 σ) j_Ri := by
  refine j_mkK (M := M_cX12_swap) (L := [some (.ref 75), some (.int l1), some (.int l2)]) (m := 0) t_336 rfl (j_rcvO j_a75 rfl) rfl (fun d hd τ => ?_)
  unfold f_X12_swap
  refine j_aload_n (pc' := 1) rfl rfl rfl ?_
  refine j_iload_n (pc' := 2) rfl rfl rfl ?_
  refine j_callPi (pc' := 5) (ai := 204) (vs := [.ref 75, .int l1]) (rest := []) rfl rfl (fun _ _ => rfl) (c_X12_isComing l1 σ) (j_dd rfl hd) rfl (fun v1 => ?_)
  refine j_two (pT := 8) (pF := 16) (L1 := [some (.ref 75), some (.int l1), some (.int l2)]) (st1 := []) (fun o kT kF => ?_) (fun h3 => ?_) (fun h3 => ?_)
  · refine j_ifeq (t := 16) (pc' := 8) rfl rfl rfl (fun h4 => ?_) (fun h4 => ?_)
    · exact kF (fun z => z h4)
    · exact kT h4
  · refine j_aload_n (pc' := 9) rfl rfl rfl ?_
    refine j_iload_n (pc' := 10) rfl rfl rfl ?_
    refine j_callPi (pc' := 13) (ai := 204) (vs := [.ref 75, .int l2]) (rest := []) rfl rfl (fun _ _ => rfl) (c_X12_isComing l2 σ) (j_dd rfl hd) rfl (fun v2 => ?_)
    refine j_two (pT := 16) (pF := 19) (L1 := [some (.ref 75), some (.int l1), some (.int l2)]) (st1 := []) (fun o kT kF => ?_) (fun h1 => ?_) (fun h1 => ?_)
    · refine j_ifne (t := 19) (pc' := 16) rfl rfl rfl (fun h2 => ?_) (fun h2 => ?_)
      · exact kF h2
      · exact kT h2
    · refine j_bipush (pc' := 18) (x := (-2 : Int32)) rfl rfl rfl ?_
      exact j_ret rfl rfl rfl (fun _ h => h)
    · refine j_aload_n (pc' := 20) rfl rfl rfl ?_
      refine j_iload_n (pc' := 21) rfl rfl rfl ?_
      refine j_iload_n (pc' := 22) rfl rfl rfl ?_
      refine j_callRv (pc' := 25) (ai := 334) (vs := [.ref 75, .int l1, .int l2]) (rest := []) rfl rfl (fun _ _ => rfl) (c_X12_trade l1 l2 σ) (j_dd rfl hd) rfl (fun σ3 => ?_)
      refine j_iconst (pc' := 26) (x := (0 : Int32)) rfl rfl rfl ?_
      exact j_ret rfl rfl rfl (fun _ h => h)
  · refine j_bipush (pc' := 18) (x := (-2 : Int32)) rfl rfl rfl ?_
    exact j_ret rfl rfl rfl (fun _ h => h)

noncomputable def f_X11_paint (l1 : Int32) (l2 : Int32) (σ : j_G) : Option (Int32 × j_G) :=
  if (¬ (f_X3_has l1 σ) = 0) ∧ ((¬ l2 < 0) ∧ (¬ (1 : Int32) < l2)) then (j_ix l1 24 (
  if ¬ (σ.1 7 (l1).toNatClampNeg) = (-1 : Int32) then (some ((-2 : Int32), σ)) else (j_ix l1 24 (
  j_lt (σ.1 8 (l1).toNatClampNeg) fun v1 =>
  j_ix l1 24 (
  j_lt (j_si σ 8 (l1).toNatClampNeg l2) fun σ2 =>
  some (v1, σ2)))))) else (some ((-2 : Int32), σ))
theorem c_X11_paint (l1 : Int32) (l2 : Int32) (σ : j_G) : j_K true 1 170 [.ref 0, .int l1, .int l2] σ (f_X11_paint l1 l2 σ) j_Ri := by
  refine j_mkK (M := M_cX11_paint) (L := [some (.ref 0), some (.int l1), some (.int l2), none]) (m := 1) t_170 rfl (j_rcvO j_a0 rfl) rfl (fun d hd τ => ?_)
  unfold f_X11_paint
  refine j_aload_n (pc' := 1) rfl rfl rfl ?_
  refine j_gfr (pc' := 4) (x := 1) rfl rfl j_a0 rfl rfl ?_
  refine j_gfr (pc' := 7) (x := 5) rfl rfl j_a1 rfl rfl ?_
  refine j_iload_n (pc' := 8) rfl rfl rfl ?_
  refine j_callTi (pc' := 11) (ai := 31) (vs := [.ref 5, .int l1]) (rest := []) rfl rfl (fun _ _ => rfl) (c_X3_has l1 σ) (j_dd rfl hd) rfl ?_
  refine j_two (pT := 23) (pF := 39) (L1 := [some (.ref 0), some (.int l1), some (.int l2), none]) (st1 := []) (fun o kT kF => ?_) (fun h3 => ?_) (fun h3 => ?_)
  · refine j_ifeq (t := 39) (pc' := 14) rfl rfl rfl (fun h4 => ?_) (fun h4 => ?_)
    · exact kF (fun z => z.1 h4)
    · refine j_iload_n (pc' := 15) rfl rfl rfl ?_
      refine j_iflt (t := 39) (pc' := 18) rfl rfl rfl (fun h5 => ?_) (fun h5 => ?_)
      · exact kF (fun z => (fun z => z.1 h5) z.2)
      · refine j_iload_n (pc' := 19) rfl rfl rfl ?_
        refine j_iconst (pc' := 20) (x := (1 : Int32)) rfl rfl rfl ?_
        refine j_icgt (t := 39) (pc' := 23) rfl rfl rfl (fun h6 => ?_) (fun h6 => ?_)
        · exact kF (fun z => (fun z => (fun z => z h6) z.2) z.2)
        · exact kT (⟨h4, ⟨h5, h6⟩⟩)
  · refine j_aload_n (pc' := 24) rfl rfl rfl ?_
    refine j_gfr (pc' := 27) (x := 1) rfl rfl j_a0 rfl rfl ?_
    refine j_gfr (pc' := 30) (x := 5) rfl rfl j_a1 rfl rfl ?_
    refine j_gfr (pc' := 33) (x := 7) rfl rfl j_a5 rfl rfl ?_
    refine j_iload_n (pc' := 34) rfl rfl rfl ?_
    refine j_iald (pc' := 35) rfl rfl j_a7 ?_
    refine j_iconst (pc' := 36) (x := (-1 : Int32)) rfl rfl rfl ?_
    refine j_two (pT := 39) (pF := 42) (L1 := [some (.ref 0), some (.int l1), some (.int l2), none]) (st1 := []) (fun o kT kF => ?_) (fun h1 => ?_) (fun h1 => ?_)
    · refine j_iceq (t := 42) (pc' := 39) rfl rfl rfl (fun h2 => ?_) (fun h2 => ?_)
      · exact kF (fun z => z h2)
      · exact kT h2
    · refine j_bipush (pc' := 41) (x := (-2 : Int32)) rfl rfl rfl ?_
      exact j_ret rfl rfl rfl (fun _ h => h)
    · refine j_aload_n (pc' := 43) rfl rfl rfl ?_
      refine j_gfr (pc' := 46) (x := 1) rfl rfl j_a0 rfl rfl ?_
      refine j_gfr (pc' := 49) (x := 5) rfl rfl j_a1 rfl rfl ?_
      refine j_gfr (pc' := 52) (x := 8) rfl rfl j_a5 rfl rfl ?_
      refine j_iload_n (pc' := 53) rfl rfl rfl ?_
      refine j_iald (pc' := 54) rfl rfl j_a8 ?_
      refine j_leti (fun v1 => ?_)
      refine j_istore_n (pc' := 55) (L' := [some (.ref 0), some (.int l1), some (.int l2), some (.int v1)]) rfl rfl rfl ?_
      refine j_aload_n (pc' := 56) rfl rfl rfl ?_
      refine j_gfr (pc' := 59) (x := 1) rfl rfl j_a0 rfl rfl ?_
      refine j_gfr (pc' := 62) (x := 5) rfl rfl j_a1 rfl rfl ?_
      refine j_gfr (pc' := 65) (x := 8) rfl rfl j_a5 rfl rfl ?_
      refine j_iload_n (pc' := 66) rfl rfl rfl ?_
      refine j_iload_n (pc' := 67) rfl rfl rfl ?_
      refine j_iast (pc' := 68) rfl rfl j_a8 (fun σ2 => ?_)
      refine j_iload_n (pc' := 69) rfl rfl rfl ?_
      exact j_ret rfl rfl rfl (fun _ h => h)
  · refine j_bipush (pc' := 41) (x := (-2 : Int32)) rfl rfl rfl ?_
    exact j_ret rfl rfl rfl (fun _ h => h)

noncomputable def f_X12_paint (l1 : Int32) (l2 : Int32) (σ : j_G) : Option (Int32 × j_G) :=
  j_b1 (f_X12_isComing l1 σ) fun v1 =>
  if (¬ v1 = 0) ∧ (¬ (f_X12_in (l2).toInt64 (0 : Int64) (1 : Int64)) = 0) then (j_b1 (f_X12_ofComing l1 (1 : Int32) σ) fun v2 =>
  if ¬ v2 = (-1 : Int32) then (some ((-2 : Int32), σ)) else (j_b1 (f_X12_ofComing l1 (2 : Int32) σ) fun v3 =>
  j_ix (((24 : Int32) + ((3 : Int32) * l1)) + (2 : Int32)) 116 (
  j_lt (j_si σ 76 ((((24 : Int32) + ((3 : Int32) * l1)) + (2 : Int32))).toNatClampNeg l2) fun σ4 =>
  some (v3, σ4)))) else (some ((-2 : Int32), σ))
theorem c_X12_paint (l1 : Int32) (l2 : Int32) (σ : j_G) : j_K false 2 337 [.ref 75, .int l1, .int l2] σ (f_X12_paint l1 l2 σ) j_Ri := by
  refine j_mkK (M := M_cX12_paint) (L := [some (.ref 75), some (.int l1), some (.int l2), none]) (m := 1) t_337 rfl (j_rcvO j_a75 rfl) rfl (fun d hd τ => ?_)
  unfold f_X12_paint
  refine j_aload_n (pc' := 1) rfl rfl rfl ?_
  refine j_iload_n (pc' := 2) rfl rfl rfl ?_
  refine j_callPi (pc' := 5) (ai := 204) (vs := [.ref 75, .int l1]) (rest := []) rfl rfl (fun _ _ => rfl) (c_X12_isComing l1 σ) (j_dd rfl hd) rfl (fun v1 => ?_)
  refine j_two (pT := 18) (pF := 28) (L1 := [some (.ref 75), some (.int l1), some (.int l2), none]) (st1 := []) (fun o kT kF => ?_) (fun h3 => ?_) (fun h3 => ?_)
  · refine j_ifeq (t := 28) (pc' := 8) rfl rfl rfl (fun h4 => ?_) (fun h4 => ?_)
    · exact kF (fun z => z.1 h4)
    · refine j_iload_n (pc' := 9) rfl rfl rfl ?_
      refine j_i2l (pc' := 10) rfl rfl ?_
      refine j_lconst (pc' := 11) (x := (0 : Int64)) rfl rfl rfl ?_
      refine j_lconst (pc' := 12) (x := (1 : Int64)) rfl rfl rfl ?_
      refine j_callTi (pc' := 15) (ai := 196) (vs := [.long (l2).toInt64, .long (0 : Int64), .long (1 : Int64)]) (rest := []) rfl rfl (fun _ _ => rfl) (c_X12_in (l2).toInt64 (0 : Int64) (1 : Int64) σ) (j_dd rfl hd) rfl ?_
      refine j_ifeq (t := 28) (pc' := 18) rfl rfl rfl (fun h5 => ?_) (fun h5 => ?_)
      · exact kF (fun z => (fun z => z h5) z.2)
      · exact kT (⟨h4, h5⟩)
  · refine j_aload_n (pc' := 19) rfl rfl rfl ?_
    refine j_iload_n (pc' := 20) rfl rfl rfl ?_
    refine j_iconst (pc' := 21) (x := (1 : Int32)) rfl rfl rfl ?_
    refine j_callPi (pc' := 24) (ai := 206) (vs := [.ref 75, .int l1, .int (1 : Int32)]) (rest := []) rfl rfl (fun _ _ => rfl) (c_X12_ofComing l1 (1 : Int32) σ) (j_dd rfl hd) rfl (fun v2 => ?_)
    refine j_iconst (pc' := 25) (x := (-1 : Int32)) rfl rfl rfl ?_
    refine j_two (pT := 28) (pF := 31) (L1 := [some (.ref 75), some (.int l1), some (.int l2), none]) (st1 := []) (fun o kT kF => ?_) (fun h1 => ?_) (fun h1 => ?_)
    · refine j_iceq (t := 31) (pc' := 28) rfl rfl rfl (fun h2 => ?_) (fun h2 => ?_)
      · exact kF (fun z => z h2)
      · exact kT h2
    · refine j_bipush (pc' := 30) (x := (-2 : Int32)) rfl rfl rfl ?_
      exact j_ret rfl rfl rfl (fun _ h => h)
    · refine j_aload_n (pc' := 32) rfl rfl rfl ?_
      refine j_iload_n (pc' := 33) rfl rfl rfl ?_
      refine j_iconst (pc' := 34) (x := (2 : Int32)) rfl rfl rfl ?_
      refine j_callPi (pc' := 37) (ai := 206) (vs := [.ref 75, .int l1, .int (2 : Int32)]) (rest := []) rfl rfl (fun _ _ => rfl) (c_X12_ofComing l1 (2 : Int32) σ) (j_dd rfl hd) rfl (fun v3 => ?_)
      refine j_istore_n (pc' := 38) (L' := [some (.ref 75), some (.int l1), some (.int l2), some (.int v3)]) rfl rfl rfl ?_
      refine j_aload_n (pc' := 39) rfl rfl rfl ?_
      refine j_gfr (pc' := 42) (x := 76) rfl rfl j_a75 rfl rfl ?_
      refine j_bipush (pc' := 44) (x := (24 : Int32)) rfl rfl rfl ?_
      refine j_iconst (pc' := 45) (x := (3 : Int32)) rfl rfl rfl ?_
      refine j_iload_n (pc' := 46) rfl rfl rfl ?_
      refine j_imul (pc' := 47) rfl rfl ?_
      refine j_iadd (pc' := 48) rfl rfl ?_
      refine j_iconst (pc' := 49) (x := (2 : Int32)) rfl rfl rfl ?_
      refine j_iadd (pc' := 50) rfl rfl ?_
      refine j_iload_n (pc' := 51) rfl rfl rfl ?_
      refine j_iast (pc' := 52) rfl rfl j_a76 (fun σ4 => ?_)
      refine j_iload_n (pc' := 53) rfl rfl rfl ?_
      exact j_ret rfl rfl rfl (fun _ h => h)
  · refine j_bipush (pc' := 30) (x := (-2 : Int32)) rfl rfl rfl ?_
    exact j_ret rfl rfl rfl (fun _ h => h)

noncomputable def f_X11_turn (l1 : Int32) (σ : j_G) : Option (Int32 × j_G) :=
  if (f_X3_has l1 σ) = 0 then (some ((-2 : Int32), σ)) else (j_lt (σ.1 5 1) fun v1 =>
  j_lt (j_si σ 5 1 l1) fun σ2 =>
  some (v1, σ2))
theorem c_X11_turn (l1 : Int32) (σ : j_G) : j_K true 1 171 [.ref 0, .int l1] σ (f_X11_turn l1 σ) j_Ri := by
  refine j_mkK (M := M_cX11_turn) (L := [some (.ref 0), some (.int l1), none]) (m := 1) t_171 rfl (j_rcvO j_a0 rfl) rfl (fun d hd τ => ?_)
  unfold f_X11_turn
  refine j_aload_n (pc' := 1) rfl rfl rfl ?_
  refine j_gfr (pc' := 4) (x := 1) rfl rfl j_a0 rfl rfl ?_
  refine j_gfr (pc' := 7) (x := 5) rfl rfl j_a1 rfl rfl ?_
  refine j_iload_n (pc' := 8) rfl rfl rfl ?_
  refine j_callTi (pc' := 11) (ai := 31) (vs := [.ref 5, .int l1]) (rest := []) rfl rfl (fun _ _ => rfl) (c_X3_has l1 σ) (j_dd rfl hd) rfl ?_
  refine j_two (pT := 14) (pF := 17) (L1 := [some (.ref 0), some (.int l1), none]) (st1 := []) (fun o kT kF => ?_) (fun h1 => ?_) (fun h1 => ?_)
  · refine j_ifne (t := 17) (pc' := 14) rfl rfl rfl (fun h2 => ?_) (fun h2 => ?_)
    · exact kF h2
    · exact kT h2
  · refine j_bipush (pc' := 16) (x := (-2 : Int32)) rfl rfl rfl ?_
    exact j_ret rfl rfl rfl (fun _ h => h)
  · refine j_aload_n (pc' := 18) rfl rfl rfl ?_
    refine j_gfr (pc' := 21) (x := 1) rfl rfl j_a0 rfl rfl ?_
    refine j_gfr (pc' := 24) (x := 5) rfl rfl j_a1 rfl rfl ?_
    refine j_gfi (pc' := 27) rfl rfl j_a5 rfl ?_
    refine j_leti (fun v1 => ?_)
    refine j_istore_n (pc' := 28) (L' := [some (.ref 0), some (.int l1), some (.int v1)]) rfl rfl rfl ?_
    refine j_aload_n (pc' := 29) rfl rfl rfl ?_
    refine j_gfr (pc' := 32) (x := 1) rfl rfl j_a0 rfl rfl ?_
    refine j_gfr (pc' := 35) (x := 5) rfl rfl j_a1 rfl rfl ?_
    refine j_iload_n (pc' := 36) rfl rfl rfl ?_
    refine j_pfi (pc' := 39) rfl rfl j_a5 rfl rfl (fun σ2 => ?_)
    refine j_iload_n (pc' := 40) rfl rfl rfl ?_
    exact j_ret rfl rfl rfl (fun _ h => h)

noncomputable def f_X12_turn (l1 : Int32) (σ : j_G) : Option (Int32 × j_G) :=
  j_b1 (f_X12_isComing l1 σ) fun v1 =>
  if v1 = 0 then (some ((-2 : Int32), σ)) else (j_ix (8 : Int32) 116 (
  j_lt (σ.1 76 ((8 : Int32)).toNatClampNeg) fun v2 =>
  j_ix (8 : Int32) 116 (
  j_lt (j_si σ 76 ((8 : Int32)).toNatClampNeg l1) fun σ3 =>
  some (v2, σ3))))
theorem c_X12_turn (l1 : Int32) (σ : j_G) : j_K false 2 338 [.ref 75, .int l1] σ (f_X12_turn l1 σ) j_Ri := by
  refine j_mkK (M := M_cX12_turn) (L := [some (.ref 75), some (.int l1), none]) (m := 1) t_338 rfl (j_rcvO j_a75 rfl) rfl (fun d hd τ => ?_)
  unfold f_X12_turn
  refine j_aload_n (pc' := 1) rfl rfl rfl ?_
  refine j_iload_n (pc' := 2) rfl rfl rfl ?_
  refine j_callPi (pc' := 5) (ai := 204) (vs := [.ref 75, .int l1]) (rest := []) rfl rfl (fun _ _ => rfl) (c_X12_isComing l1 σ) (j_dd rfl hd) rfl (fun v1 => ?_)
  refine j_two (pT := 8) (pF := 11) (L1 := [some (.ref 75), some (.int l1), none]) (st1 := []) (fun o kT kF => ?_) (fun h1 => ?_) (fun h1 => ?_)
  · refine j_ifne (t := 11) (pc' := 8) rfl rfl rfl (fun h2 => ?_) (fun h2 => ?_)
    · exact kF h2
    · exact kT h2
  · refine j_bipush (pc' := 10) (x := (-2 : Int32)) rfl rfl rfl ?_
    exact j_ret rfl rfl rfl (fun _ h => h)
  · refine j_aload_n (pc' := 12) rfl rfl rfl ?_
    refine j_gfr (pc' := 15) (x := 76) rfl rfl j_a75 rfl rfl ?_
    refine j_bipush (pc' := 17) (x := (8 : Int32)) rfl rfl rfl ?_
    refine j_iald (pc' := 18) rfl rfl j_a76 ?_
    refine j_leti (fun v2 => ?_)
    refine j_istore_n (pc' := 19) (L' := [some (.ref 75), some (.int l1), some (.int v2)]) rfl rfl rfl ?_
    refine j_aload_n (pc' := 20) rfl rfl rfl ?_
    refine j_gfr (pc' := 23) (x := 76) rfl rfl j_a75 rfl rfl ?_
    refine j_bipush (pc' := 25) (x := (8 : Int32)) rfl rfl rfl ?_
    refine j_iload_n (pc' := 26) rfl rfl rfl ?_
    refine j_iast (pc' := 27) rfl rfl j_a76 (fun σ3 => ?_)
    refine j_iload_n (pc' := 28) rfl rfl rfl ?_
    exact j_ret rfl rfl rfl (fun _ h => h)

noncomputable def f_X11_shut (l1 : Int32) (l2 : Int32) (σ : j_G) : Option (Int32 × j_G) :=
  if (¬ (f_X2_isHole 1 l1 σ) = 0) ∧ ((¬ l2 < 0) ∧ (¬ (1 : Int32) < l2)) then (j_b1 (f_X3_oftenAt 5 6 7 l1 σ) fun v1 =>
  if 0 < v1 then (some ((-2 : Int32), σ)) else (j_lt (if ¬ (f_X2_isShut 1 l1 σ) = 0 then ((1 : Int32)) else ((0 : Int32))) fun v2 =>
  if ¬ v2 = l2 then (j_lt (j_si σ 1 6 ((σ.1 1 6) ^^^ ((1 : Int32) <<< (l1 &&& 31)))) fun σ3 =>
  some (v2, σ3)) else (some (v2, σ)))) else (some ((-2 : Int32), σ))
theorem c_X11_shut (l1 : Int32) (l2 : Int32) (σ : j_G) : j_K true 2 172 [.ref 0, .int l1, .int l2] σ (f_X11_shut l1 l2 σ) j_Ri := by
  refine j_mkK (M := M_cX11_shut) (L := [some (.ref 0), some (.int l1), some (.int l2), none]) (m := 1) t_172 rfl (j_rcvO j_a0 rfl) rfl (fun d hd τ => ?_)
  unfold f_X11_shut
  refine j_aload_n (pc' := 1) rfl rfl rfl ?_
  refine j_gfr (pc' := 4) (x := 1) rfl rfl j_a0 rfl rfl ?_
  refine j_iload_n (pc' := 5) rfl rfl rfl ?_
  refine j_callTi (pc' := 8) (ai := 13) (vs := [.ref 1, .int l1]) (rest := []) rfl rfl (fun _ _ => rfl) (c_X2_isHole_1 l1 σ) (j_dd rfl hd) rfl ?_
  refine j_two (pT := 20) (pF := 34) (L1 := [some (.ref 0), some (.int l1), some (.int l2), none]) (st1 := []) (fun o kT kF => ?_) (fun h7 => ?_) (fun h7 => ?_)
  · refine j_ifeq (t := 34) (pc' := 11) rfl rfl rfl (fun h8 => ?_) (fun h8 => ?_)
    · exact kF (fun z => z.1 h8)
    · refine j_iload_n (pc' := 12) rfl rfl rfl ?_
      refine j_iflt (t := 34) (pc' := 15) rfl rfl rfl (fun h9 => ?_) (fun h9 => ?_)
      · exact kF (fun z => (fun z => z.1 h9) z.2)
      · refine j_iload_n (pc' := 16) rfl rfl rfl ?_
        refine j_iconst (pc' := 17) (x := (1 : Int32)) rfl rfl rfl ?_
        refine j_icgt (t := 34) (pc' := 20) rfl rfl rfl (fun h10 => ?_) (fun h10 => ?_)
        · exact kF (fun z => (fun z => (fun z => z h10) z.2) z.2)
        · exact kT (⟨h8, ⟨h9, h10⟩⟩)
  · refine j_aload_n (pc' := 21) rfl rfl rfl ?_
    refine j_gfr (pc' := 24) (x := 1) rfl rfl j_a0 rfl rfl ?_
    refine j_gfr (pc' := 27) (x := 5) rfl rfl j_a1 rfl rfl ?_
    refine j_iload_n (pc' := 28) rfl rfl rfl ?_
    refine j_callPi (pc' := 31) (ai := 36) (vs := [.ref 5, .int l1]) (rest := []) rfl rfl (fun _ _ => rfl) (c_X3_oftenAt_5 l1 σ) (j_dd rfl hd) rfl (fun v1 => ?_)
    refine j_two (pT := 34) (pF := 37) (L1 := [some (.ref 0), some (.int l1), some (.int l2), none]) (st1 := []) (fun o kT kF => ?_) (fun h5 => ?_) (fun h5 => ?_)
    · refine j_ifle (t := 37) (pc' := 34) rfl rfl rfl (fun h6 => ?_) (fun h6 => ?_)
      · exact kF h6
      · exact kT h6
    · refine j_bipush (pc' := 36) (x := (-2 : Int32)) rfl rfl rfl ?_
      exact j_ret rfl rfl rfl (fun _ h => h)
    · refine j_aload_n (pc' := 38) rfl rfl rfl ?_
      refine j_gfr (pc' := 41) (x := 1) rfl rfl j_a0 rfl rfl ?_
      refine j_iload_n (pc' := 42) rfl rfl rfl ?_
      refine j_callTi (pc' := 45) (ai := 16) (vs := [.ref 1, .int l1]) (rest := []) rfl rfl (fun _ _ => rfl) (c_X2_isShut_1 l1 σ) (j_dd rfl hd) rfl ?_
      refine j_ql (Φl := (fun r Q => j_Tr true τ M_cX11_shut d 53 [some (.ref 0), some (.int l1), some (.int l2), none] [.int r] σ Q)) ?_ (fun v2 => ?_)
      · refine j_twoT (pT := 48) (pF := 52) (L1 := [some (.ref 0), some (.int l1), some (.int l2), none]) (st1 := []) (fun o kT kF => ?_) (fun h1 => ?_) (fun h1 => ?_)
        · refine j_ifeq (t := 52) (pc' := 48) rfl rfl rfl (fun h2 => ?_) (fun h2 => ?_)
          · exact kF (fun z => z h2)
          · exact kT h2
        · refine j_iconst (pc' := 49) (x := (1 : Int32)) rfl rfl rfl ?_
          refine j_goto (t := 53) rfl rfl ?_
          exact j_end (fun _ h => h)
        · refine j_iconst (pc' := 53) (x := (0 : Int32)) rfl rfl rfl ?_
          exact j_end (fun _ h => h)
      show j_J true τ M_cX11_shut d 53 [some (.ref 0), some (.int l1), some (.int l2), none] [.int v2] σ _ _
      refine j_istore_n (pc' := 54) (L' := [some (.ref 0), some (.int l1), some (.int l2), some (.int v2)]) rfl rfl rfl ?_
      refine j_iload_n (pc' := 55) rfl rfl rfl ?_
      refine j_iload_n (pc' := 56) rfl rfl rfl ?_
      refine j_two (pT := 59) (pF := 74) (L1 := [some (.ref 0), some (.int l1), some (.int l2), some (.int v2)]) (st1 := []) (fun o kT kF => ?_) (fun h3 => ?_) (fun h3 => ?_)
      · refine j_iceq (t := 74) (pc' := 59) rfl rfl rfl (fun h4 => ?_) (fun h4 => ?_)
        · exact kF (fun z => z h4)
        · exact kT h4
      · refine j_aload_n (pc' := 60) rfl rfl rfl ?_
        refine j_gfr (pc' := 63) (x := 1) rfl rfl j_a0 rfl rfl ?_
        refine j_dup (pc' := 64) rfl rfl rfl ?_
        refine j_gfi (pc' := 67) rfl rfl j_a1 rfl ?_
        refine j_iconst (pc' := 68) (x := (1 : Int32)) rfl rfl rfl ?_
        refine j_iload_n (pc' := 69) rfl rfl rfl ?_
        refine j_ishl (pc' := 70) rfl rfl ?_
        refine j_ixor (pc' := 71) rfl rfl ?_
        refine j_pfi (pc' := 74) rfl rfl j_a1 rfl rfl (fun σ3 => ?_)
        refine j_iload_n (pc' := 75) rfl rfl rfl ?_
        exact j_ret rfl rfl rfl (fun _ h => h)
      · refine j_iload_n (pc' := 75) rfl rfl rfl ?_
        exact j_ret rfl rfl rfl (fun _ h => h)
  · refine j_bipush (pc' := 36) (x := (-2 : Int32)) rfl rfl rfl ?_
    exact j_ret rfl rfl rfl (fun _ h => h)

noncomputable def f_X12_shut (l1 : Int32) (l2 : Int32) (σ : j_G) : Option (Int32 × j_G) :=
  j_b1 (f_X12_isHole (l1).toInt64 σ) fun v1 =>
  if (¬ v1 = 0) ∧ (¬ (f_X12_in (l2).toInt64 (0 : Int64) (1 : Int64)) = 0) then (j_b1 (f_X12_oftenOf l1 σ) fun v2 =>
  if 0 < v2 then (some ((-2 : Int32), σ)) else (j_b1 (f_X12_isShut l1 σ) fun v3 =>
  j_lt (if ¬ v3 = 0 then ((1 : Int32)) else ((0 : Int32))) fun v4 =>
  j_ix (7 : Int32) 116 (
  j_ix (7 : Int32) 116 (
  j_lt (j_si σ 76 ((7 : Int32)).toNatClampNeg (((σ.1 76 ((7 : Int32)).toNatClampNeg) &&& (((1 : Int32) <<< (l1 &&& 31)) ^^^ (-1 : Int32))) ||| (l2 <<< (l1 &&& 31)))) fun σ5 =>
  some (v4, σ5))))) else (some ((-2 : Int32), σ))
theorem c_X12_shut (l1 : Int32) (l2 : Int32) (σ : j_G) : j_K false 2 340 [.ref 75, .int l1, .int l2] σ (f_X12_shut l1 l2 σ) j_Ri := by
  refine j_mkK (M := M_cX12_shut) (L := [some (.ref 75), some (.int l1), some (.int l2), none]) (m := 1) t_340 rfl (j_rcvO j_a75 rfl) rfl (fun d hd τ => ?_)
  unfold f_X12_shut
  refine j_aload_n (pc' := 1) rfl rfl rfl ?_
  refine j_iload_n (pc' := 2) rfl rfl rfl ?_
  refine j_i2l (pc' := 3) rfl rfl ?_
  refine j_callPi (pc' := 6) (ai := 201) (vs := [.ref 75, .long (l1).toInt64]) (rest := []) rfl rfl (fun _ _ => rfl) (c_X12_isHole (l1).toInt64 σ) (j_dd rfl hd) rfl (fun v1 => ?_)
  refine j_two (pT := 19) (pF := 27) (L1 := [some (.ref 75), some (.int l1), some (.int l2), none]) (st1 := []) (fun o kT kF => ?_) (fun h5 => ?_) (fun h5 => ?_)
  · refine j_ifeq (t := 27) (pc' := 9) rfl rfl rfl (fun h6 => ?_) (fun h6 => ?_)
    · exact kF (fun z => z.1 h6)
    · refine j_iload_n (pc' := 10) rfl rfl rfl ?_
      refine j_i2l (pc' := 11) rfl rfl ?_
      refine j_lconst (pc' := 12) (x := (0 : Int64)) rfl rfl rfl ?_
      refine j_lconst (pc' := 13) (x := (1 : Int64)) rfl rfl rfl ?_
      refine j_callTi (pc' := 16) (ai := 196) (vs := [.long (l2).toInt64, .long (0 : Int64), .long (1 : Int64)]) (rest := []) rfl rfl (fun _ _ => rfl) (c_X12_in (l2).toInt64 (0 : Int64) (1 : Int64) σ) (j_dd rfl hd) rfl ?_
      refine j_ifeq (t := 27) (pc' := 19) rfl rfl rfl (fun h7 => ?_) (fun h7 => ?_)
      · exact kF (fun z => (fun z => z h7) z.2)
      · exact kT (⟨h6, h7⟩)
  · refine j_aload_n (pc' := 20) rfl rfl rfl ?_
    refine j_iload_n (pc' := 21) rfl rfl rfl ?_
    refine j_callPi (pc' := 24) (ai := 329) (vs := [.ref 75, .int l1]) (rest := []) rfl rfl (fun _ _ => rfl) (c_X12_oftenOf l1 σ) (j_dd rfl hd) rfl (fun v2 => ?_)
    refine j_two (pT := 27) (pF := 30) (L1 := [some (.ref 75), some (.int l1), some (.int l2), none]) (st1 := []) (fun o kT kF => ?_) (fun h3 => ?_) (fun h3 => ?_)
    · refine j_ifle (t := 30) (pc' := 27) rfl rfl rfl (fun h4 => ?_) (fun h4 => ?_)
      · exact kF h4
      · exact kT h4
    · refine j_bipush (pc' := 29) (x := (-2 : Int32)) rfl rfl rfl ?_
      exact j_ret rfl rfl rfl (fun _ h => h)
    · refine j_aload_n (pc' := 31) rfl rfl rfl ?_
      refine j_iload_n (pc' := 32) rfl rfl rfl ?_
      refine j_callPi (pc' := 35) (ai := 202) (vs := [.ref 75, .int l1]) (rest := []) rfl rfl (fun _ _ => rfl) (c_X12_isShut l1 σ) (j_dd rfl hd) rfl (fun v3 => ?_)
      refine j_ql (Φl := (fun r Q => j_Tr false τ M_cX12_shut d 43 [some (.ref 75), some (.int l1), some (.int l2), none] [.int r] σ Q)) ?_ (fun v4 => ?_)
      · refine j_twoT (pT := 38) (pF := 42) (L1 := [some (.ref 75), some (.int l1), some (.int l2), none]) (st1 := []) (fun o kT kF => ?_) (fun h1 => ?_) (fun h1 => ?_)
        · refine j_ifeq (t := 42) (pc' := 38) rfl rfl rfl (fun h2 => ?_) (fun h2 => ?_)
          · exact kF (fun z => z h2)
          · exact kT h2
        · refine j_iconst (pc' := 39) (x := (1 : Int32)) rfl rfl rfl ?_
          refine j_goto (t := 43) rfl rfl ?_
          exact j_end (fun _ h => h)
        · refine j_iconst (pc' := 43) (x := (0 : Int32)) rfl rfl rfl ?_
          exact j_end (fun _ h => h)
      show j_J false τ M_cX12_shut d 43 [some (.ref 75), some (.int l1), some (.int l2), none] [.int v4] σ _ _
      refine j_istore_n (pc' := 44) (L' := [some (.ref 75), some (.int l1), some (.int l2), some (.int v4)]) rfl rfl rfl ?_
      refine j_aload_n (pc' := 45) rfl rfl rfl ?_
      refine j_gfr (pc' := 48) (x := 76) rfl rfl j_a75 rfl rfl ?_
      refine j_bipush (pc' := 50) (x := (7 : Int32)) rfl rfl rfl ?_
      refine j_aload_n (pc' := 51) rfl rfl rfl ?_
      refine j_gfr (pc' := 54) (x := 76) rfl rfl j_a75 rfl rfl ?_
      refine j_bipush (pc' := 56) (x := (7 : Int32)) rfl rfl rfl ?_
      refine j_iald (pc' := 57) rfl rfl j_a76 ?_
      refine j_iconst (pc' := 58) (x := (1 : Int32)) rfl rfl rfl ?_
      refine j_iload_n (pc' := 59) rfl rfl rfl ?_
      refine j_ishl (pc' := 60) rfl rfl ?_
      refine j_iconst (pc' := 61) (x := (-1 : Int32)) rfl rfl rfl ?_
      refine j_ixor (pc' := 62) rfl rfl ?_
      refine j_iand (pc' := 63) rfl rfl ?_
      refine j_iload_n (pc' := 64) rfl rfl rfl ?_
      refine j_iload_n (pc' := 65) rfl rfl rfl ?_
      refine j_ishl (pc' := 66) rfl rfl ?_
      refine j_ior (pc' := 67) rfl rfl ?_
      refine j_iast (pc' := 68) rfl rfl j_a76 (fun σ5 => ?_)
      refine j_iload_n (pc' := 69) rfl rfl rfl ?_
      exact j_ret rfl rfl rfl (fun _ h => h)
  · refine j_bipush (pc' := 29) (x := (-2 : Int32)) rfl rfl rfl ?_
    exact j_ret rfl rfl rfl (fun _ h => h)

theorem c_X2_isTrait_1 (l1 : Int32) (l2 : Int32) (σ : j_G) : j_K true 2 26 [.ref 1, .int l1, .int l2] σ (some (f_X2_isTrait 1 l1 l2 σ)) (j_Pi σ) := by
  refine j_mkK (M := M_cX2_isTrait) (L := [some (.ref 1), some (.int l1), some (.int l2)]) (m := 0) t_26 rfl (j_rcvO j_a1 rfl) rfl (fun d hd τ => ?_)
  unfold f_X2_isTrait
  refine j_iload_n (pc' := 1) rfl rfl rfl ?_
  refine j_splT (k := (0 : Int32)) (fun h1 => ?_) (fun h1 => ?_)
  · refine j_sw (t := 36) h1 rfl rfl (fun _ _ => rfl) ?_
    refine j_iload_n (pc' := 37) rfl rfl rfl ?_
    refine j_iconst (pc' := 38) (x := (1 : Int32)) rfl rfl rfl ?_
    refine j_twoT (pT := 47) (pF := 51) (L1 := [some (.ref 1), some (.int l1), some (.int l2)]) (st1 := []) (fun o kT kF => ?_) (fun h2 => ?_) (fun h2 => ?_)
    · refine j_iclt (t := 51) (pc' := 41) rfl rfl rfl (fun h3 => ?_) (fun h3 => ?_)
      · exact kF (fun z => z.1 h3)
      · refine j_iload_n (pc' := 42) rfl rfl rfl ?_
        refine j_bipush (pc' := 44) (x := (9 : Int32)) rfl rfl rfl ?_
        refine j_icgt (t := 51) (pc' := 47) rfl rfl rfl (fun h4 => ?_) (fun h4 => ?_)
        · exact kF (fun z => (fun z => z h4) z.2)
        · exact kT (⟨h3, h4⟩)
    · refine j_iconst (pc' := 48) (x := (1 : Int32)) rfl rfl rfl ?_
      refine j_goto (t := 52) rfl rfl ?_
      exact j_ret rfl rfl rfl (fun _ h => h)
    · refine j_iconst (pc' := 52) (x := (0 : Int32)) rfl rfl rfl ?_
      exact j_ret rfl rfl rfl (fun _ h => h)
  refine j_splT (k := (1 : Int32)) (fun h5 => ?_) (fun h5 => ?_)
  · refine j_sw (t := 53) h5 rfl rfl (fun _ _ => rfl) ?_
    refine j_iload_n (pc' := 54) rfl rfl rfl ?_
    refine j_twoT (pT := 63) (pF := 67) (L1 := [some (.ref 1), some (.int l1), some (.int l2)]) (st1 := []) (fun o kT kF => ?_) (fun h6 => ?_) (fun h6 => ?_)
    · refine j_iflt (t := 67) (pc' := 57) rfl rfl rfl (fun h7 => ?_) (fun h7 => ?_)
      · exact kF (fun z => z.1 h7)
      · refine j_iload_n (pc' := 58) rfl rfl rfl ?_
        refine j_bipush (pc' := 60) (x := (20 : Int32)) rfl rfl rfl ?_
        refine j_icgt (t := 67) (pc' := 63) rfl rfl rfl (fun h8 => ?_) (fun h8 => ?_)
        · exact kF (fun z => (fun z => z h8) z.2)
        · exact kT (⟨h7, h8⟩)
    · refine j_iconst (pc' := 64) (x := (1 : Int32)) rfl rfl rfl ?_
      refine j_goto (t := 68) rfl rfl ?_
      exact j_ret rfl rfl rfl (fun _ h => h)
    · refine j_iconst (pc' := 68) (x := (0 : Int32)) rfl rfl rfl ?_
      exact j_ret rfl rfl rfl (fun _ h => h)
  refine j_splT (k := (2 : Int32)) (fun h9 => ?_) (fun h9 => ?_)
  · refine j_sw (t := 69) h9 rfl rfl (fun _ _ => rfl) ?_
    refine j_iload_n (pc' := 70) rfl rfl rfl ?_
    refine j_twoT (pT := 79) (pF := 83) (L1 := [some (.ref 1), some (.int l1), some (.int l2)]) (st1 := []) (fun o kT kF => ?_) (fun h10 => ?_) (fun h10 => ?_)
    · refine j_iflt (t := 83) (pc' := 73) rfl rfl rfl (fun h11 => ?_) (fun h11 => ?_)
      · exact kF (fun z => z.1 h11)
      · refine j_iload_n (pc' := 74) rfl rfl rfl ?_
        refine j_bipush (pc' := 76) (x := (99 : Int32)) rfl rfl rfl ?_
        refine j_icgt (t := 83) (pc' := 79) rfl rfl rfl (fun h12 => ?_) (fun h12 => ?_)
        · exact kF (fun z => (fun z => z h12) z.2)
        · exact kT (⟨h11, h12⟩)
    · refine j_iconst (pc' := 80) (x := (1 : Int32)) rfl rfl rfl ?_
      refine j_goto (t := 84) rfl rfl ?_
      exact j_ret rfl rfl rfl (fun _ h => h)
    · refine j_iconst (pc' := 84) (x := (0 : Int32)) rfl rfl rfl ?_
      exact j_ret rfl rfl rfl (fun _ h => h)
  refine j_splT (k := (3 : Int32)) (fun h13 => ?_) (fun h13 => ?_)
  · refine j_sw (t := 85) h13 rfl rfl (fun _ _ => rfl) ?_
    refine j_iload_n (pc' := 86) rfl rfl rfl ?_
    refine j_twoT (pT := 95) (pF := 99) (L1 := [some (.ref 1), some (.int l1), some (.int l2)]) (st1 := []) (fun o kT kF => ?_) (fun h14 => ?_) (fun h14 => ?_)
    · refine j_iflt (t := 99) (pc' := 89) rfl rfl rfl (fun h15 => ?_) (fun h15 => ?_)
      · exact kF (fun z => z.1 h15)
      · refine j_iload_n (pc' := 90) rfl rfl rfl ?_
        refine j_bipush (pc' := 92) (x := (9 : Int32)) rfl rfl rfl ?_
        refine j_icgt (t := 99) (pc' := 95) rfl rfl rfl (fun h16 => ?_) (fun h16 => ?_)
        · exact kF (fun z => (fun z => z h16) z.2)
        · exact kT (⟨h15, h16⟩)
    · refine j_iconst (pc' := 96) (x := (1 : Int32)) rfl rfl rfl ?_
      refine j_goto (t := 100) rfl rfl ?_
      exact j_ret rfl rfl rfl (fun _ h => h)
    · refine j_iconst (pc' := 100) (x := (0 : Int32)) rfl rfl rfl ?_
      exact j_ret rfl rfl rfl (fun _ h => h)
  refine j_splT (k := (4 : Int32)) (fun h17 => ?_) (fun h17 => ?_)
  · refine j_sw (t := 101) h17 rfl rfl (fun _ _ => rfl) ?_
    refine j_aload_n (pc' := 102) rfl rfl rfl ?_
    refine j_iload_n (pc' := 103) rfl rfl rfl ?_
    refine j_callTi (pc' := 106) (ai := 13) (vs := [.ref 1, .int l2]) (rest := []) rfl rfl (fun _ _ => rfl) (c_X2_isHole_1 l2 σ) (j_dd rfl hd) rfl ?_
    exact j_retb rfl rfl (b_X2_isHole 1 l2 σ) (fun _ h => h)
  have eh1 := j_ne (0) (by decide) h1
  have eh5 := j_ne (1) (by decide) h5
  have eh9 := j_ne (2) (by decide) h9
  have eh13 := j_ne (3) (by decide) h13
  have eh17 := j_ne (4) (by decide) h17
  refine j_tsd (t := 107) rfl (by omega) rfl ?_
  refine j_iconst (pc' := 108) (x := (0 : Int32)) rfl rfl rfl ?_
  exact j_ret rfl rfl rfl (fun _ h => h)

theorem c_X2_setTrait_1 (l1 : Int32) (l2 : Int32) (l3 : Int32) (σ : j_G) : j_K true 0 25 [.ref 1, .int l1, .int l2, .int l3] σ (f_X2_setTrait 4 l1 l2 l3 σ) j_Rv := by
  refine j_mkK (M := M_cX2_setTrait) (L := [some (.ref 1), some (.int l1), some (.int l2), some (.int l3), none]) (m := 1) t_25 rfl (j_rcvO j_a1 rfl) rfl (fun d hd τ => ?_)
  unfold f_X2_setTrait
  refine j_iload_n (pc' := 1) rfl rfl rfl ?_
  refine j_iconst (pc' := 2) (x := (5 : Int32)) rfl rfl rfl ?_
  refine j_imul (pc' := 3) rfl rfl ?_
  refine j_iload_n (pc' := 4) rfl rfl rfl ?_
  refine j_iadd (pc' := 5) rfl rfl ?_
  refine j_leti (fun v1 => ?_)
  refine j_istore (pc' := 7) (L' := [some (.ref 1), some (.int l1), some (.int l2), some (.int l3), some (.int v1)]) rfl rfl rfl ?_
  refine j_iload (pc' := 9) rfl rfl rfl ?_
  refine j_two (pT := 22) (pF := 30) (L1 := [some (.ref 1), some (.int l1), some (.int l2), some (.int l3), some (.int v1)]) (st1 := []) (fun o kT kF => ?_) (fun h1 => ?_) (fun h1 => ?_)
  · refine j_iflt (t := 30) (pc' := 12) rfl rfl rfl (fun h2 => ?_) (fun h2 => ?_)
    · exact kF (fun z => z.1 h2)
    · refine j_iload (pc' := 14) rfl rfl rfl ?_
      refine j_aload_n (pc' := 15) rfl rfl rfl ?_
      refine j_gfr (pc' := 18) (x := 4) rfl rfl j_a1 rfl rfl ?_
      refine j_alen (pc' := 19) (v := (20 : Int32)) rfl rfl j_a4 rfl ?_
      refine j_icge (t := 30) (pc' := 22) rfl rfl rfl (fun h3 => ?_) (fun h3 => ?_)
      · exact kF (fun z => (h3) z.2)
      · exact kT (⟨h2, h3⟩)
  · refine j_aload_n (pc' := 23) rfl rfl rfl ?_
    refine j_gfr (pc' := 26) (x := 4) rfl rfl j_a1 rfl rfl ?_
    refine j_iload (pc' := 28) rfl rfl rfl ?_
    refine j_iload_n (pc' := 29) rfl rfl rfl ?_
    refine j_iast (pc' := 30) rfl rfl j_a4 (fun σ2 => ?_)
    exact j_ret rfl rfl rfl (fun _ h => h)
  · exact j_ret rfl rfl rfl (fun _ h => h)

noncomputable def f_X11_train (l1 : Int32) (l2 : Int32) (l3 : Int32) (σ : j_G) : Option (Int32 × j_G) :=
  if ((f_X2_isPlayer l1 σ) = 0) ∨ ((f_X2_isTrait 1 l2 l3 σ) = 0) then (some ((-2 : Int32), σ)) else (j_b1 (f_X2_trait l1 l2 σ) fun v1 =>
  j_b1 (f_X2_setTrait 4 l1 l2 l3 σ) fun σ2 =>
  some (v1, σ2))
theorem c_X11_train (l1 : Int32) (l2 : Int32) (l3 : Int32) (σ : j_G) : j_K true 3 173 [.ref 0, .int l1, .int l2, .int l3] σ (f_X11_train l1 l2 l3 σ) j_Ri := by
  refine j_mkK (M := M_cX11_train) (L := [some (.ref 0), some (.int l1), some (.int l2), some (.int l3), none]) (m := 1) t_173 rfl (j_rcvO j_a0 rfl) rfl (fun d hd τ => ?_)
  unfold f_X11_train
  refine j_aload_n (pc' := 1) rfl rfl rfl ?_
  refine j_gfr (pc' := 4) (x := 1) rfl rfl j_a0 rfl rfl ?_
  refine j_iload_n (pc' := 5) rfl rfl rfl ?_
  refine j_callTi (pc' := 8) (ai := 15) (vs := [.ref 1, .int l1]) (rest := []) rfl rfl (fun _ _ => rfl) (c_X2_isPlayer l1 σ) (j_dd rfl hd) rfl ?_
  refine j_two (pT := 23) (pF := 26) (L1 := [some (.ref 0), some (.int l1), some (.int l2), some (.int l3), none]) (st1 := []) (fun o kT kF => ?_) (fun h1 => ?_) (fun h1 => ?_)
  · refine j_ifeq (t := 23) (pc' := 11) rfl rfl rfl (fun h2 => ?_) (fun h2 => ?_)
    · exact kT (Or.inl h2)
    · refine j_aload_n (pc' := 12) rfl rfl rfl ?_
      refine j_gfr (pc' := 15) (x := 1) rfl rfl j_a0 rfl rfl ?_
      refine j_iload_n (pc' := 16) rfl rfl rfl ?_
      refine j_iload_n (pc' := 17) rfl rfl rfl ?_
      refine j_callTi (pc' := 20) (ai := 26) (vs := [.ref 1, .int l2, .int l3]) (rest := []) rfl rfl (fun _ _ => rfl) (c_X2_isTrait_1 l2 l3 σ) (j_dd rfl hd) rfl ?_
      refine j_ifne (t := 26) (pc' := 23) rfl rfl rfl (fun h3 => ?_) (fun h3 => ?_)
      · exact kF (fun z => z.elim h2 (h3))
      · exact kT (Or.inr (h3))
  · refine j_bipush (pc' := 25) (x := (-2 : Int32)) rfl rfl rfl ?_
    exact j_ret rfl rfl rfl (fun _ h => h)
  · refine j_aload_n (pc' := 27) rfl rfl rfl ?_
    refine j_gfr (pc' := 30) (x := 1) rfl rfl j_a0 rfl rfl ?_
    refine j_iload_n (pc' := 31) rfl rfl rfl ?_
    refine j_iload_n (pc' := 32) rfl rfl rfl ?_
    refine j_callPi (pc' := 35) (ai := 24) (vs := [.ref 1, .int l1, .int l2]) (rest := []) rfl rfl (fun _ _ => rfl) (c_X2_trait l1 l2 σ) (j_dd rfl hd) rfl (fun v1 => ?_)
    refine j_istore (pc' := 37) (L' := [some (.ref 0), some (.int l1), some (.int l2), some (.int l3), some (.int v1)]) rfl rfl rfl ?_
    refine j_aload_n (pc' := 38) rfl rfl rfl ?_
    refine j_gfr (pc' := 41) (x := 1) rfl rfl j_a0 rfl rfl ?_
    refine j_iload_n (pc' := 42) rfl rfl rfl ?_
    refine j_iload_n (pc' := 43) rfl rfl rfl ?_
    refine j_iload_n (pc' := 44) rfl rfl rfl ?_
    refine j_callRv (pc' := 47) (ai := 25) (vs := [.ref 1, .int l1, .int l2, .int l3]) (rest := []) rfl rfl (fun _ _ => rfl) (c_X2_setTrait_1 l1 l2 l3 σ) (j_dd rfl hd) rfl (fun σ2 => ?_)
    refine j_iload (pc' := 49) rfl rfl rfl ?_
    exact j_ret rfl rfl rfl (fun _ h => h)

noncomputable def f_X12_train (l1 : Int32) (l2 : Int32) (l3 : Int32) (σ : j_G) : Option (Int32 × j_G) :=
  j_b1 (f_X12_isPlayer l1 σ) fun v1 =>
  if v1 = 0 then (some ((-2 : Int32), σ)) else (j_b1 (if l2 = 0 then (some (f_X12_in (l3).toInt64 (1 : Int64) (9 : Int64))) else (if l2 = (1 : Int32) then (some (f_X12_in (l3).toInt64 (0 : Int64) (20 : Int64))) else (if l2 = (2 : Int32) then (some (f_X12_in (l3).toInt64 (0 : Int64) (99 : Int64))) else (if l2 = (3 : Int32) then (some (f_X12_in (l3).toInt64 (0 : Int64) (9 : Int64))) else (j_lt (some (0 : Int32)) fun (k3 : Option Int32) =>
  if l2 = (4 : Int32) then (j_b1 (f_X12_isHole (l3).toInt64 σ) fun v4 =>
  if ¬ v4 = 0 then (some (1 : Int32)) else (k3)) else (k3)))))) fun v2 =>
  if v2 = 0 then (some ((-2 : Int32), σ)) else (j_b1 (f_X12_of l1 l2 σ) fun v5 =>
  j_ix (((96 : Int32) + ((5 : Int32) * l1)) + l2) 116 (
  j_lt (j_si σ 76 ((((96 : Int32) + ((5 : Int32) * l1)) + l2)).toNatClampNeg l3) fun σ6 =>
  some (v5, σ6))))
theorem c_X12_train (l1 : Int32) (l2 : Int32) (l3 : Int32) (σ : j_G) : j_K false 2 341 [.ref 75, .int l1, .int l2, .int l3] σ (f_X12_train l1 l2 l3 σ) j_Ri := by
  refine j_mkK (M := M_cX12_train) (L := [some (.ref 75), some (.int l1), some (.int l2), some (.int l3), none, none]) (m := 2) t_341 rfl (j_rcvO j_a75 rfl) rfl (fun d hd τ => ?_)
  unfold f_X12_train
  refine j_aload_n (pc' := 1) rfl rfl rfl ?_
  refine j_iload_n (pc' := 2) rfl rfl rfl ?_
  refine j_callPi (pc' := 5) (ai := 205) (vs := [.ref 75, .int l1]) (rest := []) rfl rfl (fun _ _ => rfl) (c_X12_isPlayer l1 σ) (j_dd rfl hd) rfl (fun v1 => ?_)
  refine j_two (pT := 8) (pF := 11) (L1 := [some (.ref 75), some (.int l1), some (.int l2), some (.int l3), none, none]) (st1 := []) (fun o kT kF => ?_) (fun h15 => ?_) (fun h15 => ?_)
  · refine j_ifne (t := 11) (pc' := 8) rfl rfl rfl (fun h16 => ?_) (fun h16 => ?_)
    · exact kF h16
    · exact kT h16
  · refine j_bipush (pc' := 10) (x := (-2 : Int32)) rfl rfl rfl ?_
    exact j_ret rfl rfl rfl (fun _ h => h)
  · refine j_iload_n (pc' := 12) rfl rfl rfl ?_
    refine j_q1 (Φl := (fun r Q => j_Tr false τ M_cX12_train d 97 [some (.ref 75), some (.int l1), some (.int l2), some (.int l3), none, none] [.int r] σ Q)) ?_ (fun v2 => ?_)
    · refine j_two (pT := 15) (pF := 27) (L1 := [some (.ref 75), some (.int l1), some (.int l2), some (.int l3), none, none]) (st1 := []) (fun o kT kF => ?_) (fun h11 => ?_) (fun h11 => ?_)
      · refine j_ifne (t := 27) (pc' := 15) rfl rfl rfl (fun h12 => ?_) (fun h12 => ?_)
        · exact kF h12
        · exact kT h12
      · refine j_iload_n (pc' := 16) rfl rfl rfl ?_
        refine j_i2l (pc' := 17) rfl rfl ?_
        refine j_lconst (pc' := 18) (x := (1 : Int64)) rfl rfl rfl ?_
        refine j_ldc2_w (pc' := 21) (x := (9 : Int64)) rfl rfl rfl ?_
        refine j_callTi (pc' := 24) (ai := 196) (vs := [.long (l3).toInt64, .long (1 : Int64), .long (9 : Int64)]) (rest := []) rfl rfl (fun _ _ => rfl) (c_X12_in (l3).toInt64 (1 : Int64) (9 : Int64) σ) (j_dd rfl hd) rfl ?_
        refine j_goto (t := 97) rfl rfl ?_
        exact j_end (fun _ h => h)
      · refine j_iload_n (pc' := 28) rfl rfl rfl ?_
        refine j_iconst (pc' := 29) (x := (1 : Int32)) rfl rfl rfl ?_
        refine j_two (pT := 32) (pF := 44) (L1 := [some (.ref 75), some (.int l1), some (.int l2), some (.int l3), none, none]) (st1 := []) (fun o kT kF => ?_) (fun h9 => ?_) (fun h9 => ?_)
        · refine j_icne (t := 44) (pc' := 32) rfl rfl rfl (fun h10 => ?_) (fun h10 => ?_)
          · exact kF h10
          · exact kT h10
        · refine j_iload_n (pc' := 33) rfl rfl rfl ?_
          refine j_i2l (pc' := 34) rfl rfl ?_
          refine j_lconst (pc' := 35) (x := (0 : Int64)) rfl rfl rfl ?_
          refine j_ldc2_w (pc' := 38) (x := (20 : Int64)) rfl rfl rfl ?_
          refine j_callTi (pc' := 41) (ai := 196) (vs := [.long (l3).toInt64, .long (0 : Int64), .long (20 : Int64)]) (rest := []) rfl rfl (fun _ _ => rfl) (c_X12_in (l3).toInt64 (0 : Int64) (20 : Int64) σ) (j_dd rfl hd) rfl ?_
          refine j_goto (t := 97) rfl rfl ?_
          exact j_end (fun _ h => h)
        · refine j_iload_n (pc' := 45) rfl rfl rfl ?_
          refine j_iconst (pc' := 46) (x := (2 : Int32)) rfl rfl rfl ?_
          refine j_two (pT := 49) (pF := 61) (L1 := [some (.ref 75), some (.int l1), some (.int l2), some (.int l3), none, none]) (st1 := []) (fun o kT kF => ?_) (fun h7 => ?_) (fun h7 => ?_)
          · refine j_icne (t := 61) (pc' := 49) rfl rfl rfl (fun h8 => ?_) (fun h8 => ?_)
            · exact kF h8
            · exact kT h8
          · refine j_iload_n (pc' := 50) rfl rfl rfl ?_
            refine j_i2l (pc' := 51) rfl rfl ?_
            refine j_lconst (pc' := 52) (x := (0 : Int64)) rfl rfl rfl ?_
            refine j_ldc2_w (pc' := 55) (x := (99 : Int64)) rfl rfl rfl ?_
            refine j_callTi (pc' := 58) (ai := 196) (vs := [.long (l3).toInt64, .long (0 : Int64), .long (99 : Int64)]) (rest := []) rfl rfl (fun _ _ => rfl) (c_X12_in (l3).toInt64 (0 : Int64) (99 : Int64) σ) (j_dd rfl hd) rfl ?_
            refine j_goto (t := 97) rfl rfl ?_
            exact j_end (fun _ h => h)
          · refine j_iload_n (pc' := 62) rfl rfl rfl ?_
            refine j_iconst (pc' := 63) (x := (3 : Int32)) rfl rfl rfl ?_
            refine j_two (pT := 66) (pF := 78) (L1 := [some (.ref 75), some (.int l1), some (.int l2), some (.int l3), none, none]) (st1 := []) (fun o kT kF => ?_) (fun h5 => ?_) (fun h5 => ?_)
            · refine j_icne (t := 78) (pc' := 66) rfl rfl rfl (fun h6 => ?_) (fun h6 => ?_)
              · exact kF h6
              · exact kT h6
            · refine j_iload_n (pc' := 67) rfl rfl rfl ?_
              refine j_i2l (pc' := 68) rfl rfl ?_
              refine j_lconst (pc' := 69) (x := (0 : Int64)) rfl rfl rfl ?_
              refine j_ldc2_w (pc' := 72) (x := (9 : Int64)) rfl rfl rfl ?_
              refine j_callTi (pc' := 75) (ai := 196) (vs := [.long (l3).toInt64, .long (0 : Int64), .long (9 : Int64)]) (rest := []) rfl rfl (fun _ _ => rfl) (c_X12_in (l3).toInt64 (0 : Int64) (9 : Int64) σ) (j_dd rfl hd) rfl ?_
              refine j_goto (t := 97) rfl rfl ?_
              exact j_end (fun _ h => h)
            · refine j_iload_n (pc' := 79) rfl rfl rfl ?_
              refine j_iconst (pc' := 80) (x := (4 : Int32)) rfl rfl rfl ?_
              refine j_jn (P := (fun k => j_J false τ M_cX12_train d 96 [some (.ref 75), some (.int l1), some (.int l2), some (.int l3), none, none] [] σ (k ) (fun r Q => j_Tr false τ M_cX12_train d 97 [some (.ref 75), some (.int l1), some (.int l2), some (.int l3), none, none] [.int r] σ Q))) ?_ (fun k3 k3_h => ?_)
              · refine j_iconst (pc' := 97) (x := (0 : Int32)) rfl rfl rfl ?_
                exact j_end (fun _ h => h)
              · refine j_two (pT := 83) (pF := 96) (L1 := [some (.ref 75), some (.int l1), some (.int l2), some (.int l3), none, none]) (st1 := []) (fun o kT kF => ?_) (fun h3 => ?_) (fun h3 => ?_)
                · refine j_icne (t := 96) (pc' := 83) rfl rfl rfl (fun h4 => ?_) (fun h4 => ?_)
                  · exact kF h4
                  · exact kT h4
                · refine j_aload_n (pc' := 84) rfl rfl rfl ?_
                  refine j_iload_n (pc' := 85) rfl rfl rfl ?_
                  refine j_i2l (pc' := 86) rfl rfl ?_
                  refine j_callPi (pc' := 89) (ai := 201) (vs := [.ref 75, .long (l3).toInt64]) (rest := []) rfl rfl (fun _ _ => rfl) (c_X12_isHole (l3).toInt64 σ) (j_dd rfl hd) rfl (fun v4 => ?_)
                  refine j_two (pT := 92) (pF := 96) (L1 := [some (.ref 75), some (.int l1), some (.int l2), some (.int l3), none, none]) (st1 := []) (fun o kT kF => ?_) (fun h1 => ?_) (fun h1 => ?_)
                  · refine j_ifeq (t := 96) (pc' := 92) rfl rfl rfl (fun h2 => ?_) (fun h2 => ?_)
                    · exact kF (fun z => z h2)
                    · exact kT h2
                  · refine j_iconst (pc' := 93) (x := (1 : Int32)) rfl rfl rfl ?_
                    refine j_goto (t := 97) rfl rfl ?_
                    exact j_end (fun _ h => h)
                  · exact k3_h 
                · exact k3_h 
    show j_J false τ M_cX12_train d 97 [some (.ref 75), some (.int l1), some (.int l2), some (.int l3), none, none] [.int v2] σ _ _
    refine j_istore (pc' := 99) (L' := [some (.ref 75), some (.int l1), some (.int l2), some (.int l3), some (.int v2), none]) rfl rfl rfl ?_
    refine j_iload (pc' := 101) rfl rfl rfl ?_
    refine j_two (pT := 104) (pF := 107) (L1 := [some (.ref 75), some (.int l1), some (.int l2), some (.int l3), some (.int v2), none]) (st1 := []) (fun o kT kF => ?_) (fun h13 => ?_) (fun h13 => ?_)
    · refine j_ifne (t := 107) (pc' := 104) rfl rfl rfl (fun h14 => ?_) (fun h14 => ?_)
      · exact kF h14
      · exact kT h14
    · refine j_bipush (pc' := 106) (x := (-2 : Int32)) rfl rfl rfl ?_
      exact j_ret rfl rfl rfl (fun _ h => h)
    · refine j_aload_n (pc' := 108) rfl rfl rfl ?_
      refine j_iload_n (pc' := 109) rfl rfl rfl ?_
      refine j_iload_n (pc' := 110) rfl rfl rfl ?_
      refine j_callPi (pc' := 113) (ai := 207) (vs := [.ref 75, .int l1, .int l2]) (rest := []) rfl rfl (fun _ _ => rfl) (c_X12_of l1 l2 σ) (j_dd rfl hd) rfl (fun v5 => ?_)
      refine j_istore (pc' := 115) (L' := [some (.ref 75), some (.int l1), some (.int l2), some (.int l3), some (.int v2), some (.int v5)]) rfl rfl rfl ?_
      refine j_aload_n (pc' := 116) rfl rfl rfl ?_
      refine j_gfr (pc' := 119) (x := 76) rfl rfl j_a75 rfl rfl ?_
      refine j_bipush (pc' := 121) (x := (96 : Int32)) rfl rfl rfl ?_
      refine j_iconst (pc' := 122) (x := (5 : Int32)) rfl rfl rfl ?_
      refine j_iload_n (pc' := 123) rfl rfl rfl ?_
      refine j_imul (pc' := 124) rfl rfl ?_
      refine j_iadd (pc' := 125) rfl rfl ?_
      refine j_iload_n (pc' := 126) rfl rfl rfl ?_
      refine j_iadd (pc' := 127) rfl rfl ?_
      refine j_iload_n (pc' := 128) rfl rfl rfl ?_
      refine j_iast (pc' := 129) rfl rfl j_a76 (fun σ6 => ?_)
      refine j_iload (pc' := 131) rfl rfl rfl ?_
      exact j_ret rfl rfl rfl (fun _ h => h)

noncomputable def f_X11_isSeed (l0 : Int32) : Int32 :=
  if (¬ l0 < 0) ∧ (¬ (2000000000 : Int32) < l0) then ((1 : Int32)) else ((0 : Int32))

theorem b_X11_isSeed (l0 : Int32) : f_X11_isSeed l0 = 0 ∨ f_X11_isSeed l0 = 1 := by
  unfold f_X11_isSeed
  repeat' split
  all_goals first | exact Or.inl rfl | exact Or.inr rfl
theorem c_X11_isSeed (l0 : Int32) (σ : j_G) : j_K true 0 184 [.int l0] σ (some (f_X11_isSeed l0)) (j_Pi σ) := by
  refine j_mkK (M := M_cX11_isSeed) (L := [some (.int l0)]) (m := 0) t_184 rfl (j_rcvS rfl) rfl (fun d hd τ => ?_)
  unfold f_X11_isSeed
  refine j_iload_n (pc' := 1) rfl rfl rfl ?_
  refine j_twoT (pT := 11) (pF := 15) (L1 := [some (.int l0)]) (st1 := []) (fun o kT kF => ?_) (fun h1 => ?_) (fun h1 => ?_)
  · refine j_iflt (t := 15) (pc' := 4) rfl rfl rfl (fun h2 => ?_) (fun h2 => ?_)
    · exact kF (fun z => z.1 h2)
    · refine j_iload_n (pc' := 5) rfl rfl rfl ?_
      refine j_ldc_w (pc' := 8) (x := (2000000000 : Int32)) rfl rfl rfl ?_
      refine j_icgt (t := 15) (pc' := 11) rfl rfl rfl (fun h3 => ?_) (fun h3 => ?_)
      · exact kF (fun z => (fun z => z h3) z.2)
      · exact kT (⟨h2, h3⟩)
  · refine j_iconst (pc' := 12) (x := (1 : Int32)) rfl rfl rfl ?_
    refine j_goto (t := 16) rfl rfl ?_
    exact j_ret rfl rfl rfl (fun _ h => h)
  · refine j_iconst (pc' := 16) (x := (0 : Int32)) rfl rfl rfl ?_
    exact j_ret rfl rfl rfl (fun _ h => h)

noncomputable def p_X4_nthLet_6 (l1 : Int32) (l2 : Int32) (l3 : Int32) (l4 : Int32) (σ : j_G) : Nat → Int32 → Int32 → Option Int32
  | 0, _, _ => none
  | n + 1, l5, l6 =>
    if l6 < (f_X2_holes 1 σ) then (j_lt (fun (v3 : Int32) => (p_X4_nthLet_6 l1 l2 l3 l4 σ n v3 (l6 + (1 : Int32)))) fun (k1 : Int32 → Option Int32) =>
    if (f_X2_isShut 1 l6 σ) = 0 then (j_b1 (f_X2_lets l1 l2 l3 l6 σ) fun v2 =>
    if ¬ v2 = 0 then (if l5 = l4 then (some l6) else (k1 (l5 + (1 : Int32)))) else (k1 l5)) else (k1 l5)) else (some (-1 : Int32))

noncomputable def f_X4_nthLet (l1 : Int32) (l2 : Int32) (l3 : Int32) (l4 : Int32) (σ : j_G) : Option Int32 :=
  p_X4_nthLet_6 l1 l2 l3 l4 σ j_F (0 : Int32) (0 : Int32)
theorem l_X4_nthLet_6 {d : Nat} (hd : 2 ≤ d) (τ : j_G) (l1 : Int32) (l2 : Int32) (l3 : Int32) (l4 : Int32) (σ : j_G) : ∀ (n : Nat) (l5 : Int32) (l6 : Int32), j_J true τ M_cX4_nthLet d 6 [some (.ref 1), some (.int l1), some (.int l2), some (.int l3), some (.int l4), some (.int l5), some (.int l6)] [] σ (p_X4_nthLet_6 l1 l2 l3 l4 σ n l5 l6) (j_Pi σ) := by
  intro n
  induction n with
  | zero => intro l5 l6; exact j_none
  | succ n ih =>
    intro l5 l6
    unfold p_X4_nthLet_6
    refine j_iload (pc' := 8) rfl rfl rfl ?_
    refine j_aload_n (pc' := 9) rfl rfl rfl ?_
    refine j_callTi (pc' := 12) (ai := 12) (vs := [.ref 1]) (rest := [.int l6]) rfl rfl (fun _ _ => rfl) (c_X2_holes_1  σ) (j_dd rfl hd) rfl ?_
    refine j_two (pT := 15) (pF := 55) (L1 := [some (.ref 1), some (.int l1), some (.int l2), some (.int l3), some (.int l4), some (.int l5), some (.int l6)]) (st1 := []) (fun o kT kF => ?_) (fun h7 => ?_) (fun h7 => ?_)
    · refine j_icge (t := 55) (pc' := 15) rfl rfl rfl (fun h8 => ?_) (fun h8 => ?_)
      · exact kF h8
      · exact kT h8
    · refine j_aload_n (pc' := 16) rfl rfl rfl ?_
      refine j_iload (pc' := 18) rfl rfl rfl ?_
      refine j_callTi (pc' := 21) (ai := 16) (vs := [.ref 1, .int l6]) (rest := []) rfl rfl (fun _ _ => rfl) (c_X2_isShut_1 l6 σ) (j_dd rfl hd) rfl ?_
      refine j_jn (P := (fun k => ∀ (v3 : Int32), j_J true τ M_cX4_nthLet d 49 [some (.ref 1), some (.int l1), some (.int l2), some (.int l3), some (.int l4), some (.int v3), some (.int l6)] [] σ (k v3) (j_Pi σ))) ?_ (fun k1 k1_h => ?_)
      · intro v3
        refine j_iincx (pc' := 52) (y := (1 : Int32)) (L' := [some (.ref 1), some (.int l1), some (.int l2), some (.int l3), some (.int l4), some (.int v3), some (.int (l6 + (1 : Int32)))]) rfl rfl rfl rfl rfl ?_
        refine j_goto (t := 6) rfl rfl ?_
        exact ih v3 (l6 + (1 : Int32))
      · refine j_two (pT := 24) (pF := 49) (L1 := [some (.ref 1), some (.int l1), some (.int l2), some (.int l3), some (.int l4), some (.int l5), some (.int l6)]) (st1 := []) (fun o kT kF => ?_) (fun h5 => ?_) (fun h5 => ?_)
        · refine j_ifne (t := 49) (pc' := 24) rfl rfl rfl (fun h6 => ?_) (fun h6 => ?_)
          · exact kF h6
          · exact kT h6
        · refine j_aload_n (pc' := 25) rfl rfl rfl ?_
          refine j_iload_n (pc' := 26) rfl rfl rfl ?_
          refine j_iload_n (pc' := 27) rfl rfl rfl ?_
          refine j_iload_n (pc' := 28) rfl rfl rfl ?_
          refine j_iload (pc' := 30) rfl rfl rfl ?_
          refine j_callPi (pc' := 33) (ai := 27) (vs := [.ref 1, .int l1, .int l2, .int l3, .int l6]) (rest := []) rfl rfl (fun _ _ => rfl) (c_X2_lets l1 l2 l3 l6 σ) (j_dd rfl hd) rfl (fun v2 => ?_)
          refine j_two (pT := 36) (pF := 49) (L1 := [some (.ref 1), some (.int l1), some (.int l2), some (.int l3), some (.int l4), some (.int l5), some (.int l6)]) (st1 := []) (fun o kT kF => ?_) (fun h3 => ?_) (fun h3 => ?_)
          · refine j_ifeq (t := 49) (pc' := 36) rfl rfl rfl (fun h4 => ?_) (fun h4 => ?_)
            · exact kF (fun z => z h4)
            · exact kT h4
          · refine j_iload (pc' := 38) rfl rfl rfl ?_
            refine j_iload (pc' := 40) rfl rfl rfl ?_
            refine j_two (pT := 43) (pF := 46) (L1 := [some (.ref 1), some (.int l1), some (.int l2), some (.int l3), some (.int l4), some (.int l5), some (.int l6)]) (st1 := []) (fun o kT kF => ?_) (fun h1 => ?_) (fun h1 => ?_)
            · refine j_icne (t := 46) (pc' := 43) rfl rfl rfl (fun h2 => ?_) (fun h2 => ?_)
              · exact kF h2
              · exact kT h2
            · refine j_iload (pc' := 45) rfl rfl rfl ?_
              exact j_ret rfl rfl rfl (fun _ h => h)
            · refine j_iincx (pc' := 49) (y := (1 : Int32)) (L' := [some (.ref 1), some (.int l1), some (.int l2), some (.int l3), some (.int l4), some (.int (l5 + (1 : Int32))), some (.int l6)]) rfl rfl rfl rfl rfl ?_
              exact k1_h (l5 + (1 : Int32))
          · exact k1_h l5
        · exact k1_h l5
    · refine j_iconst (pc' := 56) (x := (-1 : Int32)) rfl rfl rfl ?_
      exact j_ret rfl rfl rfl (fun _ h => h)

theorem c_X4_nthLet (l1 : Int32) (l2 : Int32) (l3 : Int32) (l4 : Int32) (σ : j_G) : j_K true 2 44 [.ref 1, .int l1, .int l2, .int l3, .int l4] σ (f_X4_nthLet l1 l2 l3 l4 σ) (j_Pi σ) := by
  refine j_mkK (M := M_cX4_nthLet) (L := [some (.ref 1), some (.int l1), some (.int l2), some (.int l3), some (.int l4), none, none]) (m := 2) t_44 rfl (j_rcvS rfl) rfl (fun d hd τ => ?_)
  unfold f_X4_nthLet
  refine j_iconst (pc' := 1) (x := (0 : Int32)) rfl rfl rfl ?_
  refine j_istore (pc' := 3) (L' := [some (.ref 1), some (.int l1), some (.int l2), some (.int l3), some (.int l4), some (.int (0 : Int32)), none]) rfl rfl rfl ?_
  refine j_iconst (pc' := 4) (x := (0 : Int32)) rfl rfl rfl ?_
  refine j_istore (pc' := 6) (L' := [some (.ref 1), some (.int l1), some (.int l2), some (.int l3), some (.int l4), some (.int (0 : Int32)), some (.int (0 : Int32))]) rfl rfl rfl ?_
  exact (l_X4_nthLet_6 hd τ l1 l2 l3 l4 σ j_F (0 : Int32) (0 : Int32))

noncomputable def p_X4_draw_38 (l3 : Int32) (l4 : Int64) (l6 : Int32) (l7 : Int32) (l8 : Int32) (σ : j_G) : Nat → Int32 → Int32 → Option Int32
  | 0, _, _ => none
  | n + 1, l9, l10 =>
    if l10 < (f_X2_holes 1 σ) then (j_b1 (if (f_X2_isShut 1 l10 σ) = 0 then (j_b1 (f_X2_lets l3 l6 l7 l10 σ) fun v2 =>
    if ¬ v2 = 0 then (some (l9 + (1 : Int32))) else (some l9)) else (some l9)) fun v1 =>
    p_X4_draw_38 l3 l4 l6 l7 l8 σ n v1 (l10 + (1 : Int32))) else (some l9)

noncomputable def p_X4_draw_17 (l3 : Int32) : Nat → Int64 → Int32 → Int32 → Int32 → j_G → Option j_G
  | 0, _, _, _, _, _ => none
  | n + 1, l4, l6, l7, l8, σ =>
    if l8 < (60 : Int32) then (j_b1 (f_X4_hasRoom σ) fun v1 =>
    if ¬ v1 = 0 then (j_b1 (p_X4_draw_38 l3 l4 l6 l7 l8 σ j_F (0 : Int32) (0 : Int32)) fun v2 =>
    if v2 = 0 then (some σ) else (if (2147483648 : Int64) = 0 then none else (
    j_lt ((((1103515245 : Int64) * l4) + (12345 : Int64)) - (((1103515245 : Int64) * l4) + (12345 : Int64)) / (2147483648 : Int64) * (2147483648 : Int64)) fun v3 =>
    if (65536 : Int64) = 0 then none else (
    if (v2).toInt64 = 0 then none else (
    j_b1 (f_X4_nthLet l3 l6 l7 (((v3 / (65536 : Int64)) - (v3 / (65536 : Int64)) / (v2).toInt64 * (v2).toInt64)).toInt32 σ) fun v4 =>
    j_b1 (f_X4_add v4 (-1 : Int32) (0 : Int32) σ) fun σ5 =>
    p_X4_draw_17 l3 n v3 l7 v4 (l8 + (1 : Int32)) σ5))))) else (some σ)) else (some σ)

noncomputable def f_X4_draw (l2 : Int32) (l3 : Int32) (σ : j_G) : Option j_G :=
  j_b1 (f_X4_begin σ) fun σ1 =>
  j_lt (l2).toInt64 fun v2 =>
  p_X4_draw_17 l3 j_F v2 (-1 : Int32) (-1 : Int32) (0 : Int32) σ1
theorem l_X4_draw_38 {d : Nat} (hd : 3 ≤ d) (τ : j_G) (l3 : Int32) (l4 : Int64) (l6 : Int32) (l7 : Int32) (l8 : Int32) (σ : j_G) : ∀ (n : Nat) (l9 : Int32) (l10 : Int32), j_J true τ M_cX4_draw d 38 [some (.ref 22), some (.ref 1), none, some (.int l3), some (.long l4), none, some (.int l6), some (.int l7), some (.int l8), some (.int l9), some (.int l10)] [] σ (p_X4_draw_38 l3 l4 l6 l7 l8 σ n l9 l10) (fun r Q => j_Tr true τ M_cX4_draw d 79 [some (.ref 22), some (.ref 1), none, some (.int l3), some (.long l4), none, some (.int l6), some (.int l7), some (.int l8), some (.int r), none] [] σ Q) := by
  intro n
  induction n with
  | zero => intro l9 l10; exact j_none
  | succ n ih =>
    intro l9 l10
    unfold p_X4_draw_38
    refine j_iload (pc' := 40) rfl rfl rfl ?_
    refine j_aload_n (pc' := 41) rfl rfl rfl ?_
    refine j_callTi (pc' := 44) (ai := 12) (vs := [.ref 1]) (rest := [.int l10]) rfl rfl (fun _ _ => rfl) (c_X2_holes_1  σ) (j_dd rfl hd) rfl ?_
    refine j_two (pT := 47) (pF := 79) (L1 := [some (.ref 22), some (.ref 1), none, some (.int l3), some (.long l4), none, some (.int l6), some (.int l7), some (.int l8), some (.int l9), some (.int l10)]) (st1 := []) (fun o kT kF => ?_) (fun h5 => ?_) (fun h5 => ?_)
    · refine j_icge (t := 79) (pc' := 47) rfl rfl rfl (fun h6 => ?_) (fun h6 => ?_)
      · exact kF h6
      · exact kT h6
    · refine j_aload_n (pc' := 48) rfl rfl rfl ?_
      refine j_iload (pc' := 50) rfl rfl rfl ?_
      refine j_callTi (pc' := 53) (ai := 16) (vs := [.ref 1, .int l10]) (rest := []) rfl rfl (fun _ _ => rfl) (c_X2_isShut_1 l10 σ) (j_dd rfl hd) rfl ?_
      refine j_q1 (Φl := (fun r Q => j_Tr true τ M_cX4_draw d 73 [some (.ref 22), some (.ref 1), none, some (.int l3), some (.long l4), none, some (.int l6), some (.int l7), some (.int l8), some (.int r), some (.int l10)] [] σ Q)) ?_ (fun v1 => ?_)
      · refine j_two (pT := 56) (pF := 73) (L1 := [some (.ref 22), some (.ref 1), none, some (.int l3), some (.long l4), none, some (.int l6), some (.int l7), some (.int l8), some (.int l9), some (.int l10)]) (st1 := []) (fun o kT kF => ?_) (fun h3 => ?_) (fun h3 => ?_)
        · refine j_ifne (t := 73) (pc' := 56) rfl rfl rfl (fun h4 => ?_) (fun h4 => ?_)
          · exact kF h4
          · exact kT h4
        · refine j_aload_n (pc' := 57) rfl rfl rfl ?_
          refine j_iload_n (pc' := 58) rfl rfl rfl ?_
          refine j_iload (pc' := 60) rfl rfl rfl ?_
          refine j_iload (pc' := 62) rfl rfl rfl ?_
          refine j_iload (pc' := 64) rfl rfl rfl ?_
          refine j_callPi (pc' := 67) (ai := 27) (vs := [.ref 1, .int l3, .int l6, .int l7, .int l10]) (rest := []) rfl rfl (fun _ _ => rfl) (c_X2_lets l3 l6 l7 l10 σ) (j_dd rfl hd) rfl (fun v2 => ?_)
          refine j_two (pT := 70) (pF := 73) (L1 := [some (.ref 22), some (.ref 1), none, some (.int l3), some (.long l4), none, some (.int l6), some (.int l7), some (.int l8), some (.int l9), some (.int l10)]) (st1 := []) (fun o kT kF => ?_) (fun h1 => ?_) (fun h1 => ?_)
          · refine j_ifeq (t := 73) (pc' := 70) rfl rfl rfl (fun h2 => ?_) (fun h2 => ?_)
            · exact kF (fun z => z h2)
            · exact kT h2
          · refine j_iincx (pc' := 73) (y := (1 : Int32)) (L' := [some (.ref 22), some (.ref 1), none, some (.int l3), some (.long l4), none, some (.int l6), some (.int l7), some (.int l8), some (.int (l9 + (1 : Int32))), some (.int l10)]) rfl rfl rfl rfl rfl ?_
            exact j_end (fun _ h => h)
          · exact j_end (fun _ h => h)
        · exact j_end (fun _ h => h)
      show j_J true τ M_cX4_draw d 73 [some (.ref 22), some (.ref 1), none, some (.int l3), some (.long l4), none, some (.int l6), some (.int l7), some (.int l8), some (.int v1), some (.int l10)] [] σ _ _
      refine j_iincx (pc' := 76) (y := (1 : Int32)) (L' := [some (.ref 22), some (.ref 1), none, some (.int l3), some (.long l4), none, some (.int l6), some (.int l7), some (.int l8), some (.int v1), some (.int (l10 + (1 : Int32)))]) rfl rfl rfl rfl rfl ?_
      refine j_goto (t := 38) rfl rfl ?_
      exact ih v1 (l10 + (1 : Int32))
    · refine j_wk [true, true, true, true, true, true, true, true, true, true, false] (L' := [some (.ref 22), some (.ref 1), none, some (.int l3), some (.long l4), none, some (.int l6), some (.int l7), some (.int l8), some (.int l9), none]) rfl ?_
      exact j_end (fun _ h => h)

theorem l_X4_draw_17 {d : Nat} (hd : 3 ≤ d) (τ : j_G) (l3 : Int32) : ∀ (n : Nat) (l4 : Int64) (l6 : Int32) (l7 : Int32) (l8 : Int32) (σ : j_G), j_J true τ M_cX4_draw d 17 [some (.ref 22), some (.ref 1), none, some (.int l3), some (.long l4), none, some (.int l6), some (.int l7), some (.int l8), none, none] [] σ (p_X4_draw_17 l3 n l4 l6 l7 l8 σ) j_Rv := by
  intro n
  induction n with
  | zero => intro l4 l6 l7 l8 σ; exact j_none
  | succ n ih =>
    intro l4 l6 l7 l8 σ
    unfold p_X4_draw_17
    refine j_iload (pc' := 19) rfl rfl rfl ?_
    refine j_bipush (pc' := 21) (x := (60 : Int32)) rfl rfl rfl ?_
    refine j_two (pT := 24) (pF := 146) (L1 := [some (.ref 22), some (.ref 1), none, some (.int l3), some (.long l4), none, some (.int l6), some (.int l7), some (.int l8), none, none]) (st1 := []) (fun o kT kF => ?_) (fun h5 => ?_) (fun h5 => ?_)
    · refine j_icge (t := 146) (pc' := 24) rfl rfl rfl (fun h6 => ?_) (fun h6 => ?_)
      · exact kF h6
      · exact kT h6
    · refine j_aload_n (pc' := 25) rfl rfl rfl ?_
      refine j_aload_n (pc' := 26) rfl rfl rfl ?_
      refine j_callPi (pc' := 29) (ai := 46) (vs := [.ref 22, .ref 1]) (rest := []) rfl rfl (fun _ _ => rfl) (c_X4_hasRoom  σ) (j_dd rfl hd) rfl (fun v1 => ?_)
      refine j_two (pT := 32) (pF := 146) (L1 := [some (.ref 22), some (.ref 1), none, some (.int l3), some (.long l4), none, some (.int l6), some (.int l7), some (.int l8), none, none]) (st1 := []) (fun o kT kF => ?_) (fun h3 => ?_) (fun h3 => ?_)
      · refine j_ifeq (t := 146) (pc' := 32) rfl rfl rfl (fun h4 => ?_) (fun h4 => ?_)
        · exact kF (fun z => z h4)
        · exact kT h4
      · refine j_iconst (pc' := 33) (x := (0 : Int32)) rfl rfl rfl ?_
        refine j_istore (pc' := 35) (L' := [some (.ref 22), some (.ref 1), none, some (.int l3), some (.long l4), none, some (.int l6), some (.int l7), some (.int l8), some (.int (0 : Int32)), none]) rfl rfl rfl ?_
        refine j_iconst (pc' := 36) (x := (0 : Int32)) rfl rfl rfl ?_
        refine j_istore (pc' := 38) (L' := [some (.ref 22), some (.ref 1), none, some (.int l3), some (.long l4), none, some (.int l6), some (.int l7), some (.int l8), some (.int (0 : Int32)), some (.int (0 : Int32))]) rfl rfl rfl ?_
        refine j_q1 (l_X4_draw_38 hd τ l3 l4 l6 l7 l8 σ j_F (0 : Int32) (0 : Int32)) (fun v2 => ?_)
        show j_J true τ M_cX4_draw d 79 [some (.ref 22), some (.ref 1), none, some (.int l3), some (.long l4), none, some (.int l6), some (.int l7), some (.int l8), some (.int v2), none] [] σ _ _
        refine j_iload (pc' := 81) rfl rfl rfl ?_
        refine j_two (pT := 84) (pF := 85) (L1 := [some (.ref 22), some (.ref 1), none, some (.int l3), some (.long l4), none, some (.int l6), some (.int l7), some (.int l8), some (.int v2), none]) (st1 := []) (fun o kT kF => ?_) (fun h1 => ?_) (fun h1 => ?_)
        · refine j_ifne (t := 85) (pc' := 84) rfl rfl rfl (fun h2 => ?_) (fun h2 => ?_)
          · exact kF h2
          · exact kT h2
        · exact j_ret rfl rfl rfl (fun _ h => h)
        · refine j_ldc2_w (pc' := 88) (x := (1103515245 : Int64)) rfl rfl rfl ?_
          refine j_lload (pc' := 90) rfl rfl rfl ?_
          refine j_lmul (pc' := 91) rfl rfl ?_
          refine j_ldc2_w (pc' := 94) (x := (12345 : Int64)) rfl rfl rfl ?_
          refine j_ladd (pc' := 95) rfl rfl ?_
          refine j_ldc2_w (pc' := 98) (x := (2147483648 : Int64)) rfl rfl rfl ?_
          refine j_lrem (pc' := 99) rfl rfl ?_
          refine j_letl (fun v3 => ?_)
          refine j_lstore (pc' := 101) (L' := [some (.ref 22), some (.ref 1), none, some (.int l3), some (.long v3), none, some (.int l6), some (.int l7), some (.int l8), some (.int v2), none]) rfl rfl rfl ?_
          refine j_aload_n (pc' := 102) rfl rfl rfl ?_
          refine j_iload_n (pc' := 103) rfl rfl rfl ?_
          refine j_iload (pc' := 105) rfl rfl rfl ?_
          refine j_iload (pc' := 107) rfl rfl rfl ?_
          refine j_lload (pc' := 109) rfl rfl rfl ?_
          refine j_ldc2_w (pc' := 112) (x := (65536 : Int64)) rfl rfl rfl ?_
          refine j_ldiv (pc' := 113) rfl rfl ?_
          refine j_iload (pc' := 115) rfl rfl rfl ?_
          refine j_i2l (pc' := 116) rfl rfl ?_
          refine j_lrem (pc' := 117) rfl rfl ?_
          refine j_l2i (pc' := 118) rfl rfl ?_
          refine j_callPi (pc' := 121) (ai := 44) (vs := [.ref 1, .int l3, .int l6, .int l7, .int (((v3 / (65536 : Int64)) - (v3 / (65536 : Int64)) / (v2).toInt64 * (v2).toInt64)).toInt32]) (rest := []) rfl rfl (fun _ _ => rfl) (c_X4_nthLet l3 l6 l7 (((v3 / (65536 : Int64)) - (v3 / (65536 : Int64)) / (v2).toInt64 * (v2).toInt64)).toInt32 σ) (j_dd rfl hd) rfl (fun v4 => ?_)
          refine j_istore (pc' := 123) (L' := [some (.ref 22), some (.ref 1), none, some (.int l3), some (.long v3), none, some (.int l6), some (.int l7), some (.int l8), some (.int v2), some (.int v4)]) rfl rfl rfl ?_
          refine j_aload_n (pc' := 124) rfl rfl rfl ?_
          refine j_aload_n (pc' := 125) rfl rfl rfl ?_
          refine j_iload (pc' := 127) rfl rfl rfl ?_
          refine j_iconst (pc' := 128) (x := (-1 : Int32)) rfl rfl rfl ?_
          refine j_iconst (pc' := 129) (x := (0 : Int32)) rfl rfl rfl ?_
          refine j_callRv (pc' := 132) (ai := 47) (vs := [.ref 22, .ref 1, .int v4, .int (-1 : Int32), .int (0 : Int32)]) (rest := []) rfl rfl (fun _ _ => rfl) (c_X4_add v4 (-1 : Int32) (0 : Int32) σ) (j_dd rfl hd) rfl (fun σ5 => ?_)
          refine j_iload (pc' := 134) rfl rfl rfl ?_
          refine j_istore (pc' := 136) (L' := [some (.ref 22), some (.ref 1), none, some (.int l3), some (.long v3), none, some (.int l7), some (.int l7), some (.int l8), some (.int v2), some (.int v4)]) rfl rfl rfl ?_
          refine j_iload (pc' := 138) rfl rfl rfl ?_
          refine j_istore (pc' := 140) (L' := [some (.ref 22), some (.ref 1), none, some (.int l3), some (.long v3), none, some (.int l7), some (.int v4), some (.int l8), some (.int v2), some (.int v4)]) rfl rfl rfl ?_
          refine j_iincx (pc' := 143) (y := (1 : Int32)) (L' := [some (.ref 22), some (.ref 1), none, some (.int l3), some (.long v3), none, some (.int l7), some (.int v4), some (.int (l8 + (1 : Int32))), some (.int v2), some (.int v4)]) rfl rfl rfl rfl rfl ?_
          refine j_goto (t := 17) rfl rfl ?_
          refine j_wk [true, true, true, true, true, true, true, true, true, false, false] (L' := [some (.ref 22), some (.ref 1), none, some (.int l3), some (.long v3), none, some (.int l7), some (.int v4), some (.int (l8 + (1 : Int32))), none, none]) rfl ?_
          exact ih v3 l7 v4 (l8 + (1 : Int32)) σ5
      · exact j_ret rfl rfl rfl (fun _ h => h)
    · exact j_ret rfl rfl rfl (fun _ h => h)

theorem c_X4_draw (l2 : Int32) (l3 : Int32) (σ : j_G) : j_K true 3 43 [.ref 22, .ref 1, .int l2, .int l3] σ (f_X4_draw l2 l3 σ) j_Rv := by
  refine j_mkK (M := M_cX4_draw) (L := [some (.ref 22), some (.ref 1), some (.int l2), some (.int l3), none, none, none, none, none, none, none]) (m := 7) t_43 rfl (j_rcvO j_a22 rfl) rfl (fun d hd τ => ?_)
  unfold f_X4_draw
  refine j_aload_n (pc' := 1) rfl rfl rfl ?_
  refine j_callRv (pc' := 4) (ai := 45) (vs := [.ref 22]) (rest := []) rfl rfl (fun _ _ => rfl) (c_X4_begin  σ) (j_dd rfl hd) rfl (fun σ1 => ?_)
  refine j_iload_n (pc' := 5) rfl rfl rfl ?_
  refine j_i2l (pc' := 6) rfl rfl ?_
  refine j_letl (fun v2 => ?_)
  refine j_lstore (pc' := 8) (L' := [some (.ref 22), some (.ref 1), some (.int l2), some (.int l3), some (.long v2), none, none, none, none, none, none]) rfl rfl rfl ?_
  refine j_iconst (pc' := 9) (x := (-1 : Int32)) rfl rfl rfl ?_
  refine j_istore (pc' := 11) (L' := [some (.ref 22), some (.ref 1), some (.int l2), some (.int l3), some (.long v2), none, some (.int (-1 : Int32)), none, none, none, none]) rfl rfl rfl ?_
  refine j_iconst (pc' := 12) (x := (-1 : Int32)) rfl rfl rfl ?_
  refine j_istore (pc' := 14) (L' := [some (.ref 22), some (.ref 1), some (.int l2), some (.int l3), some (.long v2), none, some (.int (-1 : Int32)), some (.int (-1 : Int32)), none, none, none]) rfl rfl rfl ?_
  refine j_iconst (pc' := 15) (x := (0 : Int32)) rfl rfl rfl ?_
  refine j_istore (pc' := 17) (L' := [some (.ref 22), some (.ref 1), some (.int l2), some (.int l3), some (.long v2), none, some (.int (-1 : Int32)), some (.int (-1 : Int32)), some (.int (0 : Int32)), none, none]) rfl rfl rfl ?_
  refine j_wk [true, true, false, true, true, true, true, true, true, true, true] (L' := [some (.ref 22), some (.ref 1), none, some (.int l3), some (.long v2), none, some (.int (-1 : Int32)), some (.int (-1 : Int32)), some (.int (0 : Int32)), none, none]) rfl ?_
  exact (l_X4_draw_17 hd τ l3 j_F v2 (-1 : Int32) (-1 : Int32) (0 : Int32) σ1)

noncomputable def f_X11_drawn (l1 : Int32) (l2 : Int32) (l3 : Int32) (σ : j_G) : Option (Int32 × j_G) :=
  if ((f_X2_isTold σ) = 0) ∨ (((f_X11_isSeed l1) = 0) ∨ ((f_X11_isLaw l2) = 0)) then (some ((-2 : Int32), σ)) else (j_b1 (f_X4_draw l1 l2 σ) fun σ1 =>
  if ¬ (f_X4_has l3 σ1) = 0 then (j_ix l3 60 (
  some ((σ1.1 23 (l3).toNatClampNeg), σ1))) else (some ((-1 : Int32), σ1)))
theorem c_X11_drawn (l1 : Int32) (l2 : Int32) (l3 : Int32) (σ : j_G) : j_K true 4 174 [.ref 0, .int l1, .int l2, .int l3] σ (f_X11_drawn l1 l2 l3 σ) j_Ri := by
  refine j_mkK (M := M_cX11_drawn) (L := [some (.ref 0), some (.int l1), some (.int l2), some (.int l3)]) (m := 0) t_174 rfl (j_rcvO j_a0 rfl) rfl (fun d hd τ => ?_)
  unfold f_X11_drawn
  refine j_aload_n (pc' := 1) rfl rfl rfl ?_
  refine j_gfr (pc' := 4) (x := 1) rfl rfl j_a0 rfl rfl ?_
  refine j_callTi (pc' := 7) (ai := 11) (vs := [.ref 1]) (rest := []) rfl rfl (fun _ _ => rfl) (c_X2_isTold  σ) (j_dd rfl hd) rfl ?_
  refine j_two (pT := 24) (pF := 27) (L1 := [some (.ref 0), some (.int l1), some (.int l2), some (.int l3)]) (st1 := []) (fun o kT kF => ?_) (fun h3 => ?_) (fun h3 => ?_)
  · refine j_ifeq (t := 24) (pc' := 10) rfl rfl rfl (fun h4 => ?_) (fun h4 => ?_)
    · exact kT (Or.inl h4)
    · refine j_iload_n (pc' := 11) rfl rfl rfl ?_
      refine j_callTi (pc' := 14) (ai := 184) (vs := [.int l1]) (rest := []) rfl rfl (fun _ _ => rfl) (c_X11_isSeed l1 σ) (j_dd rfl hd) rfl ?_
      refine j_ifeq (t := 24) (pc' := 17) rfl rfl rfl (fun h5 => ?_) (fun h5 => ?_)
      · exact kT (Or.inr (Or.inl h5))
      · refine j_iload_n (pc' := 18) rfl rfl rfl ?_
        refine j_callTi (pc' := 21) (ai := 183) (vs := [.int l2]) (rest := []) rfl rfl (fun _ _ => rfl) (c_X11_isLaw l2 σ) (j_dd rfl hd) rfl ?_
        refine j_ifne (t := 27) (pc' := 24) rfl rfl rfl (fun h6 => ?_) (fun h6 => ?_)
        · exact kF (fun z => z.elim h4 (fun z => z.elim h5 (h6)))
        · exact kT (Or.inr (Or.inr (h6)))
  · refine j_bipush (pc' := 26) (x := (-2 : Int32)) rfl rfl rfl ?_
    exact j_ret rfl rfl rfl (fun _ h => h)
  · refine j_aload_n (pc' := 28) rfl rfl rfl ?_
    refine j_gfr (pc' := 31) (x := 22) rfl rfl j_a0 rfl rfl ?_
    refine j_aload_n (pc' := 32) rfl rfl rfl ?_
    refine j_gfr (pc' := 35) (x := 1) rfl rfl j_a0 rfl rfl ?_
    refine j_iload_n (pc' := 36) rfl rfl rfl ?_
    refine j_iload_n (pc' := 37) rfl rfl rfl ?_
    refine j_callRv (pc' := 40) (ai := 43) (vs := [.ref 22, .ref 1, .int l1, .int l2]) (rest := []) rfl rfl (fun _ _ => rfl) (c_X4_draw l1 l2 σ) (j_dd rfl hd) rfl (fun σ1 => ?_)
    refine j_aload_n (pc' := 41) rfl rfl rfl ?_
    refine j_gfr (pc' := 44) (x := 22) rfl rfl j_a0 rfl rfl ?_
    refine j_iload_n (pc' := 45) rfl rfl rfl ?_
    refine j_callTi (pc' := 48) (ai := 41) (vs := [.ref 22, .int l3]) (rest := []) rfl rfl (fun _ _ => rfl) (c_X4_has l3 σ1) (j_dd rfl hd) rfl ?_
    refine j_two (pT := 51) (pF := 63) (L1 := [some (.ref 0), some (.int l1), some (.int l2), some (.int l3)]) (st1 := []) (fun o kT kF => ?_) (fun h1 => ?_) (fun h1 => ?_)
    · refine j_ifeq (t := 63) (pc' := 51) rfl rfl rfl (fun h2 => ?_) (fun h2 => ?_)
      · exact kF (fun z => z h2)
      · exact kT h2
    · refine j_aload_n (pc' := 52) rfl rfl rfl ?_
      refine j_gfr (pc' := 55) (x := 22) rfl rfl j_a0 rfl rfl ?_
      refine j_gfr (pc' := 58) (x := 23) rfl rfl j_a22 rfl rfl ?_
      refine j_iload_n (pc' := 59) rfl rfl rfl ?_
      refine j_iald (pc' := 60) rfl rfl j_a23 ?_
      refine j_goto (t := 64) rfl rfl ?_
      exact j_ret rfl rfl rfl (fun _ h => h)
    · refine j_iconst (pc' := 64) (x := (-1 : Int32)) rfl rfl rfl ?_
      exact j_ret rfl rfl rfl (fun _ h => h)

noncomputable def f_X12_isSeed (l0 : Int32) : Int32 :=
  (f_X12_in (l0).toInt64 (0 : Int64) (2000000000 : Int64))

theorem b_X12_isSeed (l0 : Int32) : f_X12_isSeed l0 = 0 ∨ f_X12_isSeed l0 = 1 := by
  unfold f_X12_isSeed
  exact (b_X12_in (l0).toInt64 (0 : Int64) (2000000000 : Int64))
theorem c_X12_isSeed (l0 : Int32) (σ : j_G) : j_K false 1 345 [.int l0] σ (some (f_X12_isSeed l0)) (j_Pi σ) := by
  refine j_mkK (M := M_cX12_isSeed) (L := [some (.int l0)]) (m := 0) t_345 rfl (j_rcvS rfl) rfl (fun d hd τ => ?_)
  unfold f_X12_isSeed
  refine j_iload_n (pc' := 1) rfl rfl rfl ?_
  refine j_i2l (pc' := 2) rfl rfl ?_
  refine j_lconst (pc' := 3) (x := (0 : Int64)) rfl rfl rfl ?_
  refine j_ldc2_w (pc' := 6) (x := (2000000000 : Int64)) rfl rfl rfl ?_
  refine j_callTi (pc' := 9) (ai := 196) (vs := [.long (l0).toInt64, .long (0 : Int64), .long (2000000000 : Int64)]) (rest := []) rfl rfl (fun _ _ => rfl) (c_X12_in (l0).toInt64 (0 : Int64) (2000000000 : Int64) σ) (j_dd rfl hd) rfl ?_
  exact j_retb rfl rfl (b_X12_in (l0).toInt64 (0 : Int64) (2000000000 : Int64)) (fun _ h => h)

noncomputable def f_X12_draw (l1 : Int32) (σ : j_G) : Option (Int32 × j_G) :=
  if (2147483648 : Int64) = 0 then none else (
  j_lt (j_sl σ 75 42 ((((1103515245 : Int64) * (σ.2 75 42)) + (12345 : Int64)) - (((1103515245 : Int64) * (σ.2 75 42)) + (12345 : Int64)) / (2147483648 : Int64) * (2147483648 : Int64))) fun σ1 =>
  if (65536 : Int64) = 0 then none else (
  if (l1).toInt64 = 0 then none else (
  some (((((σ1.2 75 42) / (65536 : Int64)) - ((σ1.2 75 42) / (65536 : Int64)) / (l1).toInt64 * (l1).toInt64)).toInt32, σ1))))
theorem c_X12_draw (l1 : Int32) (σ : j_G) : j_K false 0 342 [.ref 75, .int l1] σ (f_X12_draw l1 σ) j_Ri := by
  refine j_mkK (M := M_cX12_draw) (L := [some (.ref 75), some (.int l1)]) (m := 0) t_342 rfl (j_rcvO j_a75 rfl) rfl (fun d hd τ => ?_)
  unfold f_X12_draw
  refine j_aload_n (pc' := 1) rfl rfl rfl ?_
  refine j_ldc2_w (pc' := 4) (x := (1103515245 : Int64)) rfl rfl rfl ?_
  refine j_aload_n (pc' := 5) rfl rfl rfl ?_
  refine j_gfl (pc' := 8) rfl rfl j_a75 rfl ?_
  refine j_lmul (pc' := 9) rfl rfl ?_
  refine j_ldc2_w (pc' := 12) (x := (12345 : Int64)) rfl rfl rfl ?_
  refine j_ladd (pc' := 13) rfl rfl ?_
  refine j_ldc2_w (pc' := 16) (x := (2147483648 : Int64)) rfl rfl rfl ?_
  refine j_lrem (pc' := 17) rfl rfl ?_
  refine j_pfl (pc' := 20) rfl rfl j_a75 rfl rfl (fun σ1 => ?_)
  refine j_aload_n (pc' := 21) rfl rfl rfl ?_
  refine j_gfl (pc' := 24) rfl rfl j_a75 rfl ?_
  refine j_ldc2_w (pc' := 27) (x := (65536 : Int64)) rfl rfl rfl ?_
  refine j_ldiv (pc' := 28) rfl rfl ?_
  refine j_iload_n (pc' := 29) rfl rfl rfl ?_
  refine j_i2l (pc' := 30) rfl rfl ?_
  refine j_lrem (pc' := 31) rfl rfl ?_
  refine j_l2i (pc' := 32) rfl rfl ?_
  exact j_ret rfl rfl rfl (fun _ h => h)

noncomputable def p_X12_holeByLot_54 (l1 : Int32) (l2 : Int32) (l3 : Int32) (σ : j_G) : Nat → Int32 → Int32 → Option Int32
  | 0, _, _ => none
  | n + 1, l4, l5 =>
    j_b1 (f_X12_holes σ) fun v1 =>
    if l5 < v1 then (j_b1 (f_X12_lets l1 l5 l2 l3 σ) fun v2 =>
    j_lt (if ¬ v2 = 0 then ((1 : Int32)) else ((0 : Int32))) fun v3 =>
    j_lt (l4 + v3) fun v4 =>
    p_X12_holeByLot_54 l1 l2 l3 σ n v4 (l5 + (1 : Int32))) else (some l4)

noncomputable def p_X12_holeByLot_109 (l1 : Int32) (l2 : Int32) (l3 : Int32) (σ : j_G) : Nat → Int32 → Int32 → Option (Int32 × j_G)
  | 0, _, _ => none
  | n + 1, l5, l6 =>
    j_b1 (f_X12_holes σ) fun v1 =>
    if l6 < v1 then (j_b1 (f_X12_lets l1 l6 l2 l3 σ) fun v2 =>
    j_lt (fun (v4 : Int32) => (p_X12_holeByLot_109 l1 l2 l3 σ n v4 (l6 + (1 : Int32)))) fun (k3 : Int32 → Option (Int32 × j_G)) =>
    if v2 = 0 then (k3 l5) else (if l5 = 0 then (some (l6, σ)) else (k3 (l5 + (-1 : Int32))))) else (some ((-1 : Int32), σ))

noncomputable def f_X12_holeByLot (l1 : Int32) (σ : j_G) : Option (Int32 × j_G) :=
  j_b1 (if (σ.1 75 18) < (1 : Int32) then (some (-1 : Int32)) else (j_b1 (f_X12_inGame ((σ.1 75 18) - (1 : Int32)) (0 : Int32) σ) fun v2 =>
  some v2)) fun v1 =>
  j_b1 (if (σ.1 75 18) < (2 : Int32) then (some (-1 : Int32)) else (j_b1 (f_X12_inGame ((σ.1 75 18) - (2 : Int32)) (0 : Int32) σ) fun v4 =>
  some v4)) fun v3 =>
  j_b1 (p_X12_holeByLot_54 l1 v1 v3 σ j_F (0 : Int32) (0 : Int32)) fun v5 =>
  if v5 = 0 then (some ((-1 : Int32), σ)) else (j_b2 (f_X12_draw v5 σ) fun v7 σ6 =>
  p_X12_holeByLot_109 l1 v1 v3 σ6 j_F v7 (0 : Int32))
theorem l_X12_holeByLot_54 {d : Nat} (hd : 2 ≤ d) (τ : j_G) (l1 : Int32) (l2 : Int32) (l3 : Int32) (σ : j_G) : ∀ (n : Nat) (l4 : Int32) (l5 : Int32), j_J false τ M_cX12_holeByLot d 54 [some (.ref 75), some (.int l1), some (.int l2), some (.int l3), some (.int l4), some (.int l5), none] [] σ (p_X12_holeByLot_54 l1 l2 l3 σ n l4 l5) (fun r Q => j_Tr false τ M_cX12_holeByLot d 91 [some (.ref 75), some (.int l1), some (.int l2), some (.int l3), some (.int r), none, none] [] σ Q) := by
  intro n
  induction n with
  | zero => intro l4 l5; exact j_none
  | succ n ih =>
    intro l4 l5
    unfold p_X12_holeByLot_54
    refine j_iload (pc' := 56) rfl rfl rfl ?_
    refine j_aload_n (pc' := 57) rfl rfl rfl ?_
    refine j_callPi (pc' := 60) (ai := 200) (vs := [.ref 75]) (rest := [.int l5]) rfl rfl (fun _ _ => rfl) (c_X12_holes  σ) (j_dd rfl hd) rfl (fun v1 => ?_)
    refine j_two (pT := 63) (pF := 91) (L1 := [some (.ref 75), some (.int l1), some (.int l2), some (.int l3), some (.int l4), some (.int l5), none]) (st1 := []) (fun o kT kF => ?_) (fun h3 => ?_) (fun h3 => ?_)
    · refine j_icge (t := 91) (pc' := 63) rfl rfl rfl (fun h4 => ?_) (fun h4 => ?_)
      · exact kF h4
      · exact kT h4
    · refine j_iload (pc' := 65) rfl rfl rfl ?_
      refine j_aload_n (pc' := 66) rfl rfl rfl ?_
      refine j_iload_n (pc' := 67) rfl rfl rfl ?_
      refine j_iload (pc' := 69) rfl rfl rfl ?_
      refine j_iload_n (pc' := 70) rfl rfl rfl ?_
      refine j_iload_n (pc' := 71) rfl rfl rfl ?_
      refine j_callPi (pc' := 74) (ai := 290) (vs := [.ref 75, .int l1, .int l5, .int l2, .int l3]) (rest := [.int l4]) rfl rfl (fun _ _ => rfl) (c_X12_lets l1 l5 l2 l3 σ) (j_dd rfl hd) rfl (fun v2 => ?_)
      refine j_ql (Φl := (fun r Q => j_Tr false τ M_cX12_holeByLot d 82 [some (.ref 75), some (.int l1), some (.int l2), some (.int l3), none, some (.int l5), none] [.int r, .int l4] σ Q)) ?_ (fun v3 => ?_)
      · refine j_twoT (pT := 77) (pF := 81) (L1 := [some (.ref 75), some (.int l1), some (.int l2), some (.int l3), some (.int l4), some (.int l5), none]) (st1 := [.int l4]) (fun o kT kF => ?_) (fun h1 => ?_) (fun h1 => ?_)
        · refine j_ifeq (t := 81) (pc' := 77) rfl rfl rfl (fun h2 => ?_) (fun h2 => ?_)
          · exact kF (fun z => z h2)
          · exact kT h2
        · refine j_iconst (pc' := 78) (x := (1 : Int32)) rfl rfl rfl ?_
          refine j_goto (t := 82) rfl rfl ?_
          refine j_wk [true, true, true, true, false, true, true] (L' := [some (.ref 75), some (.int l1), some (.int l2), some (.int l3), none, some (.int l5), none]) rfl ?_
          exact j_end (fun _ h => h)
        · refine j_iconst (pc' := 82) (x := (0 : Int32)) rfl rfl rfl ?_
          refine j_wk [true, true, true, true, false, true, true] (L' := [some (.ref 75), some (.int l1), some (.int l2), some (.int l3), none, some (.int l5), none]) rfl ?_
          exact j_end (fun _ h => h)
      show j_J false τ M_cX12_holeByLot d 82 [some (.ref 75), some (.int l1), some (.int l2), some (.int l3), none, some (.int l5), none] [.int v3, .int l4] σ _ _
      refine j_iadd (pc' := 83) rfl rfl ?_
      refine j_leti (fun v4 => ?_)
      refine j_istore (pc' := 85) (L' := [some (.ref 75), some (.int l1), some (.int l2), some (.int l3), some (.int v4), some (.int l5), none]) rfl rfl rfl ?_
      refine j_iincx (pc' := 88) (y := (1 : Int32)) (L' := [some (.ref 75), some (.int l1), some (.int l2), some (.int l3), some (.int v4), some (.int (l5 + (1 : Int32))), none]) rfl rfl rfl rfl rfl ?_
      refine j_goto (t := 54) rfl rfl ?_
      exact ih v4 (l5 + (1 : Int32))
    · refine j_wk [true, true, true, true, true, false, true] (L' := [some (.ref 75), some (.int l1), some (.int l2), some (.int l3), some (.int l4), none, none]) rfl ?_
      exact j_end (fun _ h => h)

theorem l_X12_holeByLot_109 {d : Nat} (hd : 2 ≤ d) (τ : j_G) (l1 : Int32) (l2 : Int32) (l3 : Int32) (σ : j_G) : ∀ (n : Nat) (l5 : Int32) (l6 : Int32), j_J false τ M_cX12_holeByLot d 109 [some (.ref 75), some (.int l1), some (.int l2), some (.int l3), none, some (.int l5), some (.int l6)] [] σ (p_X12_holeByLot_109 l1 l2 l3 σ n l5 l6) j_Ri := by
  intro n
  induction n with
  | zero => intro l5 l6; exact j_none
  | succ n ih =>
    intro l5 l6
    unfold p_X12_holeByLot_109
    refine j_iload (pc' := 111) rfl rfl rfl ?_
    refine j_aload_n (pc' := 112) rfl rfl rfl ?_
    refine j_callPi (pc' := 115) (ai := 200) (vs := [.ref 75]) (rest := [.int l6]) rfl rfl (fun _ _ => rfl) (c_X12_holes  σ) (j_dd rfl hd) rfl (fun v1 => ?_)
    refine j_two (pT := 118) (pF := 150) (L1 := [some (.ref 75), some (.int l1), some (.int l2), some (.int l3), none, some (.int l5), some (.int l6)]) (st1 := []) (fun o kT kF => ?_) (fun h5 => ?_) (fun h5 => ?_)
    · refine j_icge (t := 150) (pc' := 118) rfl rfl rfl (fun h6 => ?_) (fun h6 => ?_)
      · exact kF h6
      · exact kT h6
    · refine j_aload_n (pc' := 119) rfl rfl rfl ?_
      refine j_iload_n (pc' := 120) rfl rfl rfl ?_
      refine j_iload (pc' := 122) rfl rfl rfl ?_
      refine j_iload_n (pc' := 123) rfl rfl rfl ?_
      refine j_iload_n (pc' := 124) rfl rfl rfl ?_
      refine j_callPi (pc' := 127) (ai := 290) (vs := [.ref 75, .int l1, .int l6, .int l2, .int l3]) (rest := []) rfl rfl (fun _ _ => rfl) (c_X12_lets l1 l6 l2 l3 σ) (j_dd rfl hd) rfl (fun v2 => ?_)
      refine j_jn (P := (fun k => ∀ (v4 : Int32), j_J false τ M_cX12_holeByLot d 144 [some (.ref 75), some (.int l1), some (.int l2), some (.int l3), none, some (.int v4), some (.int l6)] [] σ (k v4) j_Ri)) ?_ (fun k3 k3_h => ?_)
      · intro v4
        refine j_iincx (pc' := 147) (y := (1 : Int32)) (L' := [some (.ref 75), some (.int l1), some (.int l2), some (.int l3), none, some (.int v4), some (.int (l6 + (1 : Int32)))]) rfl rfl rfl rfl rfl ?_
        refine j_goto (t := 109) rfl rfl ?_
        exact ih v4 (l6 + (1 : Int32))
      · refine j_two (pT := 130) (pF := 133) (L1 := [some (.ref 75), some (.int l1), some (.int l2), some (.int l3), none, some (.int l5), some (.int l6)]) (st1 := []) (fun o kT kF => ?_) (fun h3 => ?_) (fun h3 => ?_)
        · refine j_ifne (t := 133) (pc' := 130) rfl rfl rfl (fun h4 => ?_) (fun h4 => ?_)
          · exact kF h4
          · exact kT h4
        · refine j_goto (t := 144) rfl rfl ?_
          exact k3_h l5
        · refine j_iload (pc' := 135) rfl rfl rfl ?_
          refine j_two (pT := 138) (pF := 141) (L1 := [some (.ref 75), some (.int l1), some (.int l2), some (.int l3), none, some (.int l5), some (.int l6)]) (st1 := []) (fun o kT kF => ?_) (fun h1 => ?_) (fun h1 => ?_)
          · refine j_ifne (t := 141) (pc' := 138) rfl rfl rfl (fun h2 => ?_) (fun h2 => ?_)
            · exact kF h2
            · exact kT h2
          · refine j_iload (pc' := 140) rfl rfl rfl ?_
            exact j_ret rfl rfl rfl (fun _ h => h)
          · refine j_iincx (pc' := 144) (y := (-1 : Int32)) (L' := [some (.ref 75), some (.int l1), some (.int l2), some (.int l3), none, some (.int (l5 + (-1 : Int32))), some (.int l6)]) rfl rfl rfl rfl rfl ?_
            exact k3_h (l5 + (-1 : Int32))
    · refine j_iconst (pc' := 151) (x := (-1 : Int32)) rfl rfl rfl ?_
      exact j_ret rfl rfl rfl (fun _ h => h)

theorem c_X12_holeByLot (l1 : Int32) (σ : j_G) : j_K false 2 343 [.ref 75, .int l1] σ (f_X12_holeByLot l1 σ) j_Ri := by
  refine j_mkK (M := M_cX12_holeByLot) (L := [some (.ref 75), some (.int l1), none, none, none, none, none]) (m := 5) t_343 rfl (j_rcvO j_a75 rfl) rfl (fun d hd τ => ?_)
  unfold f_X12_holeByLot
  refine j_aload_n (pc' := 1) rfl rfl rfl ?_
  refine j_gfi (pc' := 4) rfl rfl j_a75 rfl ?_
  refine j_iconst (pc' := 5) (x := (1 : Int32)) rfl rfl rfl ?_
  refine j_q1 (Φl := (fun r Q => j_Tr false τ M_cX12_holeByLot d 23 [some (.ref 75), some (.int l1), none, none, none, none, none] [.int r] σ Q)) ?_ (fun v1 => ?_)
  · refine j_two (pT := 8) (pF := 12) (L1 := [some (.ref 75), some (.int l1), none, none, none, none, none]) (st1 := []) (fun o kT kF => ?_) (fun h1 => ?_) (fun h1 => ?_)
    · refine j_icge (t := 12) (pc' := 8) rfl rfl rfl (fun h2 => ?_) (fun h2 => ?_)
      · exact kF h2
      · exact kT h2
    · refine j_iconst (pc' := 9) (x := (-1 : Int32)) rfl rfl rfl ?_
      refine j_goto (t := 23) rfl rfl ?_
      exact j_end (fun _ h => h)
    · refine j_aload_n (pc' := 13) rfl rfl rfl ?_
      refine j_aload_n (pc' := 14) rfl rfl rfl ?_
      refine j_gfi (pc' := 17) rfl rfl j_a75 rfl ?_
      refine j_iconst (pc' := 18) (x := (1 : Int32)) rfl rfl rfl ?_
      refine j_isub (pc' := 19) rfl rfl ?_
      refine j_iconst (pc' := 20) (x := (0 : Int32)) rfl rfl rfl ?_
      refine j_callPi (pc' := 23) (ai := 238) (vs := [.ref 75, .int ((σ.1 75 18) - (1 : Int32)), .int (0 : Int32)]) (rest := []) rfl rfl (fun _ _ => rfl) (c_X12_inGame ((σ.1 75 18) - (1 : Int32)) (0 : Int32) σ) (j_dd rfl hd) rfl (fun v2 => ?_)
      exact j_end (fun _ h => h)
  show j_J false τ M_cX12_holeByLot d 23 [some (.ref 75), some (.int l1), none, none, none, none, none] [.int v1] σ _ _
  refine j_istore_n (pc' := 24) (L' := [some (.ref 75), some (.int l1), some (.int v1), none, none, none, none]) rfl rfl rfl ?_
  refine j_aload_n (pc' := 25) rfl rfl rfl ?_
  refine j_gfi (pc' := 28) rfl rfl j_a75 rfl ?_
  refine j_iconst (pc' := 29) (x := (2 : Int32)) rfl rfl rfl ?_
  refine j_q1 (Φl := (fun r Q => j_Tr false τ M_cX12_holeByLot d 47 [some (.ref 75), some (.int l1), some (.int v1), none, none, none, none] [.int r] σ Q)) ?_ (fun v3 => ?_)
  · refine j_two (pT := 32) (pF := 36) (L1 := [some (.ref 75), some (.int l1), some (.int v1), none, none, none, none]) (st1 := []) (fun o kT kF => ?_) (fun h3 => ?_) (fun h3 => ?_)
    · refine j_icge (t := 36) (pc' := 32) rfl rfl rfl (fun h4 => ?_) (fun h4 => ?_)
      · exact kF h4
      · exact kT h4
    · refine j_iconst (pc' := 33) (x := (-1 : Int32)) rfl rfl rfl ?_
      refine j_goto (t := 47) rfl rfl ?_
      exact j_end (fun _ h => h)
    · refine j_aload_n (pc' := 37) rfl rfl rfl ?_
      refine j_aload_n (pc' := 38) rfl rfl rfl ?_
      refine j_gfi (pc' := 41) rfl rfl j_a75 rfl ?_
      refine j_iconst (pc' := 42) (x := (2 : Int32)) rfl rfl rfl ?_
      refine j_isub (pc' := 43) rfl rfl ?_
      refine j_iconst (pc' := 44) (x := (0 : Int32)) rfl rfl rfl ?_
      refine j_callPi (pc' := 47) (ai := 238) (vs := [.ref 75, .int ((σ.1 75 18) - (2 : Int32)), .int (0 : Int32)]) (rest := []) rfl rfl (fun _ _ => rfl) (c_X12_inGame ((σ.1 75 18) - (2 : Int32)) (0 : Int32) σ) (j_dd rfl hd) rfl (fun v4 => ?_)
      exact j_end (fun _ h => h)
  show j_J false τ M_cX12_holeByLot d 47 [some (.ref 75), some (.int l1), some (.int v1), none, none, none, none] [.int v3] σ _ _
  refine j_istore_n (pc' := 48) (L' := [some (.ref 75), some (.int l1), some (.int v1), some (.int v3), none, none, none]) rfl rfl rfl ?_
  refine j_iconst (pc' := 49) (x := (0 : Int32)) rfl rfl rfl ?_
  refine j_istore (pc' := 51) (L' := [some (.ref 75), some (.int l1), some (.int v1), some (.int v3), some (.int (0 : Int32)), none, none]) rfl rfl rfl ?_
  refine j_iconst (pc' := 52) (x := (0 : Int32)) rfl rfl rfl ?_
  refine j_istore (pc' := 54) (L' := [some (.ref 75), some (.int l1), some (.int v1), some (.int v3), some (.int (0 : Int32)), some (.int (0 : Int32)), none]) rfl rfl rfl ?_
  refine j_q1 (l_X12_holeByLot_54 hd τ l1 v1 v3 σ j_F (0 : Int32) (0 : Int32)) (fun v5 => ?_)
  show j_J false τ M_cX12_holeByLot d 91 [some (.ref 75), some (.int l1), some (.int v1), some (.int v3), some (.int v5), none, none] [] σ _ _
  refine j_iload (pc' := 93) rfl rfl rfl ?_
  refine j_two (pT := 96) (pF := 98) (L1 := [some (.ref 75), some (.int l1), some (.int v1), some (.int v3), some (.int v5), none, none]) (st1 := []) (fun o kT kF => ?_) (fun h5 => ?_) (fun h5 => ?_)
  · refine j_ifne (t := 98) (pc' := 96) rfl rfl rfl (fun h6 => ?_) (fun h6 => ?_)
    · exact kF h6
    · exact kT h6
  · refine j_iconst (pc' := 97) (x := (-1 : Int32)) rfl rfl rfl ?_
    exact j_ret rfl rfl rfl (fun _ h => h)
  · refine j_aload_n (pc' := 99) rfl rfl rfl ?_
    refine j_iload (pc' := 101) rfl rfl rfl ?_
    refine j_callRi (pc' := 104) (ai := 342) (vs := [.ref 75, .int v5]) (rest := []) rfl rfl (fun _ _ => rfl) (c_X12_draw v5 σ) (j_dd rfl hd) rfl (fun v7 σ6 => ?_)
    refine j_istore (pc' := 106) (L' := [some (.ref 75), some (.int l1), some (.int v1), some (.int v3), some (.int v5), some (.int v7), none]) rfl rfl rfl ?_
    refine j_iconst (pc' := 107) (x := (0 : Int32)) rfl rfl rfl ?_
    refine j_istore (pc' := 109) (L' := [some (.ref 75), some (.int l1), some (.int v1), some (.int v3), some (.int v5), some (.int v7), some (.int (0 : Int32))]) rfl rfl rfl ?_
    refine j_wk [true, true, true, true, false, true, true] (L' := [some (.ref 75), some (.int l1), some (.int v1), some (.int v3), none, some (.int v7), some (.int (0 : Int32))]) rfl ?_
    exact (l_X12_holeByLot_109 hd τ l1 v1 v3 σ6 j_F v7 (0 : Int32))

noncomputable def p_X12_layNight_10 (l3 : Int32) : Nat → j_G → Option j_G
  | 0, _ => none
  | n + 1, σ =>
    j_b1 (f_X12_mayCome σ) fun v1 =>
    if ¬ v1 = 0 then (j_b2 (f_X12_holeByLot l3 σ) fun v3 σ2 =>
    if v3 = (-1 : Int32) then (some σ2) else (j_b1 (f_X12_come v3 (-1 : Int32) (0 : Int32) σ2) fun σ4 =>
    p_X12_layNight_10 l3 n σ4)) else (some σ)

noncomputable def f_X12_layNight (l1 : Int64) (l3 : Int32) (σ : j_G) : Option j_G :=
  j_lt (j_sl σ 75 42 l1) fun σ1 =>
  j_lt (j_si σ1 75 18 (0 : Int32)) fun σ2 =>
  p_X12_layNight_10 l3 j_F σ2
theorem l_X12_layNight_10 {d : Nat} (hd : 3 ≤ d) (τ : j_G) (l3 : Int32) : ∀ (n : Nat) (σ : j_G), j_J false τ M_cX12_layNight d 10 [some (.ref 75), none, none, some (.int l3), none] [] σ (p_X12_layNight_10 l3 n σ) j_Rv := by
  intro n
  induction n with
  | zero => intro σ; exact j_none
  | succ n ih =>
    intro σ
    unfold p_X12_layNight_10
    refine j_aload_n (pc' := 11) rfl rfl rfl ?_
    refine j_callPi (pc' := 14) (ai := 235) (vs := [.ref 75]) (rest := []) rfl rfl (fun _ _ => rfl) (c_X12_mayCome  σ) (j_dd rfl hd) rfl (fun v1 => ?_)
    refine j_two (pT := 17) (pF := 42) (L1 := [some (.ref 75), none, none, some (.int l3), none]) (st1 := []) (fun o kT kF => ?_) (fun h3 => ?_) (fun h3 => ?_)
    · refine j_ifeq (t := 42) (pc' := 17) rfl rfl rfl (fun h4 => ?_) (fun h4 => ?_)
      · exact kF (fun z => z h4)
      · exact kT h4
    · refine j_aload_n (pc' := 18) rfl rfl rfl ?_
      refine j_iload_n (pc' := 19) rfl rfl rfl ?_
      refine j_callRi (pc' := 22) (ai := 343) (vs := [.ref 75, .int l3]) (rest := []) rfl rfl (fun _ _ => rfl) (c_X12_holeByLot l3 σ) (j_dd rfl hd) rfl (fun v3 σ2 => ?_)
      refine j_istore (pc' := 24) (L' := [some (.ref 75), none, none, some (.int l3), some (.int v3)]) rfl rfl rfl ?_
      refine j_iload (pc' := 26) rfl rfl rfl ?_
      refine j_iconst (pc' := 27) (x := (-1 : Int32)) rfl rfl rfl ?_
      refine j_two (pT := 30) (pF := 31) (L1 := [some (.ref 75), none, none, some (.int l3), some (.int v3)]) (st1 := []) (fun o kT kF => ?_) (fun h1 => ?_) (fun h1 => ?_)
      · refine j_icne (t := 31) (pc' := 30) rfl rfl rfl (fun h2 => ?_) (fun h2 => ?_)
        · exact kF h2
        · exact kT h2
      · exact j_ret rfl rfl rfl (fun _ h => h)
      · refine j_aload_n (pc' := 32) rfl rfl rfl ?_
        refine j_iload (pc' := 34) rfl rfl rfl ?_
        refine j_iconst (pc' := 35) (x := (-1 : Int32)) rfl rfl rfl ?_
        refine j_iconst (pc' := 36) (x := (0 : Int32)) rfl rfl rfl ?_
        refine j_callRv (pc' := 39) (ai := 236) (vs := [.ref 75, .int v3, .int (-1 : Int32), .int (0 : Int32)]) (rest := []) rfl rfl (fun _ _ => rfl) (c_X12_come v3 (-1 : Int32) (0 : Int32) σ2) (j_dd rfl hd) rfl (fun σ4 => ?_)
        refine j_goto (t := 10) rfl rfl ?_
        refine j_wk [true, true, true, true, false] (L' := [some (.ref 75), none, none, some (.int l3), none]) rfl ?_
        exact ih σ4
    · exact j_ret rfl rfl rfl (fun _ h => h)

theorem c_X12_layNight (l1 : Int64) (l3 : Int32) (σ : j_G) : j_K false 3 344 [.ref 75, .long l1, .int l3] σ (f_X12_layNight l1 l3 σ) j_Rv := by
  refine j_mkK (M := M_cX12_layNight) (L := [some (.ref 75), some (.long l1), none, some (.int l3), none]) (m := 1) t_344 rfl (j_rcvO j_a75 rfl) rfl (fun d hd τ => ?_)
  unfold f_X12_layNight
  refine j_aload_n (pc' := 1) rfl rfl rfl ?_
  refine j_lload_n (pc' := 2) rfl rfl rfl ?_
  refine j_pfl (pc' := 5) rfl rfl j_a75 rfl rfl (fun σ1 => ?_)
  refine j_aload_n (pc' := 6) rfl rfl rfl ?_
  refine j_iconst (pc' := 7) (x := (0 : Int32)) rfl rfl rfl ?_
  refine j_pfi (pc' := 10) rfl rfl j_a75 rfl rfl (fun σ2 => ?_)
  refine j_wk [true, false, true, true, true] (L' := [some (.ref 75), none, none, some (.int l3), none]) rfl ?_
  exact (l_X12_layNight_10 hd τ l3 j_F σ2)

noncomputable def f_X12_drawn (l1 : Int32) (l2 : Int32) (l3 : Int32) (σ : j_G) : Option (Int32 × j_G) :=
  j_b1 (f_X12_isBoard σ) fun v1 =>
  if (v1 = 0) ∨ (((f_X12_isSeed l1) = 0) ∨ ((f_X12_isLaw l2) = 0)) then (some ((-2 : Int32), σ)) else (j_b1 (f_X12_layNight (l1).toInt64 l2 σ) fun σ2 =>
  if ¬ (f_X12_isInGame l3 σ2) = 0 then (j_b1 (f_X12_inGame l3 (0 : Int32) σ2) fun v3 =>
  some (v3, σ2)) else (some ((-1 : Int32), σ2)))
theorem c_X12_drawn (l1 : Int32) (l2 : Int32) (l3 : Int32) (σ : j_G) : j_K false 4 346 [.ref 75, .int l1, .int l2, .int l3] σ (f_X12_drawn l1 l2 l3 σ) j_Ri := by
  refine j_mkK (M := M_cX12_drawn) (L := [some (.ref 75), some (.int l1), some (.int l2), some (.int l3)]) (m := 0) t_346 rfl (j_rcvO j_a75 rfl) rfl (fun d hd τ => ?_)
  unfold f_X12_drawn
  refine j_aload_n (pc' := 1) rfl rfl rfl ?_
  refine j_callPi (pc' := 4) (ai := 199) (vs := [.ref 75]) (rest := []) rfl rfl (fun _ _ => rfl) (c_X12_isBoard  σ) (j_dd rfl hd) rfl (fun v1 => ?_)
  refine j_two (pT := 21) (pF := 24) (L1 := [some (.ref 75), some (.int l1), some (.int l2), some (.int l3)]) (st1 := []) (fun o kT kF => ?_) (fun h3 => ?_) (fun h3 => ?_)
  · refine j_ifeq (t := 21) (pc' := 7) rfl rfl rfl (fun h4 => ?_) (fun h4 => ?_)
    · exact kT (Or.inl h4)
    · refine j_iload_n (pc' := 8) rfl rfl rfl ?_
      refine j_callTi (pc' := 11) (ai := 345) (vs := [.int l1]) (rest := []) rfl rfl (fun _ _ => rfl) (c_X12_isSeed l1 σ) (j_dd rfl hd) rfl ?_
      refine j_ifeq (t := 21) (pc' := 14) rfl rfl rfl (fun h5 => ?_) (fun h5 => ?_)
      · exact kT (Or.inr (Or.inl h5))
      · refine j_iload_n (pc' := 15) rfl rfl rfl ?_
        refine j_callTi (pc' := 18) (ai := 289) (vs := [.int l2]) (rest := []) rfl rfl (fun _ _ => rfl) (c_X12_isLaw l2 σ) (j_dd rfl hd) rfl ?_
        refine j_ifne (t := 24) (pc' := 21) rfl rfl rfl (fun h6 => ?_) (fun h6 => ?_)
        · exact kF (fun z => z.elim h4 (fun z => z.elim h5 (h6)))
        · exact kT (Or.inr (Or.inr (h6)))
  · refine j_bipush (pc' := 23) (x := (-2 : Int32)) rfl rfl rfl ?_
    exact j_ret rfl rfl rfl (fun _ h => h)
  · refine j_aload_n (pc' := 25) rfl rfl rfl ?_
    refine j_iload_n (pc' := 26) rfl rfl rfl ?_
    refine j_i2l (pc' := 27) rfl rfl ?_
    refine j_iload_n (pc' := 28) rfl rfl rfl ?_
    refine j_callRv (pc' := 31) (ai := 344) (vs := [.ref 75, .long (l1).toInt64, .int l2]) (rest := []) rfl rfl (fun _ _ => rfl) (c_X12_layNight (l1).toInt64 l2 σ) (j_dd rfl hd) rfl (fun σ2 => ?_)
    refine j_aload_n (pc' := 32) rfl rfl rfl ?_
    refine j_iload_n (pc' := 33) rfl rfl rfl ?_
    refine j_callTi (pc' := 36) (ai := 243) (vs := [.ref 75, .int l3]) (rest := []) rfl rfl (fun _ _ => rfl) (c_X12_isInGame l3 σ2) (j_dd rfl hd) rfl ?_
    refine j_two (pT := 39) (pF := 48) (L1 := [some (.ref 75), some (.int l1), some (.int l2), some (.int l3)]) (st1 := []) (fun o kT kF => ?_) (fun h1 => ?_) (fun h1 => ?_)
    · refine j_ifeq (t := 48) (pc' := 39) rfl rfl rfl (fun h2 => ?_) (fun h2 => ?_)
      · exact kF (fun z => z h2)
      · exact kT h2
    · refine j_aload_n (pc' := 40) rfl rfl rfl ?_
      refine j_iload_n (pc' := 41) rfl rfl rfl ?_
      refine j_iconst (pc' := 42) (x := (0 : Int32)) rfl rfl rfl ?_
      refine j_callPi (pc' := 45) (ai := 238) (vs := [.ref 75, .int l3, .int (0 : Int32)]) (rest := []) rfl rfl (fun _ _ => rfl) (c_X12_inGame l3 (0 : Int32) σ2) (j_dd rfl hd) rfl (fun v3 => ?_)
      refine j_goto (t := 49) rfl rfl ?_
      exact j_ret rfl rfl rfl (fun _ h => h)
    · refine j_iconst (pc' := 49) (x := (-1 : Int32)) rfl rfl rfl ?_
      exact j_ret rfl rfl rfl (fun _ h => h)

noncomputable def p_X11_years_59 (l1 : Int32) (l2 : Int32) (l3 : Int32) : Nat → Int32 → Int32 → j_G → Option (Int32 × j_G)
  | 0, _, _, _ => none
  | n + 1, l5, l6, σ =>
    if l6 < l2 then (j_b1 (f_X4_draw (l1 + l6) l3 σ) fun σ1 =>
    j_b2 (f_X9_good 30 28 22 31 32 25 23 24 26 33 34 (-1 : Int32) σ1) fun v3 σ2 =>
    j_lt (l5 + v3) fun v4 =>
    p_X11_years_59 l1 l2 l3 n v4 (l6 + (1 : Int32)) σ2) else (some (l5, σ))

noncomputable def f_X11_years (l1 : Int32) (l2 : Int32) (l3 : Int32) (l4 : Int32) (σ : j_G) : Option (Int32 × j_G) :=
  if ((f_X11_isSeed l1) = 0) ∨ ((l2 < (1 : Int32)) ∨ (((20 : Int32) < l2) ∨ (((f_X11_isLaw l3) = 0) ∨ ((f_X2_isPlayer l4 σ) = 0)))) then (some ((-2 : Int32), σ)) else (j_b1 (f_X6_take 28 l4 σ) fun σ1 =>
  j_b2 (p_X11_years_59 l1 l2 l3 j_F (0 : Int32) (0 : Int32) σ1) fun v2 σ3 =>
  some (v2, σ3))
theorem l_X11_years_59 {d : Nat} (hd : 5 ≤ d) (τ : j_G) (l1 : Int32) (l2 : Int32) (l3 : Int32) : ∀ (n : Nat) (l5 : Int32) (l6 : Int32) (σ : j_G), j_J true τ M_cX11_years d 59 [some (.ref 0), some (.int l1), some (.int l2), some (.int l3), none, some (.int l5), some (.int l6)] [] σ (p_X11_years_59 l1 l2 l3 n l5 l6 σ) (fun r Q => j_Tr true τ M_cX11_years d 112 [none, none, none, none, none, some (.int r.1), none] [] r.2 Q) := by
  intro n
  induction n with
  | zero => intro l5 l6 σ; exact j_none
  | succ n ih =>
    intro l5 l6 σ
    unfold p_X11_years_59
    refine j_iload (pc' := 61) rfl rfl rfl ?_
    refine j_iload_n (pc' := 62) rfl rfl rfl ?_
    refine j_two (pT := 65) (pF := 112) (L1 := [some (.ref 0), some (.int l1), some (.int l2), some (.int l3), none, some (.int l5), some (.int l6)]) (st1 := []) (fun o kT kF => ?_) (fun h1 => ?_) (fun h1 => ?_)
    · refine j_icge (t := 112) (pc' := 65) rfl rfl rfl (fun h2 => ?_) (fun h2 => ?_)
      · exact kF h2
      · exact kT h2
    · refine j_aload_n (pc' := 66) rfl rfl rfl ?_
      refine j_gfr (pc' := 69) (x := 22) rfl rfl j_a0 rfl rfl ?_
      refine j_aload_n (pc' := 70) rfl rfl rfl ?_
      refine j_gfr (pc' := 73) (x := 1) rfl rfl j_a0 rfl rfl ?_
      refine j_iload_n (pc' := 74) rfl rfl rfl ?_
      refine j_iload (pc' := 76) rfl rfl rfl ?_
      refine j_iadd (pc' := 77) rfl rfl ?_
      refine j_iload_n (pc' := 78) rfl rfl rfl ?_
      refine j_callRv (pc' := 81) (ai := 43) (vs := [.ref 22, .ref 1, .int (l1 + l6), .int l3]) (rest := []) rfl rfl (fun _ _ => rfl) (c_X4_draw (l1 + l6) l3 σ) (j_dd rfl hd) rfl (fun σ1 => ?_)
      refine j_iload (pc' := 83) rfl rfl rfl ?_
      refine j_aload_n (pc' := 84) rfl rfl rfl ?_
      refine j_gfr (pc' := 87) (x := 30) rfl rfl j_a0 rfl rfl ?_
      refine j_aload_n (pc' := 88) rfl rfl rfl ?_
      refine j_gfr (pc' := 91) (x := 1) rfl rfl j_a0 rfl rfl ?_
      refine j_aload_n (pc' := 92) rfl rfl rfl ?_
      refine j_gfr (pc' := 95) (x := 22) rfl rfl j_a0 rfl rfl ?_
      refine j_aload_n (pc' := 96) rfl rfl rfl ?_
      refine j_gfr (pc' := 99) (x := 28) rfl rfl j_a0 rfl rfl ?_
      refine j_iconst (pc' := 100) (x := (-1 : Int32)) rfl rfl rfl ?_
      refine j_callRi (pc' := 103) (ai := 100) (vs := [.ref 30, .ref 1, .ref 22, .ref 28, .int (-1 : Int32)]) (rest := [.int l5]) rfl rfl (fun _ _ => rfl) (c_X9_good_30_1_22_28 (-1 : Int32) σ1) (j_dd rfl hd) rfl (fun v3 σ2 => ?_)
      refine j_iadd (pc' := 104) rfl rfl ?_
      refine j_leti (fun v4 => ?_)
      refine j_istore (pc' := 106) (L' := [some (.ref 0), some (.int l1), some (.int l2), some (.int l3), none, some (.int v4), some (.int l6)]) rfl rfl rfl ?_
      refine j_iincx (pc' := 109) (y := (1 : Int32)) (L' := [some (.ref 0), some (.int l1), some (.int l2), some (.int l3), none, some (.int v4), some (.int (l6 + (1 : Int32)))]) rfl rfl rfl rfl rfl ?_
      refine j_goto (t := 59) rfl rfl ?_
      exact ih v4 (l6 + (1 : Int32)) σ2
    · refine j_wk [false, false, false, false, true, true, false] (L' := [none, none, none, none, none, some (.int l5), none]) rfl ?_
      exact j_end (fun _ h => h)

theorem c_X11_years (l1 : Int32) (l2 : Int32) (l3 : Int32) (l4 : Int32) (σ : j_G) : j_K true 5 176 [.ref 0, .int l1, .int l2, .int l3, .int l4] σ (f_X11_years l1 l2 l3 l4 σ) j_Ri := by
  refine j_mkK (M := M_cX11_years) (L := [some (.ref 0), some (.int l1), some (.int l2), some (.int l3), some (.int l4), none, none]) (m := 2) t_176 rfl (j_rcvO j_a0 rfl) rfl (fun d hd τ => ?_)
  unfold f_X11_years
  refine j_iload_n (pc' := 1) rfl rfl rfl ?_
  refine j_callTi (pc' := 4) (ai := 184) (vs := [.int l1]) (rest := []) rfl rfl (fun _ _ => rfl) (c_X11_isSeed l1 σ) (j_dd rfl hd) rfl ?_
  refine j_two (pT := 37) (pF := 40) (L1 := [some (.ref 0), some (.int l1), some (.int l2), some (.int l3), some (.int l4), none, none]) (st1 := []) (fun o kT kF => ?_) (fun h1 => ?_) (fun h1 => ?_)
  · refine j_ifeq (t := 37) (pc' := 7) rfl rfl rfl (fun h2 => ?_) (fun h2 => ?_)
    · exact kT (Or.inl h2)
    · refine j_iload_n (pc' := 8) rfl rfl rfl ?_
      refine j_iconst (pc' := 9) (x := (1 : Int32)) rfl rfl rfl ?_
      refine j_iclt (t := 37) (pc' := 12) rfl rfl rfl (fun h3 => ?_) (fun h3 => ?_)
      · exact kT (Or.inr (Or.inl h3))
      · refine j_iload_n (pc' := 13) rfl rfl rfl ?_
        refine j_bipush (pc' := 15) (x := (20 : Int32)) rfl rfl rfl ?_
        refine j_icgt (t := 37) (pc' := 18) rfl rfl rfl (fun h4 => ?_) (fun h4 => ?_)
        · exact kT (Or.inr (Or.inr (Or.inl h4)))
        · refine j_iload_n (pc' := 19) rfl rfl rfl ?_
          refine j_callTi (pc' := 22) (ai := 183) (vs := [.int l3]) (rest := []) rfl rfl (fun _ _ => rfl) (c_X11_isLaw l3 σ) (j_dd rfl hd) rfl ?_
          refine j_ifeq (t := 37) (pc' := 25) rfl rfl rfl (fun h5 => ?_) (fun h5 => ?_)
          · exact kT (Or.inr (Or.inr (Or.inr (Or.inl h5))))
          · refine j_aload_n (pc' := 26) rfl rfl rfl ?_
            refine j_gfr (pc' := 29) (x := 1) rfl rfl j_a0 rfl rfl ?_
            refine j_iload (pc' := 31) rfl rfl rfl ?_
            refine j_callTi (pc' := 34) (ai := 15) (vs := [.ref 1, .int l4]) (rest := []) rfl rfl (fun _ _ => rfl) (c_X2_isPlayer l4 σ) (j_dd rfl hd) rfl ?_
            refine j_ifne (t := 40) (pc' := 37) rfl rfl rfl (fun h6 => ?_) (fun h6 => ?_)
            · exact kF (fun z => z.elim h2 (fun z => z.elim h3 (fun z => z.elim h4 (fun z => z.elim h5 (h6)))))
            · exact kT (Or.inr (Or.inr (Or.inr (Or.inr (h6)))))
  · refine j_bipush (pc' := 39) (x := (-2 : Int32)) rfl rfl rfl ?_
    exact j_ret rfl rfl rfl (fun _ h => h)
  · refine j_aload_n (pc' := 41) rfl rfl rfl ?_
    refine j_gfr (pc' := 44) (x := 28) rfl rfl j_a0 rfl rfl ?_
    refine j_aload_n (pc' := 45) rfl rfl rfl ?_
    refine j_gfr (pc' := 48) (x := 1) rfl rfl j_a0 rfl rfl ?_
    refine j_iload (pc' := 50) rfl rfl rfl ?_
    refine j_callRv (pc' := 53) (ai := 64) (vs := [.ref 28, .ref 1, .int l4]) (rest := []) rfl rfl (fun _ _ => rfl) (c_X6_take_28_1 l4 σ) (j_dd rfl hd) rfl (fun σ1 => ?_)
    refine j_iconst (pc' := 54) (x := (0 : Int32)) rfl rfl rfl ?_
    refine j_istore (pc' := 56) (L' := [some (.ref 0), some (.int l1), some (.int l2), some (.int l3), some (.int l4), some (.int (0 : Int32)), none]) rfl rfl rfl ?_
    refine j_iconst (pc' := 57) (x := (0 : Int32)) rfl rfl rfl ?_
    refine j_istore (pc' := 59) (L' := [some (.ref 0), some (.int l1), some (.int l2), some (.int l3), some (.int l4), some (.int (0 : Int32)), some (.int (0 : Int32))]) rfl rfl rfl ?_
    refine j_wk [true, true, true, true, false, true, true] (L' := [some (.ref 0), some (.int l1), some (.int l2), some (.int l3), none, some (.int (0 : Int32)), some (.int (0 : Int32))]) rfl ?_
    refine j_q2 (l_X11_years_59 hd τ l1 l2 l3 j_F (0 : Int32) (0 : Int32) σ1) (fun v2 σ3 => ?_)
    show j_J true τ M_cX11_years d 112 [none, none, none, none, none, some (.int v2), none] [] σ3 _ _
    refine j_iload (pc' := 114) rfl rfl rfl ?_
    exact j_ret rfl rfl rfl (fun _ h => h)

noncomputable def f_X11_night (l1 : Int32) (l2 : Int32) (l3 : Int32) (σ : j_G) : Option (Int32 × j_G) :=
  j_b2 (f_X11_years l1 (1 : Int32) l2 l3 σ) fun v2 σ1 =>
  some (v2, σ1)
theorem c_X11_night (l1 : Int32) (l2 : Int32) (l3 : Int32) (σ : j_G) : j_K true 6 175 [.ref 0, .int l1, .int l2, .int l3] σ (f_X11_night l1 l2 l3 σ) j_Ri := by
  refine j_mkK (M := M_cX11_night) (L := [some (.ref 0), some (.int l1), some (.int l2), some (.int l3)]) (m := 0) t_175 rfl (j_rcvO j_a0 rfl) rfl (fun d hd τ => ?_)
  unfold f_X11_night
  refine j_aload_n (pc' := 1) rfl rfl rfl ?_
  refine j_iload_n (pc' := 2) rfl rfl rfl ?_
  refine j_iconst (pc' := 3) (x := (1 : Int32)) rfl rfl rfl ?_
  refine j_iload_n (pc' := 4) rfl rfl rfl ?_
  refine j_iload_n (pc' := 5) rfl rfl rfl ?_
  refine j_callRi (pc' := 8) (ai := 176) (vs := [.ref 0, .int l1, .int (1 : Int32), .int l2, .int l3]) (rest := []) rfl rfl (fun _ _ => rfl) (c_X11_years l1 (1 : Int32) l2 l3 σ) (j_dd rfl hd) rfl (fun v2 σ1 => ?_)
  exact j_ret rfl rfl rfl (fun _ h => h)

noncomputable def f_X12_nightOf (l1 : Int64) (l3 : Int32) (l4 : Int32) (σ : j_G) : Option (Int32 × j_G) :=
  j_b1 (f_X12_layNight l1 l3 σ) fun σ1 =>
  j_b1 (f_X12_asTold l4 σ1) fun σ2 =>
  j_b1 (f_X12_run σ2) fun σ3 =>
  some ((σ3.1 75 29), σ3)
theorem c_X12_nightOf (l1 : Int64) (l3 : Int32) (l4 : Int32) (σ : j_G) : j_K false 5 347 [.ref 75, .long l1, .int l3, .int l4] σ (f_X12_nightOf l1 l3 l4 σ) j_Ri := by
  refine j_mkK (M := M_cX12_nightOf) (L := [some (.ref 75), some (.long l1), none, some (.int l3), some (.int l4)]) (m := 0) t_347 rfl (j_rcvO j_a75 rfl) rfl (fun d hd τ => ?_)
  unfold f_X12_nightOf
  refine j_aload_n (pc' := 1) rfl rfl rfl ?_
  refine j_lload_n (pc' := 2) rfl rfl rfl ?_
  refine j_iload_n (pc' := 3) rfl rfl rfl ?_
  refine j_callRv (pc' := 6) (ai := 344) (vs := [.ref 75, .long l1, .int l3]) (rest := []) rfl rfl (fun _ _ => rfl) (c_X12_layNight l1 l3 σ) (j_dd rfl hd) rfl (fun σ1 => ?_)
  refine j_aload_n (pc' := 7) rfl rfl rfl ?_
  refine j_iload (pc' := 9) rfl rfl rfl ?_
  refine j_callRv (pc' := 12) (ai := 252) (vs := [.ref 75, .int l4]) (rest := []) rfl rfl (fun _ _ => rfl) (c_X12_asTold l4 σ1) (j_dd rfl hd) rfl (fun σ2 => ?_)
  refine j_aload_n (pc' := 13) rfl rfl rfl ?_
  refine j_callRv (pc' := 16) (ai := 258) (vs := [.ref 75]) (rest := []) rfl rfl (fun _ _ => rfl) (c_X12_run  σ2) (j_dd rfl hd) rfl (fun σ3 => ?_)
  refine j_aload_n (pc' := 17) rfl rfl rfl ?_
  refine j_gfi (pc' := 20) rfl rfl j_a75 rfl ?_
  exact j_ret rfl rfl rfl (fun _ h => h)

noncomputable def f_X12_night (l1 : Int32) (l2 : Int32) (l3 : Int32) (σ : j_G) : Option (Int32 × j_G) :=
  if (¬ (f_X12_isSeed l1) = 0) ∧ (¬ (f_X12_isLaw l2) = 0) then (j_b1 (f_X12_isPlayer l3 σ) fun v1 =>
  if ¬ v1 = 0 then (j_b2 (f_X12_nightOf (l1).toInt64 l2 l3 σ) fun v3 σ2 =>
  some (v3, σ2)) else (some ((-2 : Int32), σ))) else (some ((-2 : Int32), σ))
theorem c_X12_night (l1 : Int32) (l2 : Int32) (l3 : Int32) (σ : j_G) : j_K false 6 348 [.ref 75, .int l1, .int l2, .int l3] σ (f_X12_night l1 l2 l3 σ) j_Ri := by
  refine j_mkK (M := M_cX12_night) (L := [some (.ref 75), some (.int l1), some (.int l2), some (.int l3)]) (m := 0) t_348 rfl (j_rcvO j_a75 rfl) rfl (fun d hd τ => ?_)
  unfold f_X12_night
  refine j_iload_n (pc' := 1) rfl rfl rfl ?_
  refine j_callTi (pc' := 4) (ai := 345) (vs := [.int l1]) (rest := []) rfl rfl (fun _ _ => rfl) (c_X12_isSeed l1 σ) (j_dd rfl hd) rfl ?_
  refine j_two (pT := 14) (pF := 33) (L1 := [some (.ref 75), some (.int l1), some (.int l2), some (.int l3)]) (st1 := []) (fun o kT kF => ?_) (fun h3 => ?_) (fun h3 => ?_)
  · refine j_ifeq (t := 33) (pc' := 7) rfl rfl rfl (fun h4 => ?_) (fun h4 => ?_)
    · exact kF (fun z => z.1 h4)
    · refine j_iload_n (pc' := 8) rfl rfl rfl ?_
      refine j_callTi (pc' := 11) (ai := 289) (vs := [.int l2]) (rest := []) rfl rfl (fun _ _ => rfl) (c_X12_isLaw l2 σ) (j_dd rfl hd) rfl ?_
      refine j_ifeq (t := 33) (pc' := 14) rfl rfl rfl (fun h5 => ?_) (fun h5 => ?_)
      · exact kF (fun z => (fun z => z h5) z.2)
      · exact kT (⟨h4, h5⟩)
  · refine j_aload_n (pc' := 15) rfl rfl rfl ?_
    refine j_iload_n (pc' := 16) rfl rfl rfl ?_
    refine j_callPi (pc' := 19) (ai := 205) (vs := [.ref 75, .int l3]) (rest := []) rfl rfl (fun _ _ => rfl) (c_X12_isPlayer l3 σ) (j_dd rfl hd) rfl (fun v1 => ?_)
    refine j_two (pT := 22) (pF := 33) (L1 := [some (.ref 75), some (.int l1), some (.int l2), some (.int l3)]) (st1 := []) (fun o kT kF => ?_) (fun h1 => ?_) (fun h1 => ?_)
    · refine j_ifeq (t := 33) (pc' := 22) rfl rfl rfl (fun h2 => ?_) (fun h2 => ?_)
      · exact kF (fun z => z h2)
      · exact kT h2
    · refine j_aload_n (pc' := 23) rfl rfl rfl ?_
      refine j_iload_n (pc' := 24) rfl rfl rfl ?_
      refine j_i2l (pc' := 25) rfl rfl ?_
      refine j_iload_n (pc' := 26) rfl rfl rfl ?_
      refine j_iload_n (pc' := 27) rfl rfl rfl ?_
      refine j_callRi (pc' := 30) (ai := 347) (vs := [.ref 75, .long (l1).toInt64, .int l2, .int l3]) (rest := []) rfl rfl (fun _ _ => rfl) (c_X12_nightOf (l1).toInt64 l2 l3 σ) (j_dd rfl hd) rfl (fun v3 σ2 => ?_)
      refine j_goto (t := 35) rfl rfl ?_
      exact j_ret rfl rfl rfl (fun _ h => h)
    · refine j_bipush (pc' := 35) (x := (-2 : Int32)) rfl rfl rfl ?_
      exact j_ret rfl rfl rfl (fun _ h => h)
  · refine j_bipush (pc' := 35) (x := (-2 : Int32)) rfl rfl rfl ?_
    exact j_ret rfl rfl rfl (fun _ h => h)

noncomputable def p_X12_years_44 (l1 : Int32) (l2 : Int32) (l3 : Int32) (l4 : Int32) : Nat → Int32 → Int32 → j_G → Option (Int32 × j_G)
  | 0, _, _, _ => none
  | n + 1, l5, l6, σ =>
    if l6 < l2 then (j_b2 (f_X12_nightOf ((l1).toInt64 + (l6).toInt64) l3 l4 σ) fun v2 σ1 =>
    j_lt (l5 + v2) fun v3 =>
    p_X12_years_44 l1 l2 l3 l4 n v3 (l6 + (1 : Int32)) σ1) else (some (l5, σ))

noncomputable def f_X12_years (l1 : Int32) (l2 : Int32) (l3 : Int32) (l4 : Int32) (σ : j_G) : Option (Int32 × j_G) :=
  if (¬ (f_X12_isSeed l1) = 0) ∧ ((¬ (f_X12_in (l2).toInt64 (1 : Int64) (20 : Int64)) = 0) ∧ (¬ (f_X12_isLaw l3) = 0)) then (j_b1 (f_X12_isPlayer l4 σ) fun v1 =>
  if v1 = 0 then (some ((-2 : Int32), σ)) else (j_b2 (p_X12_years_44 l1 l2 l3 l4 j_F (0 : Int32) (0 : Int32) σ) fun v2 σ3 =>
  some (v2, σ3))) else (some ((-2 : Int32), σ))
theorem l_X12_years_44 {d : Nat} (hd : 6 ≤ d) (τ : j_G) (l1 : Int32) (l2 : Int32) (l3 : Int32) (l4 : Int32) : ∀ (n : Nat) (l5 : Int32) (l6 : Int32) (σ : j_G), j_J false τ M_cX12_years d 44 [some (.ref 75), some (.int l1), some (.int l2), some (.int l3), some (.int l4), some (.int l5), some (.int l6)] [] σ (p_X12_years_44 l1 l2 l3 l4 n l5 l6 σ) (fun r Q => j_Tr false τ M_cX12_years d 74 [none, none, none, none, none, some (.int r.1), none] [] r.2 Q) := by
  intro n
  induction n with
  | zero => intro l5 l6 σ; exact j_none
  | succ n ih =>
    intro l5 l6 σ
    unfold p_X12_years_44
    refine j_iload (pc' := 46) rfl rfl rfl ?_
    refine j_iload_n (pc' := 47) rfl rfl rfl ?_
    refine j_two (pT := 50) (pF := 74) (L1 := [some (.ref 75), some (.int l1), some (.int l2), some (.int l3), some (.int l4), some (.int l5), some (.int l6)]) (st1 := []) (fun o kT kF => ?_) (fun h1 => ?_) (fun h1 => ?_)
    · refine j_icge (t := 74) (pc' := 50) rfl rfl rfl (fun h2 => ?_) (fun h2 => ?_)
      · exact kF h2
      · exact kT h2
    · refine j_iload (pc' := 52) rfl rfl rfl ?_
      refine j_aload_n (pc' := 53) rfl rfl rfl ?_
      refine j_iload_n (pc' := 54) rfl rfl rfl ?_
      refine j_i2l (pc' := 55) rfl rfl ?_
      refine j_iload (pc' := 57) rfl rfl rfl ?_
      refine j_i2l (pc' := 58) rfl rfl ?_
      refine j_ladd (pc' := 59) rfl rfl ?_
      refine j_iload_n (pc' := 60) rfl rfl rfl ?_
      refine j_iload (pc' := 62) rfl rfl rfl ?_
      refine j_callRi (pc' := 65) (ai := 347) (vs := [.ref 75, .long ((l1).toInt64 + (l6).toInt64), .int l3, .int l4]) (rest := [.int l5]) rfl rfl (fun _ _ => rfl) (c_X12_nightOf ((l1).toInt64 + (l6).toInt64) l3 l4 σ) (j_dd rfl hd) rfl (fun v2 σ1 => ?_)
      refine j_iadd (pc' := 66) rfl rfl ?_
      refine j_leti (fun v3 => ?_)
      refine j_istore (pc' := 68) (L' := [some (.ref 75), some (.int l1), some (.int l2), some (.int l3), some (.int l4), some (.int v3), some (.int l6)]) rfl rfl rfl ?_
      refine j_iincx (pc' := 71) (y := (1 : Int32)) (L' := [some (.ref 75), some (.int l1), some (.int l2), some (.int l3), some (.int l4), some (.int v3), some (.int (l6 + (1 : Int32)))]) rfl rfl rfl rfl rfl ?_
      refine j_goto (t := 44) rfl rfl ?_
      exact ih v3 (l6 + (1 : Int32)) σ1
    · refine j_wk [false, false, false, false, false, true, false] (L' := [none, none, none, none, none, some (.int l5), none]) rfl ?_
      exact j_end (fun _ h => h)

theorem c_X12_years (l1 : Int32) (l2 : Int32) (l3 : Int32) (l4 : Int32) (σ : j_G) : j_K false 6 349 [.ref 75, .int l1, .int l2, .int l3, .int l4] σ (f_X12_years l1 l2 l3 l4 σ) j_Ri := by
  refine j_mkK (M := M_cX12_years) (L := [some (.ref 75), some (.int l1), some (.int l2), some (.int l3), some (.int l4), none, none]) (m := 2) t_349 rfl (j_rcvO j_a75 rfl) rfl (fun d hd τ => ?_)
  unfold f_X12_years
  refine j_iload_n (pc' := 1) rfl rfl rfl ?_
  refine j_callTi (pc' := 4) (ai := 345) (vs := [.int l1]) (rest := []) rfl rfl (fun _ _ => rfl) (c_X12_isSeed l1 σ) (j_dd rfl hd) rfl ?_
  refine j_two (pT := 26) (pF := 35) (L1 := [some (.ref 75), some (.int l1), some (.int l2), some (.int l3), some (.int l4), none, none]) (st1 := []) (fun o kT kF => ?_) (fun h3 => ?_) (fun h3 => ?_)
  · refine j_ifeq (t := 35) (pc' := 7) rfl rfl rfl (fun h4 => ?_) (fun h4 => ?_)
    · exact kF (fun z => z.1 h4)
    · refine j_iload_n (pc' := 8) rfl rfl rfl ?_
      refine j_i2l (pc' := 9) rfl rfl ?_
      refine j_lconst (pc' := 10) (x := (1 : Int64)) rfl rfl rfl ?_
      refine j_ldc2_w (pc' := 13) (x := (20 : Int64)) rfl rfl rfl ?_
      refine j_callTi (pc' := 16) (ai := 196) (vs := [.long (l2).toInt64, .long (1 : Int64), .long (20 : Int64)]) (rest := []) rfl rfl (fun _ _ => rfl) (c_X12_in (l2).toInt64 (1 : Int64) (20 : Int64) σ) (j_dd rfl hd) rfl ?_
      refine j_ifeq (t := 35) (pc' := 19) rfl rfl rfl (fun h5 => ?_) (fun h5 => ?_)
      · exact kF (fun z => (fun z => z.1 h5) z.2)
      · refine j_iload_n (pc' := 20) rfl rfl rfl ?_
        refine j_callTi (pc' := 23) (ai := 289) (vs := [.int l3]) (rest := []) rfl rfl (fun _ _ => rfl) (c_X12_isLaw l3 σ) (j_dd rfl hd) rfl ?_
        refine j_ifeq (t := 35) (pc' := 26) rfl rfl rfl (fun h6 => ?_) (fun h6 => ?_)
        · exact kF (fun z => (fun z => (fun z => z h6) z.2) z.2)
        · exact kT (⟨h4, ⟨h5, h6⟩⟩)
  · refine j_aload_n (pc' := 27) rfl rfl rfl ?_
    refine j_iload (pc' := 29) rfl rfl rfl ?_
    refine j_callPi (pc' := 32) (ai := 205) (vs := [.ref 75, .int l4]) (rest := []) rfl rfl (fun _ _ => rfl) (c_X12_isPlayer l4 σ) (j_dd rfl hd) rfl (fun v1 => ?_)
    refine j_two (pT := 35) (pF := 38) (L1 := [some (.ref 75), some (.int l1), some (.int l2), some (.int l3), some (.int l4), none, none]) (st1 := []) (fun o kT kF => ?_) (fun h1 => ?_) (fun h1 => ?_)
    · refine j_ifne (t := 38) (pc' := 35) rfl rfl rfl (fun h2 => ?_) (fun h2 => ?_)
      · exact kF h2
      · exact kT h2
    · refine j_bipush (pc' := 37) (x := (-2 : Int32)) rfl rfl rfl ?_
      exact j_ret rfl rfl rfl (fun _ h => h)
    · refine j_iconst (pc' := 39) (x := (0 : Int32)) rfl rfl rfl ?_
      refine j_istore (pc' := 41) (L' := [some (.ref 75), some (.int l1), some (.int l2), some (.int l3), some (.int l4), some (.int (0 : Int32)), none]) rfl rfl rfl ?_
      refine j_iconst (pc' := 42) (x := (0 : Int32)) rfl rfl rfl ?_
      refine j_istore (pc' := 44) (L' := [some (.ref 75), some (.int l1), some (.int l2), some (.int l3), some (.int l4), some (.int (0 : Int32)), some (.int (0 : Int32))]) rfl rfl rfl ?_
      refine j_q2 (l_X12_years_44 hd τ l1 l2 l3 l4 j_F (0 : Int32) (0 : Int32) σ) (fun v2 σ3 => ?_)
      show j_J false τ M_cX12_years d 74 [none, none, none, none, none, some (.int v2), none] [] σ3 _ _
      refine j_iload (pc' := 76) rfl rfl rfl ?_
      exact j_ret rfl rfl rfl (fun _ h => h)
  · refine j_bipush (pc' := 37) (x := (-2 : Int32)) rfl rfl rfl ?_
    exact j_ret rfl rfl rfl (fun _ h => h)

theorem c_X3_copy_47_5 (σ : j_G) : j_K true 0 30 [.ref 47, .ref 5] σ (f_X3_copy 5 47 6 48 7 49 8 50 σ) j_Rv := by
  refine j_mkK (M := M_cX3_copy) (L := [some (.ref 47), some (.ref 5)]) (m := 0) t_30 rfl (j_rcvO j_a47 rfl) rfl (fun d hd τ => ?_)
  unfold f_X3_copy
  refine j_aload_n (pc' := 1) rfl rfl rfl ?_
  refine j_aload_n (pc' := 2) rfl rfl rfl ?_
  refine j_gfi (pc' := 5) rfl rfl j_a5 rfl ?_
  refine j_pfi (pc' := 8) rfl rfl j_a47 rfl rfl (fun σ1 => ?_)
  refine j_aload_n (pc' := 9) rfl rfl rfl ?_
  refine j_aload_n (pc' := 10) rfl rfl rfl ?_
  refine j_gfi (pc' := 13) rfl rfl j_a5 rfl ?_
  refine j_pfi (pc' := 16) rfl rfl j_a47 rfl rfl (fun σ2 => ?_)
  refine j_aload_n (pc' := 17) rfl rfl rfl ?_
  refine j_gfr (pc' := 20) (x := 6) rfl rfl j_a5 rfl rfl ?_
  refine j_iconst (pc' := 21) (x := (0 : Int32)) rfl rfl rfl ?_
  refine j_aload_n (pc' := 22) rfl rfl rfl ?_
  refine j_gfr (pc' := 25) (x := 48) rfl rfl j_a47 rfl rfl ?_
  refine j_iconst (pc' := 26) (x := (0 : Int32)) rfl rfl rfl ?_
  refine j_bipush (pc' := 28) (x := (24 : Int32)) rfl rfl rfl ?_
  refine j_cpi (pc' := 31) rfl rfl rfl j_a6 j_a48 (fun σ3 => ?_)
  refine j_aload_n (pc' := 32) rfl rfl rfl ?_
  refine j_gfr (pc' := 35) (x := 7) rfl rfl j_a5 rfl rfl ?_
  refine j_iconst (pc' := 36) (x := (0 : Int32)) rfl rfl rfl ?_
  refine j_aload_n (pc' := 37) rfl rfl rfl ?_
  refine j_gfr (pc' := 40) (x := 49) rfl rfl j_a47 rfl rfl ?_
  refine j_iconst (pc' := 41) (x := (0 : Int32)) rfl rfl rfl ?_
  refine j_bipush (pc' := 43) (x := (24 : Int32)) rfl rfl rfl ?_
  refine j_cpi (pc' := 46) rfl rfl rfl j_a7 j_a49 (fun σ4 => ?_)
  refine j_aload_n (pc' := 47) rfl rfl rfl ?_
  refine j_gfr (pc' := 50) (x := 8) rfl rfl j_a5 rfl rfl ?_
  refine j_iconst (pc' := 51) (x := (0 : Int32)) rfl rfl rfl ?_
  refine j_aload_n (pc' := 52) rfl rfl rfl ?_
  refine j_gfr (pc' := 55) (x := 50) rfl rfl j_a47 rfl rfl ?_
  refine j_iconst (pc' := 56) (x := (0 : Int32)) rfl rfl rfl ?_
  refine j_bipush (pc' := 58) (x := (24 : Int32)) rfl rfl rfl ?_
  refine j_cpi (pc' := 61) rfl rfl rfl j_a8 j_a50 (fun σ5 => ?_)
  exact j_ret rfl rfl rfl (fun _ h => h)

theorem c_X2_copy_43_1 (σ : j_G) : j_K true 1 10 [.ref 43, .ref 1] σ (f_X2_copy 1 43 2 44 3 45 4 46 5 47 6 48 7 49 8 50 σ) j_Rv := by
  refine j_mkK (M := M_cX2_copy) (L := [some (.ref 43), some (.ref 1)]) (m := 0) t_10 rfl (j_rcvO j_a43 rfl) rfl (fun d hd τ => ?_)
  unfold f_X2_copy
  refine j_aload_n (pc' := 1) rfl rfl rfl ?_
  refine j_aload_n (pc' := 2) rfl rfl rfl ?_
  refine j_gfi (pc' := 5) rfl rfl j_a1 rfl ?_
  refine j_pfi (pc' := 8) rfl rfl j_a43 rfl rfl (fun σ1 => ?_)
  refine j_aload_n (pc' := 9) rfl rfl rfl ?_
  refine j_aload_n (pc' := 10) rfl rfl rfl ?_
  refine j_gfi (pc' := 13) rfl rfl j_a1 rfl ?_
  refine j_pfi (pc' := 16) rfl rfl j_a43 rfl rfl (fun σ2 => ?_)
  refine j_aload_n (pc' := 17) rfl rfl rfl ?_
  refine j_aload_n (pc' := 18) rfl rfl rfl ?_
  refine j_gfi (pc' := 21) rfl rfl j_a1 rfl ?_
  refine j_pfi (pc' := 24) rfl rfl j_a43 rfl rfl (fun σ3 => ?_)
  refine j_aload_n (pc' := 25) rfl rfl rfl ?_
  refine j_aload_n (pc' := 26) rfl rfl rfl ?_
  refine j_gfi (pc' := 29) rfl rfl j_a1 rfl ?_
  refine j_pfi (pc' := 32) rfl rfl j_a43 rfl rfl (fun σ4 => ?_)
  refine j_aload_n (pc' := 33) rfl rfl rfl ?_
  refine j_aload_n (pc' := 34) rfl rfl rfl ?_
  refine j_gfi (pc' := 37) rfl rfl j_a1 rfl ?_
  refine j_pfi (pc' := 40) rfl rfl j_a43 rfl rfl (fun σ5 => ?_)
  refine j_aload_n (pc' := 41) rfl rfl rfl ?_
  refine j_aload_n (pc' := 42) rfl rfl rfl ?_
  refine j_gfi (pc' := 45) rfl rfl j_a1 rfl ?_
  refine j_pfi (pc' := 48) rfl rfl j_a43 rfl rfl (fun σ6 => ?_)
  refine j_aload_n (pc' := 49) rfl rfl rfl ?_
  refine j_aload_n (pc' := 50) rfl rfl rfl ?_
  refine j_gfi (pc' := 53) rfl rfl j_a1 rfl ?_
  refine j_pfi (pc' := 56) rfl rfl j_a43 rfl rfl (fun σ7 => ?_)
  refine j_aload_n (pc' := 57) rfl rfl rfl ?_
  refine j_aload_n (pc' := 58) rfl rfl rfl ?_
  refine j_gfi (pc' := 61) rfl rfl j_a1 rfl ?_
  refine j_pfi (pc' := 64) rfl rfl j_a43 rfl rfl (fun σ8 => ?_)
  refine j_aload_n (pc' := 65) rfl rfl rfl ?_
  refine j_aload_n (pc' := 66) rfl rfl rfl ?_
  refine j_gfi (pc' := 69) rfl rfl j_a1 rfl ?_
  refine j_pfi (pc' := 72) rfl rfl j_a43 rfl rfl (fun σ9 => ?_)
  refine j_aload_n (pc' := 73) rfl rfl rfl ?_
  refine j_aload_n (pc' := 74) rfl rfl rfl ?_
  refine j_gfi (pc' := 77) rfl rfl j_a1 rfl ?_
  refine j_pfi (pc' := 80) rfl rfl j_a43 rfl rfl (fun σ10 => ?_)
  refine j_aload_n (pc' := 81) rfl rfl rfl ?_
  refine j_gfr (pc' := 84) (x := 2) rfl rfl j_a1 rfl rfl ?_
  refine j_iconst (pc' := 85) (x := (0 : Int32)) rfl rfl rfl ?_
  refine j_aload_n (pc' := 86) rfl rfl rfl ?_
  refine j_gfr (pc' := 89) (x := 44) rfl rfl j_a43 rfl rfl ?_
  refine j_iconst (pc' := 90) (x := (0 : Int32)) rfl rfl rfl ?_
  refine j_bipush (pc' := 92) (x := (6 : Int32)) rfl rfl rfl ?_
  refine j_cpi (pc' := 95) rfl rfl rfl j_a2 j_a44 (fun σ11 => ?_)
  refine j_aload_n (pc' := 96) rfl rfl rfl ?_
  refine j_gfr (pc' := 99) (x := 3) rfl rfl j_a1 rfl rfl ?_
  refine j_iconst (pc' := 100) (x := (0 : Int32)) rfl rfl rfl ?_
  refine j_aload_n (pc' := 101) rfl rfl rfl ?_
  refine j_gfr (pc' := 104) (x := 45) rfl rfl j_a43 rfl rfl ?_
  refine j_iconst (pc' := 105) (x := (0 : Int32)) rfl rfl rfl ?_
  refine j_bipush (pc' := 107) (x := (6 : Int32)) rfl rfl rfl ?_
  refine j_cpi (pc' := 110) rfl rfl rfl j_a3 j_a45 (fun σ12 => ?_)
  refine j_aload_n (pc' := 111) rfl rfl rfl ?_
  refine j_gfr (pc' := 114) (x := 4) rfl rfl j_a1 rfl rfl ?_
  refine j_iconst (pc' := 115) (x := (0 : Int32)) rfl rfl rfl ?_
  refine j_aload_n (pc' := 116) rfl rfl rfl ?_
  refine j_gfr (pc' := 119) (x := 46) rfl rfl j_a43 rfl rfl ?_
  refine j_iconst (pc' := 120) (x := (0 : Int32)) rfl rfl rfl ?_
  refine j_bipush (pc' := 122) (x := (20 : Int32)) rfl rfl rfl ?_
  refine j_cpi (pc' := 125) rfl rfl rfl j_a4 j_a46 (fun σ13 => ?_)
  refine j_aload_n (pc' := 126) rfl rfl rfl ?_
  refine j_gfr (pc' := 129) (x := 47) rfl rfl j_a43 rfl rfl ?_
  refine j_aload_n (pc' := 130) rfl rfl rfl ?_
  refine j_gfr (pc' := 133) (x := 5) rfl rfl j_a1 rfl rfl ?_
  refine j_callRv (pc' := 136) (ai := 30) (vs := [.ref 47, .ref 5]) (rest := []) rfl rfl (fun _ _ => rfl) (c_X3_copy_47_5  σ13) (j_dd rfl hd) rfl (fun σ14 => ?_)
  exact j_ret rfl rfl rfl (fun _ h => h)

theorem c_X3_copy_55_5 (σ : j_G) : j_K true 0 30 [.ref 55, .ref 5] σ (f_X3_copy 5 55 6 56 7 57 8 58 σ) j_Rv := by
  refine j_mkK (M := M_cX3_copy) (L := [some (.ref 55), some (.ref 5)]) (m := 0) t_30 rfl (j_rcvO j_a55 rfl) rfl (fun d hd τ => ?_)
  unfold f_X3_copy
  refine j_aload_n (pc' := 1) rfl rfl rfl ?_
  refine j_aload_n (pc' := 2) rfl rfl rfl ?_
  refine j_gfi (pc' := 5) rfl rfl j_a5 rfl ?_
  refine j_pfi (pc' := 8) rfl rfl j_a55 rfl rfl (fun σ1 => ?_)
  refine j_aload_n (pc' := 9) rfl rfl rfl ?_
  refine j_aload_n (pc' := 10) rfl rfl rfl ?_
  refine j_gfi (pc' := 13) rfl rfl j_a5 rfl ?_
  refine j_pfi (pc' := 16) rfl rfl j_a55 rfl rfl (fun σ2 => ?_)
  refine j_aload_n (pc' := 17) rfl rfl rfl ?_
  refine j_gfr (pc' := 20) (x := 6) rfl rfl j_a5 rfl rfl ?_
  refine j_iconst (pc' := 21) (x := (0 : Int32)) rfl rfl rfl ?_
  refine j_aload_n (pc' := 22) rfl rfl rfl ?_
  refine j_gfr (pc' := 25) (x := 56) rfl rfl j_a55 rfl rfl ?_
  refine j_iconst (pc' := 26) (x := (0 : Int32)) rfl rfl rfl ?_
  refine j_bipush (pc' := 28) (x := (24 : Int32)) rfl rfl rfl ?_
  refine j_cpi (pc' := 31) rfl rfl rfl j_a6 j_a56 (fun σ3 => ?_)
  refine j_aload_n (pc' := 32) rfl rfl rfl ?_
  refine j_gfr (pc' := 35) (x := 7) rfl rfl j_a5 rfl rfl ?_
  refine j_iconst (pc' := 36) (x := (0 : Int32)) rfl rfl rfl ?_
  refine j_aload_n (pc' := 37) rfl rfl rfl ?_
  refine j_gfr (pc' := 40) (x := 57) rfl rfl j_a55 rfl rfl ?_
  refine j_iconst (pc' := 41) (x := (0 : Int32)) rfl rfl rfl ?_
  refine j_bipush (pc' := 43) (x := (24 : Int32)) rfl rfl rfl ?_
  refine j_cpi (pc' := 46) rfl rfl rfl j_a7 j_a57 (fun σ4 => ?_)
  refine j_aload_n (pc' := 47) rfl rfl rfl ?_
  refine j_gfr (pc' := 50) (x := 8) rfl rfl j_a5 rfl rfl ?_
  refine j_iconst (pc' := 51) (x := (0 : Int32)) rfl rfl rfl ?_
  refine j_aload_n (pc' := 52) rfl rfl rfl ?_
  refine j_gfr (pc' := 55) (x := 58) rfl rfl j_a55 rfl rfl ?_
  refine j_iconst (pc' := 56) (x := (0 : Int32)) rfl rfl rfl ?_
  refine j_bipush (pc' := 58) (x := (24 : Int32)) rfl rfl rfl ?_
  refine j_cpi (pc' := 61) rfl rfl rfl j_a8 j_a58 (fun σ5 => ?_)
  exact j_ret rfl rfl rfl (fun _ h => h)

theorem c_X2_copy_51_1 (σ : j_G) : j_K true 1 10 [.ref 51, .ref 1] σ (f_X2_copy 1 51 2 52 3 53 4 54 5 55 6 56 7 57 8 58 σ) j_Rv := by
  refine j_mkK (M := M_cX2_copy) (L := [some (.ref 51), some (.ref 1)]) (m := 0) t_10 rfl (j_rcvO j_a51 rfl) rfl (fun d hd τ => ?_)
  unfold f_X2_copy
  refine j_aload_n (pc' := 1) rfl rfl rfl ?_
  refine j_aload_n (pc' := 2) rfl rfl rfl ?_
  refine j_gfi (pc' := 5) rfl rfl j_a1 rfl ?_
  refine j_pfi (pc' := 8) rfl rfl j_a51 rfl rfl (fun σ1 => ?_)
  refine j_aload_n (pc' := 9) rfl rfl rfl ?_
  refine j_aload_n (pc' := 10) rfl rfl rfl ?_
  refine j_gfi (pc' := 13) rfl rfl j_a1 rfl ?_
  refine j_pfi (pc' := 16) rfl rfl j_a51 rfl rfl (fun σ2 => ?_)
  refine j_aload_n (pc' := 17) rfl rfl rfl ?_
  refine j_aload_n (pc' := 18) rfl rfl rfl ?_
  refine j_gfi (pc' := 21) rfl rfl j_a1 rfl ?_
  refine j_pfi (pc' := 24) rfl rfl j_a51 rfl rfl (fun σ3 => ?_)
  refine j_aload_n (pc' := 25) rfl rfl rfl ?_
  refine j_aload_n (pc' := 26) rfl rfl rfl ?_
  refine j_gfi (pc' := 29) rfl rfl j_a1 rfl ?_
  refine j_pfi (pc' := 32) rfl rfl j_a51 rfl rfl (fun σ4 => ?_)
  refine j_aload_n (pc' := 33) rfl rfl rfl ?_
  refine j_aload_n (pc' := 34) rfl rfl rfl ?_
  refine j_gfi (pc' := 37) rfl rfl j_a1 rfl ?_
  refine j_pfi (pc' := 40) rfl rfl j_a51 rfl rfl (fun σ5 => ?_)
  refine j_aload_n (pc' := 41) rfl rfl rfl ?_
  refine j_aload_n (pc' := 42) rfl rfl rfl ?_
  refine j_gfi (pc' := 45) rfl rfl j_a1 rfl ?_
  refine j_pfi (pc' := 48) rfl rfl j_a51 rfl rfl (fun σ6 => ?_)
  refine j_aload_n (pc' := 49) rfl rfl rfl ?_
  refine j_aload_n (pc' := 50) rfl rfl rfl ?_
  refine j_gfi (pc' := 53) rfl rfl j_a1 rfl ?_
  refine j_pfi (pc' := 56) rfl rfl j_a51 rfl rfl (fun σ7 => ?_)
  refine j_aload_n (pc' := 57) rfl rfl rfl ?_
  refine j_aload_n (pc' := 58) rfl rfl rfl ?_
  refine j_gfi (pc' := 61) rfl rfl j_a1 rfl ?_
  refine j_pfi (pc' := 64) rfl rfl j_a51 rfl rfl (fun σ8 => ?_)
  refine j_aload_n (pc' := 65) rfl rfl rfl ?_
  refine j_aload_n (pc' := 66) rfl rfl rfl ?_
  refine j_gfi (pc' := 69) rfl rfl j_a1 rfl ?_
  refine j_pfi (pc' := 72) rfl rfl j_a51 rfl rfl (fun σ9 => ?_)
  refine j_aload_n (pc' := 73) rfl rfl rfl ?_
  refine j_aload_n (pc' := 74) rfl rfl rfl ?_
  refine j_gfi (pc' := 77) rfl rfl j_a1 rfl ?_
  refine j_pfi (pc' := 80) rfl rfl j_a51 rfl rfl (fun σ10 => ?_)
  refine j_aload_n (pc' := 81) rfl rfl rfl ?_
  refine j_gfr (pc' := 84) (x := 2) rfl rfl j_a1 rfl rfl ?_
  refine j_iconst (pc' := 85) (x := (0 : Int32)) rfl rfl rfl ?_
  refine j_aload_n (pc' := 86) rfl rfl rfl ?_
  refine j_gfr (pc' := 89) (x := 52) rfl rfl j_a51 rfl rfl ?_
  refine j_iconst (pc' := 90) (x := (0 : Int32)) rfl rfl rfl ?_
  refine j_bipush (pc' := 92) (x := (6 : Int32)) rfl rfl rfl ?_
  refine j_cpi (pc' := 95) rfl rfl rfl j_a2 j_a52 (fun σ11 => ?_)
  refine j_aload_n (pc' := 96) rfl rfl rfl ?_
  refine j_gfr (pc' := 99) (x := 3) rfl rfl j_a1 rfl rfl ?_
  refine j_iconst (pc' := 100) (x := (0 : Int32)) rfl rfl rfl ?_
  refine j_aload_n (pc' := 101) rfl rfl rfl ?_
  refine j_gfr (pc' := 104) (x := 53) rfl rfl j_a51 rfl rfl ?_
  refine j_iconst (pc' := 105) (x := (0 : Int32)) rfl rfl rfl ?_
  refine j_bipush (pc' := 107) (x := (6 : Int32)) rfl rfl rfl ?_
  refine j_cpi (pc' := 110) rfl rfl rfl j_a3 j_a53 (fun σ12 => ?_)
  refine j_aload_n (pc' := 111) rfl rfl rfl ?_
  refine j_gfr (pc' := 114) (x := 4) rfl rfl j_a1 rfl rfl ?_
  refine j_iconst (pc' := 115) (x := (0 : Int32)) rfl rfl rfl ?_
  refine j_aload_n (pc' := 116) rfl rfl rfl ?_
  refine j_gfr (pc' := 119) (x := 54) rfl rfl j_a51 rfl rfl ?_
  refine j_iconst (pc' := 120) (x := (0 : Int32)) rfl rfl rfl ?_
  refine j_bipush (pc' := 122) (x := (20 : Int32)) rfl rfl rfl ?_
  refine j_cpi (pc' := 125) rfl rfl rfl j_a4 j_a54 (fun σ13 => ?_)
  refine j_aload_n (pc' := 126) rfl rfl rfl ?_
  refine j_gfr (pc' := 129) (x := 55) rfl rfl j_a51 rfl rfl ?_
  refine j_aload_n (pc' := 130) rfl rfl rfl ?_
  refine j_gfr (pc' := 133) (x := 5) rfl rfl j_a1 rfl rfl ?_
  refine j_callRv (pc' := 136) (ai := 30) (vs := [.ref 55, .ref 5]) (rest := []) rfl rfl (fun _ _ => rfl) (c_X3_copy_55_5  σ13) (j_dd rfl hd) rfl (fun σ14 => ?_)
  exact j_ret rfl rfl rfl (fun _ h => h)

theorem c_X3_copy_63_5 (σ : j_G) : j_K true 0 30 [.ref 63, .ref 5] σ (f_X3_copy 5 63 6 64 7 65 8 66 σ) j_Rv := by
  refine j_mkK (M := M_cX3_copy) (L := [some (.ref 63), some (.ref 5)]) (m := 0) t_30 rfl (j_rcvO j_a63 rfl) rfl (fun d hd τ => ?_)
  unfold f_X3_copy
  refine j_aload_n (pc' := 1) rfl rfl rfl ?_
  refine j_aload_n (pc' := 2) rfl rfl rfl ?_
  refine j_gfi (pc' := 5) rfl rfl j_a5 rfl ?_
  refine j_pfi (pc' := 8) rfl rfl j_a63 rfl rfl (fun σ1 => ?_)
  refine j_aload_n (pc' := 9) rfl rfl rfl ?_
  refine j_aload_n (pc' := 10) rfl rfl rfl ?_
  refine j_gfi (pc' := 13) rfl rfl j_a5 rfl ?_
  refine j_pfi (pc' := 16) rfl rfl j_a63 rfl rfl (fun σ2 => ?_)
  refine j_aload_n (pc' := 17) rfl rfl rfl ?_
  refine j_gfr (pc' := 20) (x := 6) rfl rfl j_a5 rfl rfl ?_
  refine j_iconst (pc' := 21) (x := (0 : Int32)) rfl rfl rfl ?_
  refine j_aload_n (pc' := 22) rfl rfl rfl ?_
  refine j_gfr (pc' := 25) (x := 64) rfl rfl j_a63 rfl rfl ?_
  refine j_iconst (pc' := 26) (x := (0 : Int32)) rfl rfl rfl ?_
  refine j_bipush (pc' := 28) (x := (24 : Int32)) rfl rfl rfl ?_
  refine j_cpi (pc' := 31) rfl rfl rfl j_a6 j_a64 (fun σ3 => ?_)
  refine j_aload_n (pc' := 32) rfl rfl rfl ?_
  refine j_gfr (pc' := 35) (x := 7) rfl rfl j_a5 rfl rfl ?_
  refine j_iconst (pc' := 36) (x := (0 : Int32)) rfl rfl rfl ?_
  refine j_aload_n (pc' := 37) rfl rfl rfl ?_
  refine j_gfr (pc' := 40) (x := 65) rfl rfl j_a63 rfl rfl ?_
  refine j_iconst (pc' := 41) (x := (0 : Int32)) rfl rfl rfl ?_
  refine j_bipush (pc' := 43) (x := (24 : Int32)) rfl rfl rfl ?_
  refine j_cpi (pc' := 46) rfl rfl rfl j_a7 j_a65 (fun σ4 => ?_)
  refine j_aload_n (pc' := 47) rfl rfl rfl ?_
  refine j_gfr (pc' := 50) (x := 8) rfl rfl j_a5 rfl rfl ?_
  refine j_iconst (pc' := 51) (x := (0 : Int32)) rfl rfl rfl ?_
  refine j_aload_n (pc' := 52) rfl rfl rfl ?_
  refine j_gfr (pc' := 55) (x := 66) rfl rfl j_a63 rfl rfl ?_
  refine j_iconst (pc' := 56) (x := (0 : Int32)) rfl rfl rfl ?_
  refine j_bipush (pc' := 58) (x := (24 : Int32)) rfl rfl rfl ?_
  refine j_cpi (pc' := 61) rfl rfl rfl j_a8 j_a66 (fun σ5 => ?_)
  exact j_ret rfl rfl rfl (fun _ h => h)

theorem c_X2_copy_59_1 (σ : j_G) : j_K true 1 10 [.ref 59, .ref 1] σ (f_X2_copy 1 59 2 60 3 61 4 62 5 63 6 64 7 65 8 66 σ) j_Rv := by
  refine j_mkK (M := M_cX2_copy) (L := [some (.ref 59), some (.ref 1)]) (m := 0) t_10 rfl (j_rcvO j_a59 rfl) rfl (fun d hd τ => ?_)
  unfold f_X2_copy
  refine j_aload_n (pc' := 1) rfl rfl rfl ?_
  refine j_aload_n (pc' := 2) rfl rfl rfl ?_
  refine j_gfi (pc' := 5) rfl rfl j_a1 rfl ?_
  refine j_pfi (pc' := 8) rfl rfl j_a59 rfl rfl (fun σ1 => ?_)
  refine j_aload_n (pc' := 9) rfl rfl rfl ?_
  refine j_aload_n (pc' := 10) rfl rfl rfl ?_
  refine j_gfi (pc' := 13) rfl rfl j_a1 rfl ?_
  refine j_pfi (pc' := 16) rfl rfl j_a59 rfl rfl (fun σ2 => ?_)
  refine j_aload_n (pc' := 17) rfl rfl rfl ?_
  refine j_aload_n (pc' := 18) rfl rfl rfl ?_
  refine j_gfi (pc' := 21) rfl rfl j_a1 rfl ?_
  refine j_pfi (pc' := 24) rfl rfl j_a59 rfl rfl (fun σ3 => ?_)
  refine j_aload_n (pc' := 25) rfl rfl rfl ?_
  refine j_aload_n (pc' := 26) rfl rfl rfl ?_
  refine j_gfi (pc' := 29) rfl rfl j_a1 rfl ?_
  refine j_pfi (pc' := 32) rfl rfl j_a59 rfl rfl (fun σ4 => ?_)
  refine j_aload_n (pc' := 33) rfl rfl rfl ?_
  refine j_aload_n (pc' := 34) rfl rfl rfl ?_
  refine j_gfi (pc' := 37) rfl rfl j_a1 rfl ?_
  refine j_pfi (pc' := 40) rfl rfl j_a59 rfl rfl (fun σ5 => ?_)
  refine j_aload_n (pc' := 41) rfl rfl rfl ?_
  refine j_aload_n (pc' := 42) rfl rfl rfl ?_
  refine j_gfi (pc' := 45) rfl rfl j_a1 rfl ?_
  refine j_pfi (pc' := 48) rfl rfl j_a59 rfl rfl (fun σ6 => ?_)
  refine j_aload_n (pc' := 49) rfl rfl rfl ?_
  refine j_aload_n (pc' := 50) rfl rfl rfl ?_
  refine j_gfi (pc' := 53) rfl rfl j_a1 rfl ?_
  refine j_pfi (pc' := 56) rfl rfl j_a59 rfl rfl (fun σ7 => ?_)
  refine j_aload_n (pc' := 57) rfl rfl rfl ?_
  refine j_aload_n (pc' := 58) rfl rfl rfl ?_
  refine j_gfi (pc' := 61) rfl rfl j_a1 rfl ?_
  refine j_pfi (pc' := 64) rfl rfl j_a59 rfl rfl (fun σ8 => ?_)
  refine j_aload_n (pc' := 65) rfl rfl rfl ?_
  refine j_aload_n (pc' := 66) rfl rfl rfl ?_
  refine j_gfi (pc' := 69) rfl rfl j_a1 rfl ?_
  refine j_pfi (pc' := 72) rfl rfl j_a59 rfl rfl (fun σ9 => ?_)
  refine j_aload_n (pc' := 73) rfl rfl rfl ?_
  refine j_aload_n (pc' := 74) rfl rfl rfl ?_
  refine j_gfi (pc' := 77) rfl rfl j_a1 rfl ?_
  refine j_pfi (pc' := 80) rfl rfl j_a59 rfl rfl (fun σ10 => ?_)
  refine j_aload_n (pc' := 81) rfl rfl rfl ?_
  refine j_gfr (pc' := 84) (x := 2) rfl rfl j_a1 rfl rfl ?_
  refine j_iconst (pc' := 85) (x := (0 : Int32)) rfl rfl rfl ?_
  refine j_aload_n (pc' := 86) rfl rfl rfl ?_
  refine j_gfr (pc' := 89) (x := 60) rfl rfl j_a59 rfl rfl ?_
  refine j_iconst (pc' := 90) (x := (0 : Int32)) rfl rfl rfl ?_
  refine j_bipush (pc' := 92) (x := (6 : Int32)) rfl rfl rfl ?_
  refine j_cpi (pc' := 95) rfl rfl rfl j_a2 j_a60 (fun σ11 => ?_)
  refine j_aload_n (pc' := 96) rfl rfl rfl ?_
  refine j_gfr (pc' := 99) (x := 3) rfl rfl j_a1 rfl rfl ?_
  refine j_iconst (pc' := 100) (x := (0 : Int32)) rfl rfl rfl ?_
  refine j_aload_n (pc' := 101) rfl rfl rfl ?_
  refine j_gfr (pc' := 104) (x := 61) rfl rfl j_a59 rfl rfl ?_
  refine j_iconst (pc' := 105) (x := (0 : Int32)) rfl rfl rfl ?_
  refine j_bipush (pc' := 107) (x := (6 : Int32)) rfl rfl rfl ?_
  refine j_cpi (pc' := 110) rfl rfl rfl j_a3 j_a61 (fun σ12 => ?_)
  refine j_aload_n (pc' := 111) rfl rfl rfl ?_
  refine j_gfr (pc' := 114) (x := 4) rfl rfl j_a1 rfl rfl ?_
  refine j_iconst (pc' := 115) (x := (0 : Int32)) rfl rfl rfl ?_
  refine j_aload_n (pc' := 116) rfl rfl rfl ?_
  refine j_gfr (pc' := 119) (x := 62) rfl rfl j_a59 rfl rfl ?_
  refine j_iconst (pc' := 120) (x := (0 : Int32)) rfl rfl rfl ?_
  refine j_bipush (pc' := 122) (x := (20 : Int32)) rfl rfl rfl ?_
  refine j_cpi (pc' := 125) rfl rfl rfl j_a4 j_a62 (fun σ13 => ?_)
  refine j_aload_n (pc' := 126) rfl rfl rfl ?_
  refine j_gfr (pc' := 129) (x := 63) rfl rfl j_a59 rfl rfl ?_
  refine j_aload_n (pc' := 130) rfl rfl rfl ?_
  refine j_gfr (pc' := 133) (x := 5) rfl rfl j_a1 rfl rfl ?_
  refine j_callRv (pc' := 136) (ai := 30) (vs := [.ref 63, .ref 5]) (rest := []) rfl rfl (fun _ _ => rfl) (c_X3_copy_63_5  σ13) (j_dd rfl hd) rfl (fun σ14 => ?_)
  exact j_ret rfl rfl rfl (fun _ h => h)

noncomputable def f_X11_image (l1 : Int32) (σ : j_G) : Option (Int32 × j_G) :=
  if (l1 < 0) ∨ (¬ l1 < (3 : Int32)) then (some ((-2 : Int32), σ)) else (if l1 = 0 then (j_b1 (f_X2_copy 1 43 2 44 3 45 4 46 5 47 6 48 7 49 8 50 σ) fun σ1 =>
  j_lt (j_si σ1 43 0 (1 : Int32)) fun σ2 =>
  some ((0 : Int32), σ2)) else
  if l1 = 1 then (j_b1 (f_X2_copy 1 51 2 52 3 53 4 54 5 55 6 56 7 57 8 58 σ) fun σ3 =>
  j_lt (j_si σ3 51 0 (1 : Int32)) fun σ4 =>
  some ((0 : Int32), σ4)) else
  if l1 = 2 then (j_b1 (f_X2_copy 1 59 2 60 3 61 4 62 5 63 6 64 7 65 8 66 σ) fun σ5 =>
  j_lt (j_si σ5 59 0 (1 : Int32)) fun σ6 =>
  some ((0 : Int32), σ6)) else
  none)
theorem c_X11_image (l1 : Int32) (σ : j_G) : j_K true 2 177 [.ref 0, .int l1] σ (f_X11_image l1 σ) j_Ri := by
  refine j_mkK (M := M_cX11_image) (L := [some (.ref 0), some (.int l1)]) (m := 0) t_177 rfl (j_rcvO j_a0 rfl) rfl (fun d hd τ => ?_)
  unfold f_X11_image
  refine j_iload_n (pc' := 1) rfl rfl rfl ?_
  refine j_two (pT := 9) (pF := 12) (L1 := [some (.ref 0), some (.int l1)]) (st1 := []) (fun o kT kF => ?_) (fun h4 => ?_) (fun h4 => ?_)
  · refine j_iflt (t := 9) (pc' := 4) rfl rfl rfl (fun h5 => ?_) (fun h5 => ?_)
    · exact kT (Or.inl h5)
    · refine j_iload_n (pc' := 5) rfl rfl rfl ?_
      refine j_iconst (pc' := 6) (x := (3 : Int32)) rfl rfl rfl ?_
      refine j_iclt (t := 12) (pc' := 9) rfl rfl rfl (fun h6 => ?_) (fun h6 => ?_)
      · exact kF (fun z => z.elim h5 (fun z => z h6))
      · exact kT (Or.inr (h6))
  · refine j_bipush (pc' := 11) (x := (-2 : Int32)) rfl rfl rfl ?_
    exact j_ret rfl rfl rfl (fun _ h => h)
  · refine j_aload_n (pc' := 13) rfl rfl rfl ?_
    refine j_gfr (pc' := 16) (x := 9) rfl rfl j_a0 rfl rfl ?_
    refine j_iload_n (pc' := 17) rfl rfl rfl ?_
    refine j_spl (k := (0 : Int32)) (fun h1 => ?_) (fun h1 => ?_)
    · subst h1
      refine j_aald (pc' := 18) (r := 43) rfl rfl j_a9 (by decide) rfl ?_
      refine j_aload_n (pc' := 19) rfl rfl rfl ?_
      refine j_gfr (pc' := 22) (x := 1) rfl rfl j_a0 rfl rfl ?_
      refine j_callRv (pc' := 25) (ai := 10) (vs := [.ref 43, .ref 1]) (rest := []) rfl rfl (fun _ _ => rfl) (c_X2_copy_43_1  σ) (j_dd rfl hd) rfl (fun σ1 => ?_)
      refine j_aload_n (pc' := 26) rfl rfl rfl ?_
      refine j_gfr (pc' := 29) (x := 9) rfl rfl j_a0 rfl rfl ?_
      refine j_iload_n (pc' := 30) rfl rfl rfl ?_
      refine j_aald (pc' := 31) (r := 43) rfl rfl j_a9 (by decide) rfl ?_
      refine j_iconst (pc' := 32) (x := (1 : Int32)) rfl rfl rfl ?_
      refine j_pfi (pc' := 35) rfl rfl j_a43 rfl rfl (fun σ2 => ?_)
      refine j_iconst (pc' := 36) (x := (0 : Int32)) rfl rfl rfl ?_
      exact j_ret rfl rfl rfl (fun _ h => h)
    refine j_spl (k := (1 : Int32)) (fun h2 => ?_) (fun h2 => ?_)
    · subst h2
      refine j_aald (pc' := 18) (r := 51) rfl rfl j_a9 (by decide) rfl ?_
      refine j_aload_n (pc' := 19) rfl rfl rfl ?_
      refine j_gfr (pc' := 22) (x := 1) rfl rfl j_a0 rfl rfl ?_
      refine j_callRv (pc' := 25) (ai := 10) (vs := [.ref 51, .ref 1]) (rest := []) rfl rfl (fun _ _ => rfl) (c_X2_copy_51_1  σ) (j_dd rfl hd) rfl (fun σ3 => ?_)
      refine j_aload_n (pc' := 26) rfl rfl rfl ?_
      refine j_gfr (pc' := 29) (x := 9) rfl rfl j_a0 rfl rfl ?_
      refine j_iload_n (pc' := 30) rfl rfl rfl ?_
      refine j_aald (pc' := 31) (r := 51) rfl rfl j_a9 (by decide) rfl ?_
      refine j_iconst (pc' := 32) (x := (1 : Int32)) rfl rfl rfl ?_
      refine j_pfi (pc' := 35) rfl rfl j_a51 rfl rfl (fun σ4 => ?_)
      refine j_iconst (pc' := 36) (x := (0 : Int32)) rfl rfl rfl ?_
      exact j_ret rfl rfl rfl (fun _ h => h)
    refine j_spl (k := (2 : Int32)) (fun h3 => ?_) (fun h3 => ?_)
    · subst h3
      refine j_aald (pc' := 18) (r := 59) rfl rfl j_a9 (by decide) rfl ?_
      refine j_aload_n (pc' := 19) rfl rfl rfl ?_
      refine j_gfr (pc' := 22) (x := 1) rfl rfl j_a0 rfl rfl ?_
      refine j_callRv (pc' := 25) (ai := 10) (vs := [.ref 59, .ref 1]) (rest := []) rfl rfl (fun _ _ => rfl) (c_X2_copy_59_1  σ) (j_dd rfl hd) rfl (fun σ5 => ?_)
      refine j_aload_n (pc' := 26) rfl rfl rfl ?_
      refine j_gfr (pc' := 29) (x := 9) rfl rfl j_a0 rfl rfl ?_
      refine j_iload_n (pc' := 30) rfl rfl rfl ?_
      refine j_aald (pc' := 31) (r := 59) rfl rfl j_a9 (by decide) rfl ?_
      refine j_iconst (pc' := 32) (x := (1 : Int32)) rfl rfl rfl ?_
      refine j_pfi (pc' := 35) rfl rfl j_a59 rfl rfl (fun σ6 => ?_)
      refine j_iconst (pc' := 36) (x := (0 : Int32)) rfl rfl rfl ?_
      exact j_ret rfl rfl rfl (fun _ h => h)
    exact j_none

noncomputable def p_X12_image_17 (l1 : Int32) : Nat → Int32 → j_G → Option j_G
  | 0, _, _ => none
  | n + 1, l2, σ =>
    if l2 < (116 : Int32) then (j_ix l2 116 (
    j_ix (((116 : Int32) * l1) + l2) 348 (
    j_lt (j_si σ 77 ((((116 : Int32) * l1) + l2)).toNatClampNeg (σ.1 76 (l2).toNatClampNeg)) fun σ1 =>
    p_X12_image_17 l1 n (l2 + (1 : Int32)) σ1))) else (some σ)

noncomputable def f_X12_image (l1 : Int32) (σ : j_G) : Option (Int32 × j_G) :=
  if (f_X12_in (l1).toInt64 (0 : Int64) (2 : Int64)) = 0 then (some ((-2 : Int32), σ)) else (j_b1 (p_X12_image_17 l1 j_F (0 : Int32) σ) fun σ1 =>
  j_ix l1 3 (
  j_lt (j_si σ1 78 (l1).toNatClampNeg (vp_nar .boolean (1 : Int32))) fun σ2 =>
  some ((0 : Int32), σ2)))
theorem l_X12_image_17 {d : Nat} (hd : 1 ≤ d) (τ : j_G) (l1 : Int32) : ∀ (n : Nat) (l2 : Int32) (σ : j_G), j_J false τ M_cX12_image d 17 [some (.ref 75), some (.int l1), some (.int l2)] [] σ (p_X12_image_17 l1 n l2 σ) (fun r Q => j_Tr false τ M_cX12_image d 46 [some (.ref 75), some (.int l1), none] [] r Q) := by
  intro n
  induction n with
  | zero => intro l2 σ; exact j_none
  | succ n ih =>
    intro l2 σ
    unfold p_X12_image_17
    refine j_iload_n (pc' := 18) rfl rfl rfl ?_
    refine j_bipush (pc' := 20) (x := (116 : Int32)) rfl rfl rfl ?_
    refine j_two (pT := 23) (pF := 46) (L1 := [some (.ref 75), some (.int l1), some (.int l2)]) (st1 := []) (fun o kT kF => ?_) (fun h1 => ?_) (fun h1 => ?_)
    · refine j_icge (t := 46) (pc' := 23) rfl rfl rfl (fun h2 => ?_) (fun h2 => ?_)
      · exact kF h2
      · exact kT h2
    · refine j_aload_n (pc' := 24) rfl rfl rfl ?_
      refine j_gfr (pc' := 27) (x := 77) rfl rfl j_a75 rfl rfl ?_
      refine j_bipush (pc' := 29) (x := (116 : Int32)) rfl rfl rfl ?_
      refine j_iload_n (pc' := 30) rfl rfl rfl ?_
      refine j_imul (pc' := 31) rfl rfl ?_
      refine j_iload_n (pc' := 32) rfl rfl rfl ?_
      refine j_iadd (pc' := 33) rfl rfl ?_
      refine j_aload_n (pc' := 34) rfl rfl rfl ?_
      refine j_gfr (pc' := 37) (x := 76) rfl rfl j_a75 rfl rfl ?_
      refine j_iload_n (pc' := 38) rfl rfl rfl ?_
      refine j_iald (pc' := 39) rfl rfl j_a76 ?_
      refine j_iast (pc' := 40) rfl rfl j_a77 (fun σ1 => ?_)
      refine j_iincx (pc' := 43) (y := (1 : Int32)) (L' := [some (.ref 75), some (.int l1), some (.int (l2 + (1 : Int32)))]) rfl rfl rfl rfl rfl ?_
      refine j_goto (t := 17) rfl rfl ?_
      exact ih (l2 + (1 : Int32)) σ1
    · refine j_wk [true, true, false] (L' := [some (.ref 75), some (.int l1), none]) rfl ?_
      exact j_end (fun _ h => h)

theorem c_X12_image (l1 : Int32) (σ : j_G) : j_K false 1 197 [.ref 75, .int l1] σ (f_X12_image l1 σ) j_Ri := by
  refine j_mkK (M := M_cX12_image) (L := [some (.ref 75), some (.int l1), none]) (m := 1) t_197 rfl (j_rcvO j_a75 rfl) rfl (fun d hd τ => ?_)
  unfold f_X12_image
  refine j_iload_n (pc' := 1) rfl rfl rfl ?_
  refine j_i2l (pc' := 2) rfl rfl ?_
  refine j_lconst (pc' := 3) (x := (0 : Int64)) rfl rfl rfl ?_
  refine j_ldc2_w (pc' := 6) (x := (2 : Int64)) rfl rfl rfl ?_
  refine j_callTi (pc' := 9) (ai := 196) (vs := [.long (l1).toInt64, .long (0 : Int64), .long (2 : Int64)]) (rest := []) rfl rfl (fun _ _ => rfl) (c_X12_in (l1).toInt64 (0 : Int64) (2 : Int64) σ) (j_dd rfl hd) rfl ?_
  refine j_two (pT := 12) (pF := 15) (L1 := [some (.ref 75), some (.int l1), none]) (st1 := []) (fun o kT kF => ?_) (fun h1 => ?_) (fun h1 => ?_)
  · refine j_ifne (t := 15) (pc' := 12) rfl rfl rfl (fun h2 => ?_) (fun h2 => ?_)
    · exact kF h2
    · exact kT h2
  · refine j_bipush (pc' := 14) (x := (-2 : Int32)) rfl rfl rfl ?_
    exact j_ret rfl rfl rfl (fun _ h => h)
  · refine j_iconst (pc' := 16) (x := (0 : Int32)) rfl rfl rfl ?_
    refine j_istore_n (pc' := 17) (L' := [some (.ref 75), some (.int l1), some (.int (0 : Int32))]) rfl rfl rfl ?_
    refine j_q1 (l_X12_image_17 hd τ l1 j_F (0 : Int32) σ) (fun σ1 => ?_)
    show j_J false τ M_cX12_image d 46 [some (.ref 75), some (.int l1), none] [] σ1 _ _
    refine j_aload_n (pc' := 47) rfl rfl rfl ?_
    refine j_gfr (pc' := 50) (x := 78) rfl rfl j_a75 rfl rfl ?_
    refine j_iload_n (pc' := 51) rfl rfl rfl ?_
    refine j_iconst (pc' := 52) (x := (1 : Int32)) rfl rfl rfl ?_
    refine j_bastz (pc' := 53) rfl rfl j_a78 (fun σ2 => ?_)
    refine j_iconst (pc' := 54) (x := (0 : Int32)) rfl rfl rfl ?_
    exact j_ret rfl rfl rfl (fun _ h => h)

theorem c_X3_copy_5_47 (σ : j_G) : j_K true 0 30 [.ref 5, .ref 47] σ (f_X3_copy 47 5 48 6 49 7 50 8 σ) j_Rv := by
  refine j_mkK (M := M_cX3_copy) (L := [some (.ref 5), some (.ref 47)]) (m := 0) t_30 rfl (j_rcvO j_a5 rfl) rfl (fun d hd τ => ?_)
  unfold f_X3_copy
  refine j_aload_n (pc' := 1) rfl rfl rfl ?_
  refine j_aload_n (pc' := 2) rfl rfl rfl ?_
  refine j_gfi (pc' := 5) rfl rfl j_a47 rfl ?_
  refine j_pfi (pc' := 8) rfl rfl j_a5 rfl rfl (fun σ1 => ?_)
  refine j_aload_n (pc' := 9) rfl rfl rfl ?_
  refine j_aload_n (pc' := 10) rfl rfl rfl ?_
  refine j_gfi (pc' := 13) rfl rfl j_a47 rfl ?_
  refine j_pfi (pc' := 16) rfl rfl j_a5 rfl rfl (fun σ2 => ?_)
  refine j_aload_n (pc' := 17) rfl rfl rfl ?_
  refine j_gfr (pc' := 20) (x := 48) rfl rfl j_a47 rfl rfl ?_
  refine j_iconst (pc' := 21) (x := (0 : Int32)) rfl rfl rfl ?_
  refine j_aload_n (pc' := 22) rfl rfl rfl ?_
  refine j_gfr (pc' := 25) (x := 6) rfl rfl j_a5 rfl rfl ?_
  refine j_iconst (pc' := 26) (x := (0 : Int32)) rfl rfl rfl ?_
  refine j_bipush (pc' := 28) (x := (24 : Int32)) rfl rfl rfl ?_
  refine j_cpi (pc' := 31) rfl rfl rfl j_a48 j_a6 (fun σ3 => ?_)
  refine j_aload_n (pc' := 32) rfl rfl rfl ?_
  refine j_gfr (pc' := 35) (x := 49) rfl rfl j_a47 rfl rfl ?_
  refine j_iconst (pc' := 36) (x := (0 : Int32)) rfl rfl rfl ?_
  refine j_aload_n (pc' := 37) rfl rfl rfl ?_
  refine j_gfr (pc' := 40) (x := 7) rfl rfl j_a5 rfl rfl ?_
  refine j_iconst (pc' := 41) (x := (0 : Int32)) rfl rfl rfl ?_
  refine j_bipush (pc' := 43) (x := (24 : Int32)) rfl rfl rfl ?_
  refine j_cpi (pc' := 46) rfl rfl rfl j_a49 j_a7 (fun σ4 => ?_)
  refine j_aload_n (pc' := 47) rfl rfl rfl ?_
  refine j_gfr (pc' := 50) (x := 50) rfl rfl j_a47 rfl rfl ?_
  refine j_iconst (pc' := 51) (x := (0 : Int32)) rfl rfl rfl ?_
  refine j_aload_n (pc' := 52) rfl rfl rfl ?_
  refine j_gfr (pc' := 55) (x := 8) rfl rfl j_a5 rfl rfl ?_
  refine j_iconst (pc' := 56) (x := (0 : Int32)) rfl rfl rfl ?_
  refine j_bipush (pc' := 58) (x := (24 : Int32)) rfl rfl rfl ?_
  refine j_cpi (pc' := 61) rfl rfl rfl j_a50 j_a8 (fun σ5 => ?_)
  exact j_ret rfl rfl rfl (fun _ h => h)

theorem c_X2_copy_1_43 (σ : j_G) : j_K true 1 10 [.ref 1, .ref 43] σ (f_X2_copy 43 1 44 2 45 3 46 4 47 5 48 6 49 7 50 8 σ) j_Rv := by
  refine j_mkK (M := M_cX2_copy) (L := [some (.ref 1), some (.ref 43)]) (m := 0) t_10 rfl (j_rcvO j_a1 rfl) rfl (fun d hd τ => ?_)
  unfold f_X2_copy
  refine j_aload_n (pc' := 1) rfl rfl rfl ?_
  refine j_aload_n (pc' := 2) rfl rfl rfl ?_
  refine j_gfi (pc' := 5) rfl rfl j_a43 rfl ?_
  refine j_pfi (pc' := 8) rfl rfl j_a1 rfl rfl (fun σ1 => ?_)
  refine j_aload_n (pc' := 9) rfl rfl rfl ?_
  refine j_aload_n (pc' := 10) rfl rfl rfl ?_
  refine j_gfi (pc' := 13) rfl rfl j_a43 rfl ?_
  refine j_pfi (pc' := 16) rfl rfl j_a1 rfl rfl (fun σ2 => ?_)
  refine j_aload_n (pc' := 17) rfl rfl rfl ?_
  refine j_aload_n (pc' := 18) rfl rfl rfl ?_
  refine j_gfi (pc' := 21) rfl rfl j_a43 rfl ?_
  refine j_pfi (pc' := 24) rfl rfl j_a1 rfl rfl (fun σ3 => ?_)
  refine j_aload_n (pc' := 25) rfl rfl rfl ?_
  refine j_aload_n (pc' := 26) rfl rfl rfl ?_
  refine j_gfi (pc' := 29) rfl rfl j_a43 rfl ?_
  refine j_pfi (pc' := 32) rfl rfl j_a1 rfl rfl (fun σ4 => ?_)
  refine j_aload_n (pc' := 33) rfl rfl rfl ?_
  refine j_aload_n (pc' := 34) rfl rfl rfl ?_
  refine j_gfi (pc' := 37) rfl rfl j_a43 rfl ?_
  refine j_pfi (pc' := 40) rfl rfl j_a1 rfl rfl (fun σ5 => ?_)
  refine j_aload_n (pc' := 41) rfl rfl rfl ?_
  refine j_aload_n (pc' := 42) rfl rfl rfl ?_
  refine j_gfi (pc' := 45) rfl rfl j_a43 rfl ?_
  refine j_pfi (pc' := 48) rfl rfl j_a1 rfl rfl (fun σ6 => ?_)
  refine j_aload_n (pc' := 49) rfl rfl rfl ?_
  refine j_aload_n (pc' := 50) rfl rfl rfl ?_
  refine j_gfi (pc' := 53) rfl rfl j_a43 rfl ?_
  refine j_pfi (pc' := 56) rfl rfl j_a1 rfl rfl (fun σ7 => ?_)
  refine j_aload_n (pc' := 57) rfl rfl rfl ?_
  refine j_aload_n (pc' := 58) rfl rfl rfl ?_
  refine j_gfi (pc' := 61) rfl rfl j_a43 rfl ?_
  refine j_pfi (pc' := 64) rfl rfl j_a1 rfl rfl (fun σ8 => ?_)
  refine j_aload_n (pc' := 65) rfl rfl rfl ?_
  refine j_aload_n (pc' := 66) rfl rfl rfl ?_
  refine j_gfi (pc' := 69) rfl rfl j_a43 rfl ?_
  refine j_pfi (pc' := 72) rfl rfl j_a1 rfl rfl (fun σ9 => ?_)
  refine j_aload_n (pc' := 73) rfl rfl rfl ?_
  refine j_aload_n (pc' := 74) rfl rfl rfl ?_
  refine j_gfi (pc' := 77) rfl rfl j_a43 rfl ?_
  refine j_pfi (pc' := 80) rfl rfl j_a1 rfl rfl (fun σ10 => ?_)
  refine j_aload_n (pc' := 81) rfl rfl rfl ?_
  refine j_gfr (pc' := 84) (x := 44) rfl rfl j_a43 rfl rfl ?_
  refine j_iconst (pc' := 85) (x := (0 : Int32)) rfl rfl rfl ?_
  refine j_aload_n (pc' := 86) rfl rfl rfl ?_
  refine j_gfr (pc' := 89) (x := 2) rfl rfl j_a1 rfl rfl ?_
  refine j_iconst (pc' := 90) (x := (0 : Int32)) rfl rfl rfl ?_
  refine j_bipush (pc' := 92) (x := (6 : Int32)) rfl rfl rfl ?_
  refine j_cpi (pc' := 95) rfl rfl rfl j_a44 j_a2 (fun σ11 => ?_)
  refine j_aload_n (pc' := 96) rfl rfl rfl ?_
  refine j_gfr (pc' := 99) (x := 45) rfl rfl j_a43 rfl rfl ?_
  refine j_iconst (pc' := 100) (x := (0 : Int32)) rfl rfl rfl ?_
  refine j_aload_n (pc' := 101) rfl rfl rfl ?_
  refine j_gfr (pc' := 104) (x := 3) rfl rfl j_a1 rfl rfl ?_
  refine j_iconst (pc' := 105) (x := (0 : Int32)) rfl rfl rfl ?_
  refine j_bipush (pc' := 107) (x := (6 : Int32)) rfl rfl rfl ?_
  refine j_cpi (pc' := 110) rfl rfl rfl j_a45 j_a3 (fun σ12 => ?_)
  refine j_aload_n (pc' := 111) rfl rfl rfl ?_
  refine j_gfr (pc' := 114) (x := 46) rfl rfl j_a43 rfl rfl ?_
  refine j_iconst (pc' := 115) (x := (0 : Int32)) rfl rfl rfl ?_
  refine j_aload_n (pc' := 116) rfl rfl rfl ?_
  refine j_gfr (pc' := 119) (x := 4) rfl rfl j_a1 rfl rfl ?_
  refine j_iconst (pc' := 120) (x := (0 : Int32)) rfl rfl rfl ?_
  refine j_bipush (pc' := 122) (x := (20 : Int32)) rfl rfl rfl ?_
  refine j_cpi (pc' := 125) rfl rfl rfl j_a46 j_a4 (fun σ13 => ?_)
  refine j_aload_n (pc' := 126) rfl rfl rfl ?_
  refine j_gfr (pc' := 129) (x := 5) rfl rfl j_a1 rfl rfl ?_
  refine j_aload_n (pc' := 130) rfl rfl rfl ?_
  refine j_gfr (pc' := 133) (x := 47) rfl rfl j_a43 rfl rfl ?_
  refine j_callRv (pc' := 136) (ai := 30) (vs := [.ref 5, .ref 47]) (rest := []) rfl rfl (fun _ _ => rfl) (c_X3_copy_5_47  σ13) (j_dd rfl hd) rfl (fun σ14 => ?_)
  exact j_ret rfl rfl rfl (fun _ h => h)

theorem c_X3_copy_5_55 (σ : j_G) : j_K true 0 30 [.ref 5, .ref 55] σ (f_X3_copy 55 5 56 6 57 7 58 8 σ) j_Rv := by
  refine j_mkK (M := M_cX3_copy) (L := [some (.ref 5), some (.ref 55)]) (m := 0) t_30 rfl (j_rcvO j_a5 rfl) rfl (fun d hd τ => ?_)
  unfold f_X3_copy
  refine j_aload_n (pc' := 1) rfl rfl rfl ?_
  refine j_aload_n (pc' := 2) rfl rfl rfl ?_
  refine j_gfi (pc' := 5) rfl rfl j_a55 rfl ?_
  refine j_pfi (pc' := 8) rfl rfl j_a5 rfl rfl (fun σ1 => ?_)
  refine j_aload_n (pc' := 9) rfl rfl rfl ?_
  refine j_aload_n (pc' := 10) rfl rfl rfl ?_
  refine j_gfi (pc' := 13) rfl rfl j_a55 rfl ?_
  refine j_pfi (pc' := 16) rfl rfl j_a5 rfl rfl (fun σ2 => ?_)
  refine j_aload_n (pc' := 17) rfl rfl rfl ?_
  refine j_gfr (pc' := 20) (x := 56) rfl rfl j_a55 rfl rfl ?_
  refine j_iconst (pc' := 21) (x := (0 : Int32)) rfl rfl rfl ?_
  refine j_aload_n (pc' := 22) rfl rfl rfl ?_
  refine j_gfr (pc' := 25) (x := 6) rfl rfl j_a5 rfl rfl ?_
  refine j_iconst (pc' := 26) (x := (0 : Int32)) rfl rfl rfl ?_
  refine j_bipush (pc' := 28) (x := (24 : Int32)) rfl rfl rfl ?_
  refine j_cpi (pc' := 31) rfl rfl rfl j_a56 j_a6 (fun σ3 => ?_)
  refine j_aload_n (pc' := 32) rfl rfl rfl ?_
  refine j_gfr (pc' := 35) (x := 57) rfl rfl j_a55 rfl rfl ?_
  refine j_iconst (pc' := 36) (x := (0 : Int32)) rfl rfl rfl ?_
  refine j_aload_n (pc' := 37) rfl rfl rfl ?_
  refine j_gfr (pc' := 40) (x := 7) rfl rfl j_a5 rfl rfl ?_
  refine j_iconst (pc' := 41) (x := (0 : Int32)) rfl rfl rfl ?_
  refine j_bipush (pc' := 43) (x := (24 : Int32)) rfl rfl rfl ?_
  refine j_cpi (pc' := 46) rfl rfl rfl j_a57 j_a7 (fun σ4 => ?_)
  refine j_aload_n (pc' := 47) rfl rfl rfl ?_
  refine j_gfr (pc' := 50) (x := 58) rfl rfl j_a55 rfl rfl ?_
  refine j_iconst (pc' := 51) (x := (0 : Int32)) rfl rfl rfl ?_
  refine j_aload_n (pc' := 52) rfl rfl rfl ?_
  refine j_gfr (pc' := 55) (x := 8) rfl rfl j_a5 rfl rfl ?_
  refine j_iconst (pc' := 56) (x := (0 : Int32)) rfl rfl rfl ?_
  refine j_bipush (pc' := 58) (x := (24 : Int32)) rfl rfl rfl ?_
  refine j_cpi (pc' := 61) rfl rfl rfl j_a58 j_a8 (fun σ5 => ?_)
  exact j_ret rfl rfl rfl (fun _ h => h)

theorem c_X2_copy_1_51 (σ : j_G) : j_K true 1 10 [.ref 1, .ref 51] σ (f_X2_copy 51 1 52 2 53 3 54 4 55 5 56 6 57 7 58 8 σ) j_Rv := by
  refine j_mkK (M := M_cX2_copy) (L := [some (.ref 1), some (.ref 51)]) (m := 0) t_10 rfl (j_rcvO j_a1 rfl) rfl (fun d hd τ => ?_)
  unfold f_X2_copy
  refine j_aload_n (pc' := 1) rfl rfl rfl ?_
  refine j_aload_n (pc' := 2) rfl rfl rfl ?_
  refine j_gfi (pc' := 5) rfl rfl j_a51 rfl ?_
  refine j_pfi (pc' := 8) rfl rfl j_a1 rfl rfl (fun σ1 => ?_)
  refine j_aload_n (pc' := 9) rfl rfl rfl ?_
  refine j_aload_n (pc' := 10) rfl rfl rfl ?_
  refine j_gfi (pc' := 13) rfl rfl j_a51 rfl ?_
  refine j_pfi (pc' := 16) rfl rfl j_a1 rfl rfl (fun σ2 => ?_)
  refine j_aload_n (pc' := 17) rfl rfl rfl ?_
  refine j_aload_n (pc' := 18) rfl rfl rfl ?_
  refine j_gfi (pc' := 21) rfl rfl j_a51 rfl ?_
  refine j_pfi (pc' := 24) rfl rfl j_a1 rfl rfl (fun σ3 => ?_)
  refine j_aload_n (pc' := 25) rfl rfl rfl ?_
  refine j_aload_n (pc' := 26) rfl rfl rfl ?_
  refine j_gfi (pc' := 29) rfl rfl j_a51 rfl ?_
  refine j_pfi (pc' := 32) rfl rfl j_a1 rfl rfl (fun σ4 => ?_)
  refine j_aload_n (pc' := 33) rfl rfl rfl ?_
  refine j_aload_n (pc' := 34) rfl rfl rfl ?_
  refine j_gfi (pc' := 37) rfl rfl j_a51 rfl ?_
  refine j_pfi (pc' := 40) rfl rfl j_a1 rfl rfl (fun σ5 => ?_)
  refine j_aload_n (pc' := 41) rfl rfl rfl ?_
  refine j_aload_n (pc' := 42) rfl rfl rfl ?_
  refine j_gfi (pc' := 45) rfl rfl j_a51 rfl ?_
  refine j_pfi (pc' := 48) rfl rfl j_a1 rfl rfl (fun σ6 => ?_)
  refine j_aload_n (pc' := 49) rfl rfl rfl ?_
  refine j_aload_n (pc' := 50) rfl rfl rfl ?_
  refine j_gfi (pc' := 53) rfl rfl j_a51 rfl ?_
  refine j_pfi (pc' := 56) rfl rfl j_a1 rfl rfl (fun σ7 => ?_)
  refine j_aload_n (pc' := 57) rfl rfl rfl ?_
  refine j_aload_n (pc' := 58) rfl rfl rfl ?_
  refine j_gfi (pc' := 61) rfl rfl j_a51 rfl ?_
  refine j_pfi (pc' := 64) rfl rfl j_a1 rfl rfl (fun σ8 => ?_)
  refine j_aload_n (pc' := 65) rfl rfl rfl ?_
  refine j_aload_n (pc' := 66) rfl rfl rfl ?_
  refine j_gfi (pc' := 69) rfl rfl j_a51 rfl ?_
  refine j_pfi (pc' := 72) rfl rfl j_a1 rfl rfl (fun σ9 => ?_)
  refine j_aload_n (pc' := 73) rfl rfl rfl ?_
  refine j_aload_n (pc' := 74) rfl rfl rfl ?_
  refine j_gfi (pc' := 77) rfl rfl j_a51 rfl ?_
  refine j_pfi (pc' := 80) rfl rfl j_a1 rfl rfl (fun σ10 => ?_)
  refine j_aload_n (pc' := 81) rfl rfl rfl ?_
  refine j_gfr (pc' := 84) (x := 52) rfl rfl j_a51 rfl rfl ?_
  refine j_iconst (pc' := 85) (x := (0 : Int32)) rfl rfl rfl ?_
  refine j_aload_n (pc' := 86) rfl rfl rfl ?_
  refine j_gfr (pc' := 89) (x := 2) rfl rfl j_a1 rfl rfl ?_
  refine j_iconst (pc' := 90) (x := (0 : Int32)) rfl rfl rfl ?_
  refine j_bipush (pc' := 92) (x := (6 : Int32)) rfl rfl rfl ?_
  refine j_cpi (pc' := 95) rfl rfl rfl j_a52 j_a2 (fun σ11 => ?_)
  refine j_aload_n (pc' := 96) rfl rfl rfl ?_
  refine j_gfr (pc' := 99) (x := 53) rfl rfl j_a51 rfl rfl ?_
  refine j_iconst (pc' := 100) (x := (0 : Int32)) rfl rfl rfl ?_
  refine j_aload_n (pc' := 101) rfl rfl rfl ?_
  refine j_gfr (pc' := 104) (x := 3) rfl rfl j_a1 rfl rfl ?_
  refine j_iconst (pc' := 105) (x := (0 : Int32)) rfl rfl rfl ?_
  refine j_bipush (pc' := 107) (x := (6 : Int32)) rfl rfl rfl ?_
  refine j_cpi (pc' := 110) rfl rfl rfl j_a53 j_a3 (fun σ12 => ?_)
  refine j_aload_n (pc' := 111) rfl rfl rfl ?_
  refine j_gfr (pc' := 114) (x := 54) rfl rfl j_a51 rfl rfl ?_
  refine j_iconst (pc' := 115) (x := (0 : Int32)) rfl rfl rfl ?_
  refine j_aload_n (pc' := 116) rfl rfl rfl ?_
  refine j_gfr (pc' := 119) (x := 4) rfl rfl j_a1 rfl rfl ?_
  refine j_iconst (pc' := 120) (x := (0 : Int32)) rfl rfl rfl ?_
  refine j_bipush (pc' := 122) (x := (20 : Int32)) rfl rfl rfl ?_
  refine j_cpi (pc' := 125) rfl rfl rfl j_a54 j_a4 (fun σ13 => ?_)
  refine j_aload_n (pc' := 126) rfl rfl rfl ?_
  refine j_gfr (pc' := 129) (x := 5) rfl rfl j_a1 rfl rfl ?_
  refine j_aload_n (pc' := 130) rfl rfl rfl ?_
  refine j_gfr (pc' := 133) (x := 55) rfl rfl j_a51 rfl rfl ?_
  refine j_callRv (pc' := 136) (ai := 30) (vs := [.ref 5, .ref 55]) (rest := []) rfl rfl (fun _ _ => rfl) (c_X3_copy_5_55  σ13) (j_dd rfl hd) rfl (fun σ14 => ?_)
  exact j_ret rfl rfl rfl (fun _ h => h)

theorem c_X3_copy_5_63 (σ : j_G) : j_K true 0 30 [.ref 5, .ref 63] σ (f_X3_copy 63 5 64 6 65 7 66 8 σ) j_Rv := by
  refine j_mkK (M := M_cX3_copy) (L := [some (.ref 5), some (.ref 63)]) (m := 0) t_30 rfl (j_rcvO j_a5 rfl) rfl (fun d hd τ => ?_)
  unfold f_X3_copy
  refine j_aload_n (pc' := 1) rfl rfl rfl ?_
  refine j_aload_n (pc' := 2) rfl rfl rfl ?_
  refine j_gfi (pc' := 5) rfl rfl j_a63 rfl ?_
  refine j_pfi (pc' := 8) rfl rfl j_a5 rfl rfl (fun σ1 => ?_)
  refine j_aload_n (pc' := 9) rfl rfl rfl ?_
  refine j_aload_n (pc' := 10) rfl rfl rfl ?_
  refine j_gfi (pc' := 13) rfl rfl j_a63 rfl ?_
  refine j_pfi (pc' := 16) rfl rfl j_a5 rfl rfl (fun σ2 => ?_)
  refine j_aload_n (pc' := 17) rfl rfl rfl ?_
  refine j_gfr (pc' := 20) (x := 64) rfl rfl j_a63 rfl rfl ?_
  refine j_iconst (pc' := 21) (x := (0 : Int32)) rfl rfl rfl ?_
  refine j_aload_n (pc' := 22) rfl rfl rfl ?_
  refine j_gfr (pc' := 25) (x := 6) rfl rfl j_a5 rfl rfl ?_
  refine j_iconst (pc' := 26) (x := (0 : Int32)) rfl rfl rfl ?_
  refine j_bipush (pc' := 28) (x := (24 : Int32)) rfl rfl rfl ?_
  refine j_cpi (pc' := 31) rfl rfl rfl j_a64 j_a6 (fun σ3 => ?_)
  refine j_aload_n (pc' := 32) rfl rfl rfl ?_
  refine j_gfr (pc' := 35) (x := 65) rfl rfl j_a63 rfl rfl ?_
  refine j_iconst (pc' := 36) (x := (0 : Int32)) rfl rfl rfl ?_
  refine j_aload_n (pc' := 37) rfl rfl rfl ?_
  refine j_gfr (pc' := 40) (x := 7) rfl rfl j_a5 rfl rfl ?_
  refine j_iconst (pc' := 41) (x := (0 : Int32)) rfl rfl rfl ?_
  refine j_bipush (pc' := 43) (x := (24 : Int32)) rfl rfl rfl ?_
  refine j_cpi (pc' := 46) rfl rfl rfl j_a65 j_a7 (fun σ4 => ?_)
  refine j_aload_n (pc' := 47) rfl rfl rfl ?_
  refine j_gfr (pc' := 50) (x := 66) rfl rfl j_a63 rfl rfl ?_
  refine j_iconst (pc' := 51) (x := (0 : Int32)) rfl rfl rfl ?_
  refine j_aload_n (pc' := 52) rfl rfl rfl ?_
  refine j_gfr (pc' := 55) (x := 8) rfl rfl j_a5 rfl rfl ?_
  refine j_iconst (pc' := 56) (x := (0 : Int32)) rfl rfl rfl ?_
  refine j_bipush (pc' := 58) (x := (24 : Int32)) rfl rfl rfl ?_
  refine j_cpi (pc' := 61) rfl rfl rfl j_a66 j_a8 (fun σ5 => ?_)
  exact j_ret rfl rfl rfl (fun _ h => h)

theorem c_X2_copy_1_59 (σ : j_G) : j_K true 1 10 [.ref 1, .ref 59] σ (f_X2_copy 59 1 60 2 61 3 62 4 63 5 64 6 65 7 66 8 σ) j_Rv := by
  refine j_mkK (M := M_cX2_copy) (L := [some (.ref 1), some (.ref 59)]) (m := 0) t_10 rfl (j_rcvO j_a1 rfl) rfl (fun d hd τ => ?_)
  unfold f_X2_copy
  refine j_aload_n (pc' := 1) rfl rfl rfl ?_
  refine j_aload_n (pc' := 2) rfl rfl rfl ?_
  refine j_gfi (pc' := 5) rfl rfl j_a59 rfl ?_
  refine j_pfi (pc' := 8) rfl rfl j_a1 rfl rfl (fun σ1 => ?_)
  refine j_aload_n (pc' := 9) rfl rfl rfl ?_
  refine j_aload_n (pc' := 10) rfl rfl rfl ?_
  refine j_gfi (pc' := 13) rfl rfl j_a59 rfl ?_
  refine j_pfi (pc' := 16) rfl rfl j_a1 rfl rfl (fun σ2 => ?_)
  refine j_aload_n (pc' := 17) rfl rfl rfl ?_
  refine j_aload_n (pc' := 18) rfl rfl rfl ?_
  refine j_gfi (pc' := 21) rfl rfl j_a59 rfl ?_
  refine j_pfi (pc' := 24) rfl rfl j_a1 rfl rfl (fun σ3 => ?_)
  refine j_aload_n (pc' := 25) rfl rfl rfl ?_
  refine j_aload_n (pc' := 26) rfl rfl rfl ?_
  refine j_gfi (pc' := 29) rfl rfl j_a59 rfl ?_
  refine j_pfi (pc' := 32) rfl rfl j_a1 rfl rfl (fun σ4 => ?_)
  refine j_aload_n (pc' := 33) rfl rfl rfl ?_
  refine j_aload_n (pc' := 34) rfl rfl rfl ?_
  refine j_gfi (pc' := 37) rfl rfl j_a59 rfl ?_
  refine j_pfi (pc' := 40) rfl rfl j_a1 rfl rfl (fun σ5 => ?_)
  refine j_aload_n (pc' := 41) rfl rfl rfl ?_
  refine j_aload_n (pc' := 42) rfl rfl rfl ?_
  refine j_gfi (pc' := 45) rfl rfl j_a59 rfl ?_
  refine j_pfi (pc' := 48) rfl rfl j_a1 rfl rfl (fun σ6 => ?_)
  refine j_aload_n (pc' := 49) rfl rfl rfl ?_
  refine j_aload_n (pc' := 50) rfl rfl rfl ?_
  refine j_gfi (pc' := 53) rfl rfl j_a59 rfl ?_
  refine j_pfi (pc' := 56) rfl rfl j_a1 rfl rfl (fun σ7 => ?_)
  refine j_aload_n (pc' := 57) rfl rfl rfl ?_
  refine j_aload_n (pc' := 58) rfl rfl rfl ?_
  refine j_gfi (pc' := 61) rfl rfl j_a59 rfl ?_
  refine j_pfi (pc' := 64) rfl rfl j_a1 rfl rfl (fun σ8 => ?_)
  refine j_aload_n (pc' := 65) rfl rfl rfl ?_
  refine j_aload_n (pc' := 66) rfl rfl rfl ?_
  refine j_gfi (pc' := 69) rfl rfl j_a59 rfl ?_
  refine j_pfi (pc' := 72) rfl rfl j_a1 rfl rfl (fun σ9 => ?_)
  refine j_aload_n (pc' := 73) rfl rfl rfl ?_
  refine j_aload_n (pc' := 74) rfl rfl rfl ?_
  refine j_gfi (pc' := 77) rfl rfl j_a59 rfl ?_
  refine j_pfi (pc' := 80) rfl rfl j_a1 rfl rfl (fun σ10 => ?_)
  refine j_aload_n (pc' := 81) rfl rfl rfl ?_
  refine j_gfr (pc' := 84) (x := 60) rfl rfl j_a59 rfl rfl ?_
  refine j_iconst (pc' := 85) (x := (0 : Int32)) rfl rfl rfl ?_
  refine j_aload_n (pc' := 86) rfl rfl rfl ?_
  refine j_gfr (pc' := 89) (x := 2) rfl rfl j_a1 rfl rfl ?_
  refine j_iconst (pc' := 90) (x := (0 : Int32)) rfl rfl rfl ?_
  refine j_bipush (pc' := 92) (x := (6 : Int32)) rfl rfl rfl ?_
  refine j_cpi (pc' := 95) rfl rfl rfl j_a60 j_a2 (fun σ11 => ?_)
  refine j_aload_n (pc' := 96) rfl rfl rfl ?_
  refine j_gfr (pc' := 99) (x := 61) rfl rfl j_a59 rfl rfl ?_
  refine j_iconst (pc' := 100) (x := (0 : Int32)) rfl rfl rfl ?_
  refine j_aload_n (pc' := 101) rfl rfl rfl ?_
  refine j_gfr (pc' := 104) (x := 3) rfl rfl j_a1 rfl rfl ?_
  refine j_iconst (pc' := 105) (x := (0 : Int32)) rfl rfl rfl ?_
  refine j_bipush (pc' := 107) (x := (6 : Int32)) rfl rfl rfl ?_
  refine j_cpi (pc' := 110) rfl rfl rfl j_a61 j_a3 (fun σ12 => ?_)
  refine j_aload_n (pc' := 111) rfl rfl rfl ?_
  refine j_gfr (pc' := 114) (x := 62) rfl rfl j_a59 rfl rfl ?_
  refine j_iconst (pc' := 115) (x := (0 : Int32)) rfl rfl rfl ?_
  refine j_aload_n (pc' := 116) rfl rfl rfl ?_
  refine j_gfr (pc' := 119) (x := 4) rfl rfl j_a1 rfl rfl ?_
  refine j_iconst (pc' := 120) (x := (0 : Int32)) rfl rfl rfl ?_
  refine j_bipush (pc' := 122) (x := (20 : Int32)) rfl rfl rfl ?_
  refine j_cpi (pc' := 125) rfl rfl rfl j_a62 j_a4 (fun σ13 => ?_)
  refine j_aload_n (pc' := 126) rfl rfl rfl ?_
  refine j_gfr (pc' := 129) (x := 5) rfl rfl j_a1 rfl rfl ?_
  refine j_aload_n (pc' := 130) rfl rfl rfl ?_
  refine j_gfr (pc' := 133) (x := 63) rfl rfl j_a59 rfl rfl ?_
  refine j_callRv (pc' := 136) (ai := 30) (vs := [.ref 5, .ref 63]) (rest := []) rfl rfl (fun _ _ => rfl) (c_X3_copy_5_63  σ13) (j_dd rfl hd) rfl (fun σ14 => ?_)
  exact j_ret rfl rfl rfl (fun _ h => h)

noncomputable def f_X11_back (l1 : Int32) (σ : j_G) : Option (Int32 × j_G) :=
  if (l1 < 0) ∨ (¬ l1 < (3 : Int32)) then (some ((-2 : Int32), σ)) else (if l1 = 0 then (if (σ.1 43 0) = 0 then (some ((-6 : Int32), σ)) else (j_b1 (f_X2_copy 43 1 44 2 45 3 46 4 47 5 48 6 49 7 50 8 σ) fun σ1 =>
  some ((0 : Int32), σ1))) else
  if l1 = 1 then (if (σ.1 51 0) = 0 then (some ((-6 : Int32), σ)) else (j_b1 (f_X2_copy 51 1 52 2 53 3 54 4 55 5 56 6 57 7 58 8 σ) fun σ2 =>
  some ((0 : Int32), σ2))) else
  if l1 = 2 then (if (σ.1 59 0) = 0 then (some ((-6 : Int32), σ)) else (j_b1 (f_X2_copy 59 1 60 2 61 3 62 4 63 5 64 6 65 7 66 8 σ) fun σ3 =>
  some ((0 : Int32), σ3))) else
  none)
theorem c_X11_back (l1 : Int32) (σ : j_G) : j_K true 2 178 [.ref 0, .int l1] σ (f_X11_back l1 σ) j_Ri := by
  refine j_mkK (M := M_cX11_back) (L := [some (.ref 0), some (.int l1)]) (m := 0) t_178 rfl (j_rcvO j_a0 rfl) rfl (fun d hd τ => ?_)
  unfold f_X11_back
  refine j_iload_n (pc' := 1) rfl rfl rfl ?_
  refine j_two (pT := 9) (pF := 12) (L1 := [some (.ref 0), some (.int l1)]) (st1 := []) (fun o kT kF => ?_) (fun h10 => ?_) (fun h10 => ?_)
  · refine j_iflt (t := 9) (pc' := 4) rfl rfl rfl (fun h11 => ?_) (fun h11 => ?_)
    · exact kT (Or.inl h11)
    · refine j_iload_n (pc' := 5) rfl rfl rfl ?_
      refine j_iconst (pc' := 6) (x := (3 : Int32)) rfl rfl rfl ?_
      refine j_iclt (t := 12) (pc' := 9) rfl rfl rfl (fun h12 => ?_) (fun h12 => ?_)
      · exact kF (fun z => z.elim h11 (fun z => z h12))
      · exact kT (Or.inr (h12))
  · refine j_bipush (pc' := 11) (x := (-2 : Int32)) rfl rfl rfl ?_
    exact j_ret rfl rfl rfl (fun _ h => h)
  · refine j_aload_n (pc' := 13) rfl rfl rfl ?_
    refine j_gfr (pc' := 16) (x := 9) rfl rfl j_a0 rfl rfl ?_
    refine j_iload_n (pc' := 17) rfl rfl rfl ?_
    refine j_spl (k := (0 : Int32)) (fun h1 => ?_) (fun h1 => ?_)
    · subst h1
      refine j_aald (pc' := 18) (r := 43) rfl rfl j_a9 (by decide) rfl ?_
      refine j_gfi (pc' := 21) rfl rfl j_a43 rfl ?_
      refine j_two (pT := 24) (pF := 27) (L1 := [some (.ref 0), some (.int (0 : Int32))]) (st1 := []) (fun o kT kF => ?_) (fun h2 => ?_) (fun h2 => ?_)
      · refine j_ifne (t := 27) (pc' := 24) rfl rfl rfl (fun h3 => ?_) (fun h3 => ?_)
        · exact kF h3
        · exact kT h3
      · refine j_bipush (pc' := 26) (x := (-6 : Int32)) rfl rfl rfl ?_
        exact j_ret rfl rfl rfl (fun _ h => h)
      · refine j_aload_n (pc' := 28) rfl rfl rfl ?_
        refine j_gfr (pc' := 31) (x := 1) rfl rfl j_a0 rfl rfl ?_
        refine j_aload_n (pc' := 32) rfl rfl rfl ?_
        refine j_gfr (pc' := 35) (x := 9) rfl rfl j_a0 rfl rfl ?_
        refine j_iload_n (pc' := 36) rfl rfl rfl ?_
        refine j_aald (pc' := 37) (r := 43) rfl rfl j_a9 (by decide) rfl ?_
        refine j_callRv (pc' := 40) (ai := 10) (vs := [.ref 1, .ref 43]) (rest := []) rfl rfl (fun _ _ => rfl) (c_X2_copy_1_43  σ) (j_dd rfl hd) rfl (fun σ1 => ?_)
        refine j_iconst (pc' := 41) (x := (0 : Int32)) rfl rfl rfl ?_
        exact j_ret rfl rfl rfl (fun _ h => h)
    refine j_spl (k := (1 : Int32)) (fun h4 => ?_) (fun h4 => ?_)
    · subst h4
      refine j_aald (pc' := 18) (r := 51) rfl rfl j_a9 (by decide) rfl ?_
      refine j_gfi (pc' := 21) rfl rfl j_a51 rfl ?_
      refine j_two (pT := 24) (pF := 27) (L1 := [some (.ref 0), some (.int (1 : Int32))]) (st1 := []) (fun o kT kF => ?_) (fun h5 => ?_) (fun h5 => ?_)
      · refine j_ifne (t := 27) (pc' := 24) rfl rfl rfl (fun h6 => ?_) (fun h6 => ?_)
        · exact kF h6
        · exact kT h6
      · refine j_bipush (pc' := 26) (x := (-6 : Int32)) rfl rfl rfl ?_
        exact j_ret rfl rfl rfl (fun _ h => h)
      · refine j_aload_n (pc' := 28) rfl rfl rfl ?_
        refine j_gfr (pc' := 31) (x := 1) rfl rfl j_a0 rfl rfl ?_
        refine j_aload_n (pc' := 32) rfl rfl rfl ?_
        refine j_gfr (pc' := 35) (x := 9) rfl rfl j_a0 rfl rfl ?_
        refine j_iload_n (pc' := 36) rfl rfl rfl ?_
        refine j_aald (pc' := 37) (r := 51) rfl rfl j_a9 (by decide) rfl ?_
        refine j_callRv (pc' := 40) (ai := 10) (vs := [.ref 1, .ref 51]) (rest := []) rfl rfl (fun _ _ => rfl) (c_X2_copy_1_51  σ) (j_dd rfl hd) rfl (fun σ2 => ?_)
        refine j_iconst (pc' := 41) (x := (0 : Int32)) rfl rfl rfl ?_
        exact j_ret rfl rfl rfl (fun _ h => h)
    refine j_spl (k := (2 : Int32)) (fun h7 => ?_) (fun h7 => ?_)
    · subst h7
      refine j_aald (pc' := 18) (r := 59) rfl rfl j_a9 (by decide) rfl ?_
      refine j_gfi (pc' := 21) rfl rfl j_a59 rfl ?_
      refine j_two (pT := 24) (pF := 27) (L1 := [some (.ref 0), some (.int (2 : Int32))]) (st1 := []) (fun o kT kF => ?_) (fun h8 => ?_) (fun h8 => ?_)
      · refine j_ifne (t := 27) (pc' := 24) rfl rfl rfl (fun h9 => ?_) (fun h9 => ?_)
        · exact kF h9
        · exact kT h9
      · refine j_bipush (pc' := 26) (x := (-6 : Int32)) rfl rfl rfl ?_
        exact j_ret rfl rfl rfl (fun _ h => h)
      · refine j_aload_n (pc' := 28) rfl rfl rfl ?_
        refine j_gfr (pc' := 31) (x := 1) rfl rfl j_a0 rfl rfl ?_
        refine j_aload_n (pc' := 32) rfl rfl rfl ?_
        refine j_gfr (pc' := 35) (x := 9) rfl rfl j_a0 rfl rfl ?_
        refine j_iload_n (pc' := 36) rfl rfl rfl ?_
        refine j_aald (pc' := 37) (r := 59) rfl rfl j_a9 (by decide) rfl ?_
        refine j_callRv (pc' := 40) (ai := 10) (vs := [.ref 1, .ref 59]) (rest := []) rfl rfl (fun _ _ => rfl) (c_X2_copy_1_59  σ) (j_dd rfl hd) rfl (fun σ3 => ?_)
        refine j_iconst (pc' := 41) (x := (0 : Int32)) rfl rfl rfl ?_
        exact j_ret rfl rfl rfl (fun _ h => h)
    exact j_none

noncomputable def p_X12_back_29 (l1 : Int32) : Nat → Int32 → j_G → Option j_G
  | 0, _, _ => none
  | n + 1, l2, σ =>
    if l2 < (116 : Int32) then (j_ix (((116 : Int32) * l1) + l2) 348 (
    j_ix l2 116 (
    j_lt (j_si σ 76 (l2).toNatClampNeg (σ.1 77 ((((116 : Int32) * l1) + l2)).toNatClampNeg)) fun σ1 =>
    p_X12_back_29 l1 n (l2 + (1 : Int32)) σ1))) else (some σ)

noncomputable def f_X12_back (l1 : Int32) (σ : j_G) : Option (Int32 × j_G) :=
  if (f_X12_in (l1).toInt64 (0 : Int64) (2 : Int64)) = 0 then (some ((-2 : Int32), σ)) else (j_ix l1 3 (
  if (σ.1 78 (l1).toNatClampNeg) = 0 then (some ((-6 : Int32), σ)) else (j_b1 (p_X12_back_29 l1 j_F (0 : Int32) σ) fun σ1 =>
  some ((0 : Int32), σ1))))
theorem l_X12_back_29 {d : Nat} (hd : 1 ≤ d) (τ : j_G) (l1 : Int32) : ∀ (n : Nat) (l2 : Int32) (σ : j_G), j_J false τ M_cX12_back d 29 [some (.ref 75), some (.int l1), some (.int l2)] [] σ (p_X12_back_29 l1 n l2 σ) (fun r Q => j_Tr false τ M_cX12_back d 58 [none, none, none] [] r Q) := by
  intro n
  induction n with
  | zero => intro l2 σ; exact j_none
  | succ n ih =>
    intro l2 σ
    unfold p_X12_back_29
    refine j_iload_n (pc' := 30) rfl rfl rfl ?_
    refine j_bipush (pc' := 32) (x := (116 : Int32)) rfl rfl rfl ?_
    refine j_two (pT := 35) (pF := 58) (L1 := [some (.ref 75), some (.int l1), some (.int l2)]) (st1 := []) (fun o kT kF => ?_) (fun h1 => ?_) (fun h1 => ?_)
    · refine j_icge (t := 58) (pc' := 35) rfl rfl rfl (fun h2 => ?_) (fun h2 => ?_)
      · exact kF h2
      · exact kT h2
    · refine j_aload_n (pc' := 36) rfl rfl rfl ?_
      refine j_gfr (pc' := 39) (x := 76) rfl rfl j_a75 rfl rfl ?_
      refine j_iload_n (pc' := 40) rfl rfl rfl ?_
      refine j_aload_n (pc' := 41) rfl rfl rfl ?_
      refine j_gfr (pc' := 44) (x := 77) rfl rfl j_a75 rfl rfl ?_
      refine j_bipush (pc' := 46) (x := (116 : Int32)) rfl rfl rfl ?_
      refine j_iload_n (pc' := 47) rfl rfl rfl ?_
      refine j_imul (pc' := 48) rfl rfl ?_
      refine j_iload_n (pc' := 49) rfl rfl rfl ?_
      refine j_iadd (pc' := 50) rfl rfl ?_
      refine j_iald (pc' := 51) rfl rfl j_a77 ?_
      refine j_iast (pc' := 52) rfl rfl j_a76 (fun σ1 => ?_)
      refine j_iincx (pc' := 55) (y := (1 : Int32)) (L' := [some (.ref 75), some (.int l1), some (.int (l2 + (1 : Int32)))]) rfl rfl rfl rfl rfl ?_
      refine j_goto (t := 29) rfl rfl ?_
      exact ih (l2 + (1 : Int32)) σ1
    · refine j_wk [false, false, false] (L' := [none, none, none]) rfl ?_
      exact j_end (fun _ h => h)

theorem c_X12_back (l1 : Int32) (σ : j_G) : j_K false 1 198 [.ref 75, .int l1] σ (f_X12_back l1 σ) j_Ri := by
  refine j_mkK (M := M_cX12_back) (L := [some (.ref 75), some (.int l1), none]) (m := 1) t_198 rfl (j_rcvO j_a75 rfl) rfl (fun d hd τ => ?_)
  unfold f_X12_back
  refine j_iload_n (pc' := 1) rfl rfl rfl ?_
  refine j_i2l (pc' := 2) rfl rfl ?_
  refine j_lconst (pc' := 3) (x := (0 : Int64)) rfl rfl rfl ?_
  refine j_ldc2_w (pc' := 6) (x := (2 : Int64)) rfl rfl rfl ?_
  refine j_callTi (pc' := 9) (ai := 196) (vs := [.long (l1).toInt64, .long (0 : Int64), .long (2 : Int64)]) (rest := []) rfl rfl (fun _ _ => rfl) (c_X12_in (l1).toInt64 (0 : Int64) (2 : Int64) σ) (j_dd rfl hd) rfl ?_
  refine j_two (pT := 12) (pF := 15) (L1 := [some (.ref 75), some (.int l1), none]) (st1 := []) (fun o kT kF => ?_) (fun h3 => ?_) (fun h3 => ?_)
  · refine j_ifne (t := 15) (pc' := 12) rfl rfl rfl (fun h4 => ?_) (fun h4 => ?_)
    · exact kF h4
    · exact kT h4
  · refine j_bipush (pc' := 14) (x := (-2 : Int32)) rfl rfl rfl ?_
    exact j_ret rfl rfl rfl (fun _ h => h)
  · refine j_aload_n (pc' := 16) rfl rfl rfl ?_
    refine j_gfr (pc' := 19) (x := 78) rfl rfl j_a75 rfl rfl ?_
    refine j_iload_n (pc' := 20) rfl rfl rfl ?_
    refine j_baldz (pc' := 21) rfl rfl j_a78 ?_
    refine j_two (pT := 24) (pF := 27) (L1 := [some (.ref 75), some (.int l1), none]) (st1 := []) (fun o kT kF => ?_) (fun h1 => ?_) (fun h1 => ?_)
    · refine j_ifne (t := 27) (pc' := 24) rfl rfl rfl (fun h2 => ?_) (fun h2 => ?_)
      · exact kF h2
      · exact kT h2
    · refine j_bipush (pc' := 26) (x := (-6 : Int32)) rfl rfl rfl ?_
      exact j_ret rfl rfl rfl (fun _ h => h)
    · refine j_iconst (pc' := 28) (x := (0 : Int32)) rfl rfl rfl ?_
      refine j_istore_n (pc' := 29) (L' := [some (.ref 75), some (.int l1), some (.int (0 : Int32))]) rfl rfl rfl ?_
      refine j_q1 (l_X12_back_29 hd τ l1 j_F (0 : Int32) σ) (fun σ1 => ?_)
      show j_J false τ M_cX12_back d 58 [none, none, none] [] σ1 _ _
      refine j_iconst (pc' := 59) (x := (0 : Int32)) rfl rfl rfl ?_
      exact j_ret rfl rfl rfl (fun _ h => h)

noncomputable def p_X8_make_23 (a0_2 : Nat) : Nat → Int32 → j_G → Option j_G
  | 0, _, _ => none
  | n + 1, l3, σ =>
    if l3 < (60 : Int32) then (j_ix l3 60 (
    j_lt (j_sl σ a0_2 (l3).toNatClampNeg (0 : Int64)) fun σ1 =>
    p_X8_make_23 a0_2 n (l3 + (1 : Int32)) σ1)) else (some σ)

noncomputable def f_X8_make (a0 : Nat) (a0_2 : Nat) (l1 : Int32) (l2 : Int32) (σ : j_G) : Option j_G :=
  if (l2 < 0) ∨ ((60 : Int32) < l2) then (some σ) else (j_lt (j_si σ a0 1 l1) fun σ1 =>
  j_lt (j_si σ1 a0 0 l2) fun σ2 =>
  j_b1 (p_X8_make_23 a0_2 j_F (0 : Int32) σ2) fun σ3 =>
  some σ3)
theorem l_X8_make_23_67 {d : Nat} (hd : 0 ≤ d) (τ : j_G) : ∀ (n : Nat) (l3 : Int32) (σ : j_G), j_J true τ M_cX8_make d 23 [some (.ref 67), none, none, some (.int l3)] [] σ (p_X8_make_23 68 n l3 σ) (fun r Q => j_Tr true τ M_cX8_make d 42 [none, none, none, none] [] r Q) := by
  intro n
  induction n with
  | zero => intro l3 σ; exact j_none
  | succ n ih =>
    intro l3 σ
    unfold p_X8_make_23
    refine j_iload_n (pc' := 24) rfl rfl rfl ?_
    refine j_bipush (pc' := 26) (x := (60 : Int32)) rfl rfl rfl ?_
    refine j_two (pT := 29) (pF := 42) (L1 := [some (.ref 67), none, none, some (.int l3)]) (st1 := []) (fun o kT kF => ?_) (fun h1 => ?_) (fun h1 => ?_)
    · refine j_icge (t := 42) (pc' := 29) rfl rfl rfl (fun h2 => ?_) (fun h2 => ?_)
      · exact kF h2
      · exact kT h2
    · refine j_aload_n (pc' := 30) rfl rfl rfl ?_
      refine j_gfr (pc' := 33) (x := 68) rfl rfl j_a67 rfl rfl ?_
      refine j_iload_n (pc' := 34) rfl rfl rfl ?_
      refine j_lconst (pc' := 35) (x := (0 : Int64)) rfl rfl rfl ?_
      refine j_last (pc' := 36) rfl rfl j_a68 (fun σ1 => ?_)
      refine j_iincx (pc' := 39) (y := (1 : Int32)) (L' := [some (.ref 67), none, none, some (.int (l3 + (1 : Int32)))]) rfl rfl rfl rfl rfl ?_
      refine j_goto (t := 23) rfl rfl ?_
      exact ih (l3 + (1 : Int32)) σ1
    · refine j_wk [false, true, true, false] (L' := [none, none, none, none]) rfl ?_
      exact j_end (fun _ h => h)

theorem c_X8_make_67 (l1 : Int32) (l2 : Int32) (σ : j_G) : j_K true 0 92 [.ref 67, .int l1, .int l2] σ (f_X8_make 67 68 l1 l2 σ) j_Rv := by
  refine j_mkK (M := M_cX8_make) (L := [some (.ref 67), some (.int l1), some (.int l2), none]) (m := 1) t_92 rfl (j_rcvO j_a67 rfl) rfl (fun d hd τ => ?_)
  unfold f_X8_make
  refine j_iload_n (pc' := 1) rfl rfl rfl ?_
  refine j_two (pT := 10) (pF := 11) (L1 := [some (.ref 67), some (.int l1), some (.int l2), none]) (st1 := []) (fun o kT kF => ?_) (fun h1 => ?_) (fun h1 => ?_)
  · refine j_iflt (t := 10) (pc' := 4) rfl rfl rfl (fun h2 => ?_) (fun h2 => ?_)
    · exact kT (Or.inl h2)
    · refine j_iload_n (pc' := 5) rfl rfl rfl ?_
      refine j_bipush (pc' := 7) (x := (60 : Int32)) rfl rfl rfl ?_
      refine j_icle (t := 11) (pc' := 10) rfl rfl rfl (fun h3 => ?_) (fun h3 => ?_)
      · exact kF (fun z => z.elim h2 (h3))
      · exact kT (Or.inr (h3))
  · exact j_ret rfl rfl rfl (fun _ h => h)
  · refine j_aload_n (pc' := 12) rfl rfl rfl ?_
    refine j_iload_n (pc' := 13) rfl rfl rfl ?_
    refine j_pfi (pc' := 16) rfl rfl j_a67 rfl rfl (fun σ1 => ?_)
    refine j_aload_n (pc' := 17) rfl rfl rfl ?_
    refine j_iload_n (pc' := 18) rfl rfl rfl ?_
    refine j_pfi (pc' := 21) rfl rfl j_a67 rfl rfl (fun σ2 => ?_)
    refine j_iconst (pc' := 22) (x := (0 : Int32)) rfl rfl rfl ?_
    refine j_istore_n (pc' := 23) (L' := [some (.ref 67), some (.int l1), some (.int l2), some (.int (0 : Int32))]) rfl rfl rfl ?_
    refine j_wk [true, false, false, true] (L' := [some (.ref 67), none, none, some (.int (0 : Int32))]) rfl ?_
    refine j_q1 (l_X8_make_23_67 hd τ j_F (0 : Int32) σ2) (fun σ3 => ?_)
    show j_J true τ M_cX8_make d 42 [none, none, none, none] [] σ3 _ _
    exact j_ret rfl rfl rfl (fun _ h => h)

theorem l_X8_make_23_69 {d : Nat} (hd : 0 ≤ d) (τ : j_G) : ∀ (n : Nat) (l3 : Int32) (σ : j_G), j_J true τ M_cX8_make d 23 [some (.ref 69), none, none, some (.int l3)] [] σ (p_X8_make_23 70 n l3 σ) (fun r Q => j_Tr true τ M_cX8_make d 42 [none, none, none, none] [] r Q) := by
  intro n
  induction n with
  | zero => intro l3 σ; exact j_none
  | succ n ih =>
    intro l3 σ
    unfold p_X8_make_23
    refine j_iload_n (pc' := 24) rfl rfl rfl ?_
    refine j_bipush (pc' := 26) (x := (60 : Int32)) rfl rfl rfl ?_
    refine j_two (pT := 29) (pF := 42) (L1 := [some (.ref 69), none, none, some (.int l3)]) (st1 := []) (fun o kT kF => ?_) (fun h1 => ?_) (fun h1 => ?_)
    · refine j_icge (t := 42) (pc' := 29) rfl rfl rfl (fun h2 => ?_) (fun h2 => ?_)
      · exact kF h2
      · exact kT h2
    · refine j_aload_n (pc' := 30) rfl rfl rfl ?_
      refine j_gfr (pc' := 33) (x := 70) rfl rfl j_a69 rfl rfl ?_
      refine j_iload_n (pc' := 34) rfl rfl rfl ?_
      refine j_lconst (pc' := 35) (x := (0 : Int64)) rfl rfl rfl ?_
      refine j_last (pc' := 36) rfl rfl j_a70 (fun σ1 => ?_)
      refine j_iincx (pc' := 39) (y := (1 : Int32)) (L' := [some (.ref 69), none, none, some (.int (l3 + (1 : Int32)))]) rfl rfl rfl rfl rfl ?_
      refine j_goto (t := 23) rfl rfl ?_
      exact ih (l3 + (1 : Int32)) σ1
    · refine j_wk [false, true, true, false] (L' := [none, none, none, none]) rfl ?_
      exact j_end (fun _ h => h)

theorem c_X8_make_69 (l1 : Int32) (l2 : Int32) (σ : j_G) : j_K true 0 92 [.ref 69, .int l1, .int l2] σ (f_X8_make 69 70 l1 l2 σ) j_Rv := by
  refine j_mkK (M := M_cX8_make) (L := [some (.ref 69), some (.int l1), some (.int l2), none]) (m := 1) t_92 rfl (j_rcvO j_a69 rfl) rfl (fun d hd τ => ?_)
  unfold f_X8_make
  refine j_iload_n (pc' := 1) rfl rfl rfl ?_
  refine j_two (pT := 10) (pF := 11) (L1 := [some (.ref 69), some (.int l1), some (.int l2), none]) (st1 := []) (fun o kT kF => ?_) (fun h1 => ?_) (fun h1 => ?_)
  · refine j_iflt (t := 10) (pc' := 4) rfl rfl rfl (fun h2 => ?_) (fun h2 => ?_)
    · exact kT (Or.inl h2)
    · refine j_iload_n (pc' := 5) rfl rfl rfl ?_
      refine j_bipush (pc' := 7) (x := (60 : Int32)) rfl rfl rfl ?_
      refine j_icle (t := 11) (pc' := 10) rfl rfl rfl (fun h3 => ?_) (fun h3 => ?_)
      · exact kF (fun z => z.elim h2 (h3))
      · exact kT (Or.inr (h3))
  · exact j_ret rfl rfl rfl (fun _ h => h)
  · refine j_aload_n (pc' := 12) rfl rfl rfl ?_
    refine j_iload_n (pc' := 13) rfl rfl rfl ?_
    refine j_pfi (pc' := 16) rfl rfl j_a69 rfl rfl (fun σ1 => ?_)
    refine j_aload_n (pc' := 17) rfl rfl rfl ?_
    refine j_iload_n (pc' := 18) rfl rfl rfl ?_
    refine j_pfi (pc' := 21) rfl rfl j_a69 rfl rfl (fun σ2 => ?_)
    refine j_iconst (pc' := 22) (x := (0 : Int32)) rfl rfl rfl ?_
    refine j_istore_n (pc' := 23) (L' := [some (.ref 69), some (.int l1), some (.int l2), some (.int (0 : Int32))]) rfl rfl rfl ?_
    refine j_wk [true, false, false, true] (L' := [some (.ref 69), none, none, some (.int (0 : Int32))]) rfl ?_
    refine j_q1 (l_X8_make_23_69 hd τ j_F (0 : Int32) σ2) (fun σ3 => ?_)
    show j_J true τ M_cX8_make d 42 [none, none, none, none] [] σ3 _ _
    exact j_ret rfl rfl rfl (fun _ h => h)

theorem l_X8_make_23_71 {d : Nat} (hd : 0 ≤ d) (τ : j_G) : ∀ (n : Nat) (l3 : Int32) (σ : j_G), j_J true τ M_cX8_make d 23 [some (.ref 71), none, none, some (.int l3)] [] σ (p_X8_make_23 72 n l3 σ) (fun r Q => j_Tr true τ M_cX8_make d 42 [none, none, none, none] [] r Q) := by
  intro n
  induction n with
  | zero => intro l3 σ; exact j_none
  | succ n ih =>
    intro l3 σ
    unfold p_X8_make_23
    refine j_iload_n (pc' := 24) rfl rfl rfl ?_
    refine j_bipush (pc' := 26) (x := (60 : Int32)) rfl rfl rfl ?_
    refine j_two (pT := 29) (pF := 42) (L1 := [some (.ref 71), none, none, some (.int l3)]) (st1 := []) (fun o kT kF => ?_) (fun h1 => ?_) (fun h1 => ?_)
    · refine j_icge (t := 42) (pc' := 29) rfl rfl rfl (fun h2 => ?_) (fun h2 => ?_)
      · exact kF h2
      · exact kT h2
    · refine j_aload_n (pc' := 30) rfl rfl rfl ?_
      refine j_gfr (pc' := 33) (x := 72) rfl rfl j_a71 rfl rfl ?_
      refine j_iload_n (pc' := 34) rfl rfl rfl ?_
      refine j_lconst (pc' := 35) (x := (0 : Int64)) rfl rfl rfl ?_
      refine j_last (pc' := 36) rfl rfl j_a72 (fun σ1 => ?_)
      refine j_iincx (pc' := 39) (y := (1 : Int32)) (L' := [some (.ref 71), none, none, some (.int (l3 + (1 : Int32)))]) rfl rfl rfl rfl rfl ?_
      refine j_goto (t := 23) rfl rfl ?_
      exact ih (l3 + (1 : Int32)) σ1
    · refine j_wk [false, true, true, false] (L' := [none, none, none, none]) rfl ?_
      exact j_end (fun _ h => h)

theorem c_X8_make_71 (l1 : Int32) (l2 : Int32) (σ : j_G) : j_K true 0 92 [.ref 71, .int l1, .int l2] σ (f_X8_make 71 72 l1 l2 σ) j_Rv := by
  refine j_mkK (M := M_cX8_make) (L := [some (.ref 71), some (.int l1), some (.int l2), none]) (m := 1) t_92 rfl (j_rcvO j_a71 rfl) rfl (fun d hd τ => ?_)
  unfold f_X8_make
  refine j_iload_n (pc' := 1) rfl rfl rfl ?_
  refine j_two (pT := 10) (pF := 11) (L1 := [some (.ref 71), some (.int l1), some (.int l2), none]) (st1 := []) (fun o kT kF => ?_) (fun h1 => ?_) (fun h1 => ?_)
  · refine j_iflt (t := 10) (pc' := 4) rfl rfl rfl (fun h2 => ?_) (fun h2 => ?_)
    · exact kT (Or.inl h2)
    · refine j_iload_n (pc' := 5) rfl rfl rfl ?_
      refine j_bipush (pc' := 7) (x := (60 : Int32)) rfl rfl rfl ?_
      refine j_icle (t := 11) (pc' := 10) rfl rfl rfl (fun h3 => ?_) (fun h3 => ?_)
      · exact kF (fun z => z.elim h2 (h3))
      · exact kT (Or.inr (h3))
  · exact j_ret rfl rfl rfl (fun _ h => h)
  · refine j_aload_n (pc' := 12) rfl rfl rfl ?_
    refine j_iload_n (pc' := 13) rfl rfl rfl ?_
    refine j_pfi (pc' := 16) rfl rfl j_a71 rfl rfl (fun σ1 => ?_)
    refine j_aload_n (pc' := 17) rfl rfl rfl ?_
    refine j_iload_n (pc' := 18) rfl rfl rfl ?_
    refine j_pfi (pc' := 21) rfl rfl j_a71 rfl rfl (fun σ2 => ?_)
    refine j_iconst (pc' := 22) (x := (0 : Int32)) rfl rfl rfl ?_
    refine j_istore_n (pc' := 23) (L' := [some (.ref 71), some (.int l1), some (.int l2), some (.int (0 : Int32))]) rfl rfl rfl ?_
    refine j_wk [true, false, false, true] (L' := [some (.ref 71), none, none, some (.int (0 : Int32))]) rfl ?_
    refine j_q1 (l_X8_make_23_71 hd τ j_F (0 : Int32) σ2) (fun σ3 => ?_)
    show j_J true τ M_cX8_make d 42 [none, none, none, none] [] σ3 _ _
    exact j_ret rfl rfl rfl (fun _ h => h)

theorem l_X8_make_23_73 {d : Nat} (hd : 0 ≤ d) (τ : j_G) : ∀ (n : Nat) (l3 : Int32) (σ : j_G), j_J true τ M_cX8_make d 23 [some (.ref 73), none, none, some (.int l3)] [] σ (p_X8_make_23 74 n l3 σ) (fun r Q => j_Tr true τ M_cX8_make d 42 [none, none, none, none] [] r Q) := by
  intro n
  induction n with
  | zero => intro l3 σ; exact j_none
  | succ n ih =>
    intro l3 σ
    unfold p_X8_make_23
    refine j_iload_n (pc' := 24) rfl rfl rfl ?_
    refine j_bipush (pc' := 26) (x := (60 : Int32)) rfl rfl rfl ?_
    refine j_two (pT := 29) (pF := 42) (L1 := [some (.ref 73), none, none, some (.int l3)]) (st1 := []) (fun o kT kF => ?_) (fun h1 => ?_) (fun h1 => ?_)
    · refine j_icge (t := 42) (pc' := 29) rfl rfl rfl (fun h2 => ?_) (fun h2 => ?_)
      · exact kF h2
      · exact kT h2
    · refine j_aload_n (pc' := 30) rfl rfl rfl ?_
      refine j_gfr (pc' := 33) (x := 74) rfl rfl j_a73 rfl rfl ?_
      refine j_iload_n (pc' := 34) rfl rfl rfl ?_
      refine j_lconst (pc' := 35) (x := (0 : Int64)) rfl rfl rfl ?_
      refine j_last (pc' := 36) rfl rfl j_a74 (fun σ1 => ?_)
      refine j_iincx (pc' := 39) (y := (1 : Int32)) (L' := [some (.ref 73), none, none, some (.int (l3 + (1 : Int32)))]) rfl rfl rfl rfl rfl ?_
      refine j_goto (t := 23) rfl rfl ?_
      exact ih (l3 + (1 : Int32)) σ1
    · refine j_wk [false, true, true, false] (L' := [none, none, none, none]) rfl ?_
      exact j_end (fun _ h => h)

theorem c_X8_make_73 (l1 : Int32) (l2 : Int32) (σ : j_G) : j_K true 0 92 [.ref 73, .int l1, .int l2] σ (f_X8_make 73 74 l1 l2 σ) j_Rv := by
  refine j_mkK (M := M_cX8_make) (L := [some (.ref 73), some (.int l1), some (.int l2), none]) (m := 1) t_92 rfl (j_rcvO j_a73 rfl) rfl (fun d hd τ => ?_)
  unfold f_X8_make
  refine j_iload_n (pc' := 1) rfl rfl rfl ?_
  refine j_two (pT := 10) (pF := 11) (L1 := [some (.ref 73), some (.int l1), some (.int l2), none]) (st1 := []) (fun o kT kF => ?_) (fun h1 => ?_) (fun h1 => ?_)
  · refine j_iflt (t := 10) (pc' := 4) rfl rfl rfl (fun h2 => ?_) (fun h2 => ?_)
    · exact kT (Or.inl h2)
    · refine j_iload_n (pc' := 5) rfl rfl rfl ?_
      refine j_bipush (pc' := 7) (x := (60 : Int32)) rfl rfl rfl ?_
      refine j_icle (t := 11) (pc' := 10) rfl rfl rfl (fun h3 => ?_) (fun h3 => ?_)
      · exact kF (fun z => z.elim h2 (h3))
      · exact kT (Or.inr (h3))
  · exact j_ret rfl rfl rfl (fun _ h => h)
  · refine j_aload_n (pc' := 12) rfl rfl rfl ?_
    refine j_iload_n (pc' := 13) rfl rfl rfl ?_
    refine j_pfi (pc' := 16) rfl rfl j_a73 rfl rfl (fun σ1 => ?_)
    refine j_aload_n (pc' := 17) rfl rfl rfl ?_
    refine j_iload_n (pc' := 18) rfl rfl rfl ?_
    refine j_pfi (pc' := 21) rfl rfl j_a73 rfl rfl (fun σ2 => ?_)
    refine j_iconst (pc' := 22) (x := (0 : Int32)) rfl rfl rfl ?_
    refine j_istore_n (pc' := 23) (L' := [some (.ref 73), some (.int l1), some (.int l2), some (.int (0 : Int32))]) rfl rfl rfl ?_
    refine j_wk [true, false, false, true] (L' := [some (.ref 73), none, none, some (.int (0 : Int32))]) rfl ?_
    refine j_q1 (l_X8_make_23_73 hd τ j_F (0 : Int32) σ2) (fun σ3 => ?_)
    show j_J true τ M_cX8_make d 42 [none, none, none, none] [] σ3 _ _
    exact j_ret rfl rfl rfl (fun _ h => h)

noncomputable def f_X11_row (l1 : Int32) (l2 : Int32) (l3 : Int32) (σ : j_G) : Option (Int32 × j_G) :=
  if ((f_X11_isSlot l1) = 0) ∨ ((l2 < 0) ∨ (((3 : Int32) < l2) ∨ ((60 : Int32) < l3))) then (some ((-2 : Int32), σ)) else (if l3 < 0 then (some ((-3 : Int32), σ)) else (if l1 = 0 then (j_b1 (f_X8_make 67 68 l2 l3 σ) fun σ1 =>
  some ((0 : Int32), σ1)) else
  if l1 = 1 then (j_b1 (f_X8_make 69 70 l2 l3 σ) fun σ2 =>
  some ((0 : Int32), σ2)) else
  if l1 = 2 then (j_b1 (f_X8_make 71 72 l2 l3 σ) fun σ3 =>
  some ((0 : Int32), σ3)) else
  if l1 = 3 then (j_b1 (f_X8_make 73 74 l2 l3 σ) fun σ4 =>
  some ((0 : Int32), σ4)) else
  none))
theorem c_X11_row (l1 : Int32) (l2 : Int32) (l3 : Int32) (σ : j_G) : j_K true 1 179 [.ref 0, .int l1, .int l2, .int l3] σ (f_X11_row l1 l2 l3 σ) j_Ri := by
  refine j_mkK (M := M_cX11_row) (L := [some (.ref 0), some (.int l1), some (.int l2), some (.int l3)]) (m := 0) t_179 rfl (j_rcvO j_a0 rfl) rfl (fun d hd τ => ?_)
  unfold f_X11_row
  refine j_iload_n (pc' := 1) rfl rfl rfl ?_
  refine j_callTi (pc' := 4) (ai := 182) (vs := [.int l1]) (rest := []) rfl rfl (fun _ _ => rfl) (c_X11_isSlot l1 σ) (j_dd rfl hd) rfl ?_
  refine j_two (pT := 22) (pF := 25) (L1 := [some (.ref 0), some (.int l1), some (.int l2), some (.int l3)]) (st1 := []) (fun o kT kF => ?_) (fun h7 => ?_) (fun h7 => ?_)
  · refine j_ifeq (t := 22) (pc' := 7) rfl rfl rfl (fun h8 => ?_) (fun h8 => ?_)
    · exact kT (Or.inl h8)
    · refine j_iload_n (pc' := 8) rfl rfl rfl ?_
      refine j_iflt (t := 22) (pc' := 11) rfl rfl rfl (fun h9 => ?_) (fun h9 => ?_)
      · exact kT (Or.inr (Or.inl h9))
      · refine j_iload_n (pc' := 12) rfl rfl rfl ?_
        refine j_iconst (pc' := 13) (x := (3 : Int32)) rfl rfl rfl ?_
        refine j_icgt (t := 22) (pc' := 16) rfl rfl rfl (fun h10 => ?_) (fun h10 => ?_)
        · exact kT (Or.inr (Or.inr (Or.inl h10)))
        · refine j_iload_n (pc' := 17) rfl rfl rfl ?_
          refine j_bipush (pc' := 19) (x := (60 : Int32)) rfl rfl rfl ?_
          refine j_icle (t := 25) (pc' := 22) rfl rfl rfl (fun h11 => ?_) (fun h11 => ?_)
          · exact kF (fun z => z.elim h8 (fun z => z.elim h9 (fun z => z.elim h10 (h11))))
          · exact kT (Or.inr (Or.inr (Or.inr (h11))))
  · refine j_bipush (pc' := 24) (x := (-2 : Int32)) rfl rfl rfl ?_
    exact j_ret rfl rfl rfl (fun _ h => h)
  · refine j_iload_n (pc' := 26) rfl rfl rfl ?_
    refine j_two (pT := 29) (pF := 32) (L1 := [some (.ref 0), some (.int l1), some (.int l2), some (.int l3)]) (st1 := []) (fun o kT kF => ?_) (fun h5 => ?_) (fun h5 => ?_)
    · refine j_ifge (t := 32) (pc' := 29) rfl rfl rfl (fun h6 => ?_) (fun h6 => ?_)
      · exact kF h6
      · exact kT h6
    · refine j_bipush (pc' := 31) (x := (-3 : Int32)) rfl rfl rfl ?_
      exact j_ret rfl rfl rfl (fun _ h => h)
    · refine j_aload_n (pc' := 33) rfl rfl rfl ?_
      refine j_gfr (pc' := 36) (x := 42) rfl rfl j_a0 rfl rfl ?_
      refine j_iload_n (pc' := 37) rfl rfl rfl ?_
      refine j_spl (k := (0 : Int32)) (fun h1 => ?_) (fun h1 => ?_)
      · subst h1
        refine j_aald (pc' := 38) (r := 67) rfl rfl j_a42 (by decide) rfl ?_
        refine j_iload_n (pc' := 39) rfl rfl rfl ?_
        refine j_iload_n (pc' := 40) rfl rfl rfl ?_
        refine j_callRv (pc' := 43) (ai := 92) (vs := [.ref 67, .int l2, .int l3]) (rest := []) rfl rfl (fun _ _ => rfl) (c_X8_make_67 l2 l3 σ) (j_dd rfl hd) rfl (fun σ1 => ?_)
        refine j_iconst (pc' := 44) (x := (0 : Int32)) rfl rfl rfl ?_
        exact j_ret rfl rfl rfl (fun _ h => h)
      refine j_spl (k := (1 : Int32)) (fun h2 => ?_) (fun h2 => ?_)
      · subst h2
        refine j_aald (pc' := 38) (r := 69) rfl rfl j_a42 (by decide) rfl ?_
        refine j_iload_n (pc' := 39) rfl rfl rfl ?_
        refine j_iload_n (pc' := 40) rfl rfl rfl ?_
        refine j_callRv (pc' := 43) (ai := 92) (vs := [.ref 69, .int l2, .int l3]) (rest := []) rfl rfl (fun _ _ => rfl) (c_X8_make_69 l2 l3 σ) (j_dd rfl hd) rfl (fun σ2 => ?_)
        refine j_iconst (pc' := 44) (x := (0 : Int32)) rfl rfl rfl ?_
        exact j_ret rfl rfl rfl (fun _ h => h)
      refine j_spl (k := (2 : Int32)) (fun h3 => ?_) (fun h3 => ?_)
      · subst h3
        refine j_aald (pc' := 38) (r := 71) rfl rfl j_a42 (by decide) rfl ?_
        refine j_iload_n (pc' := 39) rfl rfl rfl ?_
        refine j_iload_n (pc' := 40) rfl rfl rfl ?_
        refine j_callRv (pc' := 43) (ai := 92) (vs := [.ref 71, .int l2, .int l3]) (rest := []) rfl rfl (fun _ _ => rfl) (c_X8_make_71 l2 l3 σ) (j_dd rfl hd) rfl (fun σ3 => ?_)
        refine j_iconst (pc' := 44) (x := (0 : Int32)) rfl rfl rfl ?_
        exact j_ret rfl rfl rfl (fun _ h => h)
      refine j_spl (k := (3 : Int32)) (fun h4 => ?_) (fun h4 => ?_)
      · subst h4
        refine j_aald (pc' := 38) (r := 73) rfl rfl j_a42 (by decide) rfl ?_
        refine j_iload_n (pc' := 39) rfl rfl rfl ?_
        refine j_iload_n (pc' := 40) rfl rfl rfl ?_
        refine j_callRv (pc' := 43) (ai := 92) (vs := [.ref 73, .int l2, .int l3]) (rest := []) rfl rfl (fun _ _ => rfl) (c_X8_make_73 l2 l3 σ) (j_dd rfl hd) rfl (fun σ4 => ?_)
        refine j_iconst (pc' := 44) (x := (0 : Int32)) rfl rfl rfl ?_
        exact j_ret rfl rfl rfl (fun _ h => h)
      exact j_none

noncomputable def p_X12_row_52 (l1 : Int32) : Nat → Int32 → j_G → Option j_G
  | 0, _, _ => none
  | n + 1, l4, σ =>
    if l4 < (60 : Int32) then (j_ix (((60 : Int32) * l1) + l4) 240 (
    j_lt (j_sl σ 96 ((((60 : Int32) * l1) + l4)).toNatClampNeg (0 : Int64)) fun σ1 =>
    p_X12_row_52 l1 n (l4 + (1 : Int32)) σ1)) else (some σ)

noncomputable def f_X12_row (l1 : Int32) (l2 : Int32) (l3 : Int32) (σ : j_G) : Option (Int32 × j_G) :=
  if ((f_X12_isSlot l1) = 0) ∨ (((f_X12_in (l2).toInt64 (0 : Int64) (3 : Int64)) = 0) ∨ ((60 : Int32) < l3)) then (some ((-2 : Int32), σ)) else (if l3 < 0 then (some ((-3 : Int32), σ)) else (j_ix l1 4 (
  j_lt (j_si σ 94 (l1).toNatClampNeg l3) fun σ1 =>
  j_ix l1 4 (
  j_lt (j_si σ1 95 (l1).toNatClampNeg l2) fun σ2 =>
  j_b1 (p_X12_row_52 l1 j_F (0 : Int32) σ2) fun σ3 =>
  some ((0 : Int32), σ3)))))
theorem l_X12_row_52 {d : Nat} (hd : 2 ≤ d) (τ : j_G) (l1 : Int32) : ∀ (n : Nat) (l4 : Int32) (σ : j_G), j_J false τ M_cX12_row d 52 [some (.ref 75), some (.int l1), none, none, some (.int l4)] [] σ (p_X12_row_52 l1 n l4 σ) (fun r Q => j_Tr false τ M_cX12_row d 78 [none, none, none, none, none] [] r Q) := by
  intro n
  induction n with
  | zero => intro l4 σ; exact j_none
  | succ n ih =>
    intro l4 σ
    unfold p_X12_row_52
    refine j_iload (pc' := 54) rfl rfl rfl ?_
    refine j_bipush (pc' := 56) (x := (60 : Int32)) rfl rfl rfl ?_
    refine j_two (pT := 59) (pF := 78) (L1 := [some (.ref 75), some (.int l1), none, none, some (.int l4)]) (st1 := []) (fun o kT kF => ?_) (fun h1 => ?_) (fun h1 => ?_)
    · refine j_icge (t := 78) (pc' := 59) rfl rfl rfl (fun h2 => ?_) (fun h2 => ?_)
      · exact kF h2
      · exact kT h2
    · refine j_aload_n (pc' := 60) rfl rfl rfl ?_
      refine j_gfr (pc' := 63) (x := 96) rfl rfl j_a75 rfl rfl ?_
      refine j_bipush (pc' := 65) (x := (60 : Int32)) rfl rfl rfl ?_
      refine j_iload_n (pc' := 66) rfl rfl rfl ?_
      refine j_imul (pc' := 67) rfl rfl ?_
      refine j_iload (pc' := 69) rfl rfl rfl ?_
      refine j_iadd (pc' := 70) rfl rfl ?_
      refine j_lconst (pc' := 71) (x := (0 : Int64)) rfl rfl rfl ?_
      refine j_last (pc' := 72) rfl rfl j_a96 (fun σ1 => ?_)
      refine j_iincx (pc' := 75) (y := (1 : Int32)) (L' := [some (.ref 75), some (.int l1), none, none, some (.int (l4 + (1 : Int32)))]) rfl rfl rfl rfl rfl ?_
      refine j_goto (t := 52) rfl rfl ?_
      exact ih (l4 + (1 : Int32)) σ1
    · refine j_wk [false, false, true, true, false] (L' := [none, none, none, none, none]) rfl ?_
      exact j_end (fun _ h => h)

theorem c_X12_row (l1 : Int32) (l2 : Int32) (l3 : Int32) (σ : j_G) : j_K false 2 353 [.ref 75, .int l1, .int l2, .int l3] σ (f_X12_row l1 l2 l3 σ) j_Ri := by
  refine j_mkK (M := M_cX12_row) (L := [some (.ref 75), some (.int l1), some (.int l2), some (.int l3), none]) (m := 1) t_353 rfl (j_rcvO j_a75 rfl) rfl (fun d hd τ => ?_)
  unfold f_X12_row
  refine j_iload_n (pc' := 1) rfl rfl rfl ?_
  refine j_callTi (pc' := 4) (ai := 351) (vs := [.int l1]) (rest := []) rfl rfl (fun _ _ => rfl) (c_X12_isSlot l1 σ) (j_dd rfl hd) rfl ?_
  refine j_two (pT := 25) (pF := 28) (L1 := [some (.ref 75), some (.int l1), some (.int l2), some (.int l3), none]) (st1 := []) (fun o kT kF => ?_) (fun h3 => ?_) (fun h3 => ?_)
  · refine j_ifeq (t := 25) (pc' := 7) rfl rfl rfl (fun h4 => ?_) (fun h4 => ?_)
    · exact kT (Or.inl h4)
    · refine j_iload_n (pc' := 8) rfl rfl rfl ?_
      refine j_i2l (pc' := 9) rfl rfl ?_
      refine j_lconst (pc' := 10) (x := (0 : Int64)) rfl rfl rfl ?_
      refine j_ldc2_w (pc' := 13) (x := (3 : Int64)) rfl rfl rfl ?_
      refine j_callTi (pc' := 16) (ai := 196) (vs := [.long (l2).toInt64, .long (0 : Int64), .long (3 : Int64)]) (rest := []) rfl rfl (fun _ _ => rfl) (c_X12_in (l2).toInt64 (0 : Int64) (3 : Int64) σ) (j_dd rfl hd) rfl ?_
      refine j_ifeq (t := 25) (pc' := 19) rfl rfl rfl (fun h5 => ?_) (fun h5 => ?_)
      · exact kT (Or.inr (Or.inl h5))
      · refine j_iload_n (pc' := 20) rfl rfl rfl ?_
        refine j_bipush (pc' := 22) (x := (60 : Int32)) rfl rfl rfl ?_
        refine j_icle (t := 28) (pc' := 25) rfl rfl rfl (fun h6 => ?_) (fun h6 => ?_)
        · exact kF (fun z => z.elim h4 (fun z => z.elim h5 (h6)))
        · exact kT (Or.inr (Or.inr (h6)))
  · refine j_bipush (pc' := 27) (x := (-2 : Int32)) rfl rfl rfl ?_
    exact j_ret rfl rfl rfl (fun _ h => h)
  · refine j_iload_n (pc' := 29) rfl rfl rfl ?_
    refine j_two (pT := 32) (pF := 35) (L1 := [some (.ref 75), some (.int l1), some (.int l2), some (.int l3), none]) (st1 := []) (fun o kT kF => ?_) (fun h1 => ?_) (fun h1 => ?_)
    · refine j_ifge (t := 35) (pc' := 32) rfl rfl rfl (fun h2 => ?_) (fun h2 => ?_)
      · exact kF h2
      · exact kT h2
    · refine j_bipush (pc' := 34) (x := (-3 : Int32)) rfl rfl rfl ?_
      exact j_ret rfl rfl rfl (fun _ h => h)
    · refine j_aload_n (pc' := 36) rfl rfl rfl ?_
      refine j_gfr (pc' := 39) (x := 94) rfl rfl j_a75 rfl rfl ?_
      refine j_iload_n (pc' := 40) rfl rfl rfl ?_
      refine j_iload_n (pc' := 41) rfl rfl rfl ?_
      refine j_iast (pc' := 42) rfl rfl j_a94 (fun σ1 => ?_)
      refine j_aload_n (pc' := 43) rfl rfl rfl ?_
      refine j_gfr (pc' := 46) (x := 95) rfl rfl j_a75 rfl rfl ?_
      refine j_iload_n (pc' := 47) rfl rfl rfl ?_
      refine j_iload_n (pc' := 48) rfl rfl rfl ?_
      refine j_iast (pc' := 49) rfl rfl j_a95 (fun σ2 => ?_)
      refine j_iconst (pc' := 50) (x := (0 : Int32)) rfl rfl rfl ?_
      refine j_istore (pc' := 52) (L' := [some (.ref 75), some (.int l1), some (.int l2), some (.int l3), some (.int (0 : Int32))]) rfl rfl rfl ?_
      refine j_wk [true, true, false, false, true] (L' := [some (.ref 75), some (.int l1), none, none, some (.int (0 : Int32))]) rfl ?_
      refine j_q1 (l_X12_row_52 hd τ l1 j_F (0 : Int32) σ2) (fun σ3 => ?_)
      show j_J false τ M_cX12_row d 78 [none, none, none, none, none] [] σ3 _ _
      refine j_iconst (pc' := 79) (x := (0 : Int32)) rfl rfl rfl ?_
      exact j_ret rfl rfl rfl (fun _ h => h)

noncomputable def f_X8_put (a0 : Nat) (a0_2 : Nat) (l1 : Int32) (l2 : Int64) (σ : j_G) : Option j_G :=
  if (l1 < 0) ∨ (¬ l1 < (σ.1 a0 0)) then (some σ) else (if (σ.1 a0 1) = 0 then (j_ix l1 60 (
  j_lt (j_sl σ a0_2 (l1).toNatClampNeg (((l2).toInt32).toInt8.toInt32).toInt64) fun σ1 =>
  some σ1)) else
  if (σ.1 a0 1) = 1 then (j_ix l1 60 (
  j_lt (j_sl σ a0_2 (l1).toNatClampNeg (((l2).toInt32).toInt16.toInt32).toInt64) fun σ2 =>
  some σ2)) else
  if (σ.1 a0 1) = 2 then (j_ix l1 60 (
  j_lt (j_sl σ a0_2 (l1).toNatClampNeg ((l2).toInt32).toInt64) fun σ3 =>
  some σ3)) else
  (j_ix l1 60 (
  j_lt (j_sl σ a0_2 (l1).toNatClampNeg l2) fun σ4 =>
  some σ4)))
theorem c_X8_put_67 (l1 : Int32) (l2 : Int64) (σ : j_G) : j_K true 0 93 [.ref 67, .int l1, .long l2] σ (f_X8_put 67 68 l1 l2 σ) j_Rv := by
  refine j_mkK (M := M_cX8_put) (L := [some (.ref 67), some (.int l1), some (.long l2), none]) (m := 0) t_93 rfl (j_rcvO j_a67 rfl) rfl (fun d hd τ => ?_)
  unfold f_X8_put
  refine j_iload_n (pc' := 1) rfl rfl rfl ?_
  refine j_two (pT := 12) (pF := 13) (L1 := [some (.ref 67), some (.int l1), some (.long l2), none]) (st1 := []) (fun o kT kF => ?_) (fun h4 => ?_) (fun h4 => ?_)
  · refine j_iflt (t := 12) (pc' := 4) rfl rfl rfl (fun h5 => ?_) (fun h5 => ?_)
    · exact kT (Or.inl h5)
    · refine j_iload_n (pc' := 5) rfl rfl rfl ?_
      refine j_aload_n (pc' := 6) rfl rfl rfl ?_
      refine j_gfi (pc' := 9) rfl rfl j_a67 rfl ?_
      refine j_iclt (t := 13) (pc' := 12) rfl rfl rfl (fun h6 => ?_) (fun h6 => ?_)
      · exact kF (fun z => z.elim h5 (fun z => z h6))
      · exact kT (Or.inr (h6))
  · exact j_ret rfl rfl rfl (fun _ h => h)
  · refine j_aload_n (pc' := 14) rfl rfl rfl ?_
    refine j_gfi (pc' := 17) rfl rfl j_a67 rfl ?_
    refine j_spl (k := (0 : Int32)) (fun h1 => ?_) (fun h1 => ?_)
    · refine j_sw (t := 44) h1 rfl rfl (fun _ _ => rfl) ?_
      refine j_aload_n (pc' := 45) rfl rfl rfl ?_
      refine j_gfr (pc' := 48) (x := 68) rfl rfl j_a67 rfl rfl ?_
      refine j_iload_n (pc' := 49) rfl rfl rfl ?_
      refine j_lload_n (pc' := 50) rfl rfl rfl ?_
      refine j_l2i (pc' := 51) rfl rfl ?_
      refine j_i2b (pc' := 52) rfl rfl ?_
      refine j_i2l (pc' := 53) rfl rfl ?_
      refine j_last (pc' := 54) rfl rfl j_a68 (fun σ1 => ?_)
      refine j_goto (t := 89) rfl rfl ?_
      exact j_ret rfl rfl rfl (fun _ h => h)
    refine j_spl (k := (1 : Int32)) (fun h2 => ?_) (fun h2 => ?_)
    · refine j_sw (t := 57) h2 rfl rfl (fun _ _ => rfl) ?_
      refine j_aload_n (pc' := 58) rfl rfl rfl ?_
      refine j_gfr (pc' := 61) (x := 68) rfl rfl j_a67 rfl rfl ?_
      refine j_iload_n (pc' := 62) rfl rfl rfl ?_
      refine j_lload_n (pc' := 63) rfl rfl rfl ?_
      refine j_l2i (pc' := 64) rfl rfl ?_
      refine j_i2s (pc' := 65) rfl rfl ?_
      refine j_i2l (pc' := 66) rfl rfl ?_
      refine j_last (pc' := 67) rfl rfl j_a68 (fun σ2 => ?_)
      refine j_goto (t := 89) rfl rfl ?_
      exact j_ret rfl rfl rfl (fun _ h => h)
    refine j_spl (k := (2 : Int32)) (fun h3 => ?_) (fun h3 => ?_)
    · refine j_sw (t := 70) h3 rfl rfl (fun _ _ => rfl) ?_
      refine j_aload_n (pc' := 71) rfl rfl rfl ?_
      refine j_gfr (pc' := 74) (x := 68) rfl rfl j_a67 rfl rfl ?_
      refine j_iload_n (pc' := 75) rfl rfl rfl ?_
      refine j_lload_n (pc' := 76) rfl rfl rfl ?_
      refine j_l2i (pc' := 77) rfl rfl ?_
      refine j_i2l (pc' := 78) rfl rfl ?_
      refine j_last (pc' := 79) rfl rfl j_a68 (fun σ3 => ?_)
      refine j_goto (t := 89) rfl rfl ?_
      exact j_ret rfl rfl rfl (fun _ h => h)
    have eh1 := j_ne (0) (by decide) h1
    have eh2 := j_ne (1) (by decide) h2
    have eh3 := j_ne (2) (by decide) h3
    refine j_tsd (t := 82) rfl (by omega) rfl ?_
    refine j_aload_n (pc' := 83) rfl rfl rfl ?_
    refine j_gfr (pc' := 86) (x := 68) rfl rfl j_a67 rfl rfl ?_
    refine j_iload_n (pc' := 87) rfl rfl rfl ?_
    refine j_lload_n (pc' := 88) rfl rfl rfl ?_
    refine j_last (pc' := 89) rfl rfl j_a68 (fun σ4 => ?_)
    exact j_ret rfl rfl rfl (fun _ h => h)

theorem c_X8_put_69 (l1 : Int32) (l2 : Int64) (σ : j_G) : j_K true 0 93 [.ref 69, .int l1, .long l2] σ (f_X8_put 69 70 l1 l2 σ) j_Rv := by
  refine j_mkK (M := M_cX8_put) (L := [some (.ref 69), some (.int l1), some (.long l2), none]) (m := 0) t_93 rfl (j_rcvO j_a69 rfl) rfl (fun d hd τ => ?_)
  unfold f_X8_put
  refine j_iload_n (pc' := 1) rfl rfl rfl ?_
  refine j_two (pT := 12) (pF := 13) (L1 := [some (.ref 69), some (.int l1), some (.long l2), none]) (st1 := []) (fun o kT kF => ?_) (fun h4 => ?_) (fun h4 => ?_)
  · refine j_iflt (t := 12) (pc' := 4) rfl rfl rfl (fun h5 => ?_) (fun h5 => ?_)
    · exact kT (Or.inl h5)
    · refine j_iload_n (pc' := 5) rfl rfl rfl ?_
      refine j_aload_n (pc' := 6) rfl rfl rfl ?_
      refine j_gfi (pc' := 9) rfl rfl j_a69 rfl ?_
      refine j_iclt (t := 13) (pc' := 12) rfl rfl rfl (fun h6 => ?_) (fun h6 => ?_)
      · exact kF (fun z => z.elim h5 (fun z => z h6))
      · exact kT (Or.inr (h6))
  · exact j_ret rfl rfl rfl (fun _ h => h)
  · refine j_aload_n (pc' := 14) rfl rfl rfl ?_
    refine j_gfi (pc' := 17) rfl rfl j_a69 rfl ?_
    refine j_spl (k := (0 : Int32)) (fun h1 => ?_) (fun h1 => ?_)
    · refine j_sw (t := 44) h1 rfl rfl (fun _ _ => rfl) ?_
      refine j_aload_n (pc' := 45) rfl rfl rfl ?_
      refine j_gfr (pc' := 48) (x := 70) rfl rfl j_a69 rfl rfl ?_
      refine j_iload_n (pc' := 49) rfl rfl rfl ?_
      refine j_lload_n (pc' := 50) rfl rfl rfl ?_
      refine j_l2i (pc' := 51) rfl rfl ?_
      refine j_i2b (pc' := 52) rfl rfl ?_
      refine j_i2l (pc' := 53) rfl rfl ?_
      refine j_last (pc' := 54) rfl rfl j_a70 (fun σ1 => ?_)
      refine j_goto (t := 89) rfl rfl ?_
      exact j_ret rfl rfl rfl (fun _ h => h)
    refine j_spl (k := (1 : Int32)) (fun h2 => ?_) (fun h2 => ?_)
    · refine j_sw (t := 57) h2 rfl rfl (fun _ _ => rfl) ?_
      refine j_aload_n (pc' := 58) rfl rfl rfl ?_
      refine j_gfr (pc' := 61) (x := 70) rfl rfl j_a69 rfl rfl ?_
      refine j_iload_n (pc' := 62) rfl rfl rfl ?_
      refine j_lload_n (pc' := 63) rfl rfl rfl ?_
      refine j_l2i (pc' := 64) rfl rfl ?_
      refine j_i2s (pc' := 65) rfl rfl ?_
      refine j_i2l (pc' := 66) rfl rfl ?_
      refine j_last (pc' := 67) rfl rfl j_a70 (fun σ2 => ?_)
      refine j_goto (t := 89) rfl rfl ?_
      exact j_ret rfl rfl rfl (fun _ h => h)
    refine j_spl (k := (2 : Int32)) (fun h3 => ?_) (fun h3 => ?_)
    · refine j_sw (t := 70) h3 rfl rfl (fun _ _ => rfl) ?_
      refine j_aload_n (pc' := 71) rfl rfl rfl ?_
      refine j_gfr (pc' := 74) (x := 70) rfl rfl j_a69 rfl rfl ?_
      refine j_iload_n (pc' := 75) rfl rfl rfl ?_
      refine j_lload_n (pc' := 76) rfl rfl rfl ?_
      refine j_l2i (pc' := 77) rfl rfl ?_
      refine j_i2l (pc' := 78) rfl rfl ?_
      refine j_last (pc' := 79) rfl rfl j_a70 (fun σ3 => ?_)
      refine j_goto (t := 89) rfl rfl ?_
      exact j_ret rfl rfl rfl (fun _ h => h)
    have eh1 := j_ne (0) (by decide) h1
    have eh2 := j_ne (1) (by decide) h2
    have eh3 := j_ne (2) (by decide) h3
    refine j_tsd (t := 82) rfl (by omega) rfl ?_
    refine j_aload_n (pc' := 83) rfl rfl rfl ?_
    refine j_gfr (pc' := 86) (x := 70) rfl rfl j_a69 rfl rfl ?_
    refine j_iload_n (pc' := 87) rfl rfl rfl ?_
    refine j_lload_n (pc' := 88) rfl rfl rfl ?_
    refine j_last (pc' := 89) rfl rfl j_a70 (fun σ4 => ?_)
    exact j_ret rfl rfl rfl (fun _ h => h)

theorem c_X8_put_71 (l1 : Int32) (l2 : Int64) (σ : j_G) : j_K true 0 93 [.ref 71, .int l1, .long l2] σ (f_X8_put 71 72 l1 l2 σ) j_Rv := by
  refine j_mkK (M := M_cX8_put) (L := [some (.ref 71), some (.int l1), some (.long l2), none]) (m := 0) t_93 rfl (j_rcvO j_a71 rfl) rfl (fun d hd τ => ?_)
  unfold f_X8_put
  refine j_iload_n (pc' := 1) rfl rfl rfl ?_
  refine j_two (pT := 12) (pF := 13) (L1 := [some (.ref 71), some (.int l1), some (.long l2), none]) (st1 := []) (fun o kT kF => ?_) (fun h4 => ?_) (fun h4 => ?_)
  · refine j_iflt (t := 12) (pc' := 4) rfl rfl rfl (fun h5 => ?_) (fun h5 => ?_)
    · exact kT (Or.inl h5)
    · refine j_iload_n (pc' := 5) rfl rfl rfl ?_
      refine j_aload_n (pc' := 6) rfl rfl rfl ?_
      refine j_gfi (pc' := 9) rfl rfl j_a71 rfl ?_
      refine j_iclt (t := 13) (pc' := 12) rfl rfl rfl (fun h6 => ?_) (fun h6 => ?_)
      · exact kF (fun z => z.elim h5 (fun z => z h6))
      · exact kT (Or.inr (h6))
  · exact j_ret rfl rfl rfl (fun _ h => h)
  · refine j_aload_n (pc' := 14) rfl rfl rfl ?_
    refine j_gfi (pc' := 17) rfl rfl j_a71 rfl ?_
    refine j_spl (k := (0 : Int32)) (fun h1 => ?_) (fun h1 => ?_)
    · refine j_sw (t := 44) h1 rfl rfl (fun _ _ => rfl) ?_
      refine j_aload_n (pc' := 45) rfl rfl rfl ?_
      refine j_gfr (pc' := 48) (x := 72) rfl rfl j_a71 rfl rfl ?_
      refine j_iload_n (pc' := 49) rfl rfl rfl ?_
      refine j_lload_n (pc' := 50) rfl rfl rfl ?_
      refine j_l2i (pc' := 51) rfl rfl ?_
      refine j_i2b (pc' := 52) rfl rfl ?_
      refine j_i2l (pc' := 53) rfl rfl ?_
      refine j_last (pc' := 54) rfl rfl j_a72 (fun σ1 => ?_)
      refine j_goto (t := 89) rfl rfl ?_
      exact j_ret rfl rfl rfl (fun _ h => h)
    refine j_spl (k := (1 : Int32)) (fun h2 => ?_) (fun h2 => ?_)
    · refine j_sw (t := 57) h2 rfl rfl (fun _ _ => rfl) ?_
      refine j_aload_n (pc' := 58) rfl rfl rfl ?_
      refine j_gfr (pc' := 61) (x := 72) rfl rfl j_a71 rfl rfl ?_
      refine j_iload_n (pc' := 62) rfl rfl rfl ?_
      refine j_lload_n (pc' := 63) rfl rfl rfl ?_
      refine j_l2i (pc' := 64) rfl rfl ?_
      refine j_i2s (pc' := 65) rfl rfl ?_
      refine j_i2l (pc' := 66) rfl rfl ?_
      refine j_last (pc' := 67) rfl rfl j_a72 (fun σ2 => ?_)
      refine j_goto (t := 89) rfl rfl ?_
      exact j_ret rfl rfl rfl (fun _ h => h)
    refine j_spl (k := (2 : Int32)) (fun h3 => ?_) (fun h3 => ?_)
    · refine j_sw (t := 70) h3 rfl rfl (fun _ _ => rfl) ?_
      refine j_aload_n (pc' := 71) rfl rfl rfl ?_
      refine j_gfr (pc' := 74) (x := 72) rfl rfl j_a71 rfl rfl ?_
      refine j_iload_n (pc' := 75) rfl rfl rfl ?_
      refine j_lload_n (pc' := 76) rfl rfl rfl ?_
      refine j_l2i (pc' := 77) rfl rfl ?_
      refine j_i2l (pc' := 78) rfl rfl ?_
      refine j_last (pc' := 79) rfl rfl j_a72 (fun σ3 => ?_)
      refine j_goto (t := 89) rfl rfl ?_
      exact j_ret rfl rfl rfl (fun _ h => h)
    have eh1 := j_ne (0) (by decide) h1
    have eh2 := j_ne (1) (by decide) h2
    have eh3 := j_ne (2) (by decide) h3
    refine j_tsd (t := 82) rfl (by omega) rfl ?_
    refine j_aload_n (pc' := 83) rfl rfl rfl ?_
    refine j_gfr (pc' := 86) (x := 72) rfl rfl j_a71 rfl rfl ?_
    refine j_iload_n (pc' := 87) rfl rfl rfl ?_
    refine j_lload_n (pc' := 88) rfl rfl rfl ?_
    refine j_last (pc' := 89) rfl rfl j_a72 (fun σ4 => ?_)
    exact j_ret rfl rfl rfl (fun _ h => h)

theorem c_X8_put_73 (l1 : Int32) (l2 : Int64) (σ : j_G) : j_K true 0 93 [.ref 73, .int l1, .long l2] σ (f_X8_put 73 74 l1 l2 σ) j_Rv := by
  refine j_mkK (M := M_cX8_put) (L := [some (.ref 73), some (.int l1), some (.long l2), none]) (m := 0) t_93 rfl (j_rcvO j_a73 rfl) rfl (fun d hd τ => ?_)
  unfold f_X8_put
  refine j_iload_n (pc' := 1) rfl rfl rfl ?_
  refine j_two (pT := 12) (pF := 13) (L1 := [some (.ref 73), some (.int l1), some (.long l2), none]) (st1 := []) (fun o kT kF => ?_) (fun h4 => ?_) (fun h4 => ?_)
  · refine j_iflt (t := 12) (pc' := 4) rfl rfl rfl (fun h5 => ?_) (fun h5 => ?_)
    · exact kT (Or.inl h5)
    · refine j_iload_n (pc' := 5) rfl rfl rfl ?_
      refine j_aload_n (pc' := 6) rfl rfl rfl ?_
      refine j_gfi (pc' := 9) rfl rfl j_a73 rfl ?_
      refine j_iclt (t := 13) (pc' := 12) rfl rfl rfl (fun h6 => ?_) (fun h6 => ?_)
      · exact kF (fun z => z.elim h5 (fun z => z h6))
      · exact kT (Or.inr (h6))
  · exact j_ret rfl rfl rfl (fun _ h => h)
  · refine j_aload_n (pc' := 14) rfl rfl rfl ?_
    refine j_gfi (pc' := 17) rfl rfl j_a73 rfl ?_
    refine j_spl (k := (0 : Int32)) (fun h1 => ?_) (fun h1 => ?_)
    · refine j_sw (t := 44) h1 rfl rfl (fun _ _ => rfl) ?_
      refine j_aload_n (pc' := 45) rfl rfl rfl ?_
      refine j_gfr (pc' := 48) (x := 74) rfl rfl j_a73 rfl rfl ?_
      refine j_iload_n (pc' := 49) rfl rfl rfl ?_
      refine j_lload_n (pc' := 50) rfl rfl rfl ?_
      refine j_l2i (pc' := 51) rfl rfl ?_
      refine j_i2b (pc' := 52) rfl rfl ?_
      refine j_i2l (pc' := 53) rfl rfl ?_
      refine j_last (pc' := 54) rfl rfl j_a74 (fun σ1 => ?_)
      refine j_goto (t := 89) rfl rfl ?_
      exact j_ret rfl rfl rfl (fun _ h => h)
    refine j_spl (k := (1 : Int32)) (fun h2 => ?_) (fun h2 => ?_)
    · refine j_sw (t := 57) h2 rfl rfl (fun _ _ => rfl) ?_
      refine j_aload_n (pc' := 58) rfl rfl rfl ?_
      refine j_gfr (pc' := 61) (x := 74) rfl rfl j_a73 rfl rfl ?_
      refine j_iload_n (pc' := 62) rfl rfl rfl ?_
      refine j_lload_n (pc' := 63) rfl rfl rfl ?_
      refine j_l2i (pc' := 64) rfl rfl ?_
      refine j_i2s (pc' := 65) rfl rfl ?_
      refine j_i2l (pc' := 66) rfl rfl ?_
      refine j_last (pc' := 67) rfl rfl j_a74 (fun σ2 => ?_)
      refine j_goto (t := 89) rfl rfl ?_
      exact j_ret rfl rfl rfl (fun _ h => h)
    refine j_spl (k := (2 : Int32)) (fun h3 => ?_) (fun h3 => ?_)
    · refine j_sw (t := 70) h3 rfl rfl (fun _ _ => rfl) ?_
      refine j_aload_n (pc' := 71) rfl rfl rfl ?_
      refine j_gfr (pc' := 74) (x := 74) rfl rfl j_a73 rfl rfl ?_
      refine j_iload_n (pc' := 75) rfl rfl rfl ?_
      refine j_lload_n (pc' := 76) rfl rfl rfl ?_
      refine j_l2i (pc' := 77) rfl rfl ?_
      refine j_i2l (pc' := 78) rfl rfl ?_
      refine j_last (pc' := 79) rfl rfl j_a74 (fun σ3 => ?_)
      refine j_goto (t := 89) rfl rfl ?_
      exact j_ret rfl rfl rfl (fun _ h => h)
    have eh1 := j_ne (0) (by decide) h1
    have eh2 := j_ne (1) (by decide) h2
    have eh3 := j_ne (2) (by decide) h3
    refine j_tsd (t := 82) rfl (by omega) rfl ?_
    refine j_aload_n (pc' := 83) rfl rfl rfl ?_
    refine j_gfr (pc' := 86) (x := 74) rfl rfl j_a73 rfl rfl ?_
    refine j_iload_n (pc' := 87) rfl rfl rfl ?_
    refine j_lload_n (pc' := 88) rfl rfl rfl ?_
    refine j_last (pc' := 89) rfl rfl j_a74 (fun σ4 => ?_)
    exact j_ret rfl rfl rfl (fun _ h => h)

noncomputable def f_X11_write (l1 : Int32) (l2 : Int32) (l3 : Int64) (σ : j_G) : Option (Int32 × j_G) :=
  if (f_X11_isSlot l1) = 0 then (some ((-2 : Int32), σ)) else (if l1 = 0 then (if (f_X8_isMade 67 σ) = 0 then (some ((-6 : Int32), σ)) else (if ¬ l2 < 0 then (if ¬ l2 < (σ.1 67 0) then (some ((-7 : Int32), σ)) else (j_b1 (f_X8_put 67 68 l2 l3 σ) fun σ1 =>
  some ((0 : Int32), σ1))) else (some ((-7 : Int32), σ)))) else
  if l1 = 1 then (if (f_X8_isMade 69 σ) = 0 then (some ((-6 : Int32), σ)) else (if ¬ l2 < 0 then (if ¬ l2 < (σ.1 69 0) then (some ((-7 : Int32), σ)) else (j_b1 (f_X8_put 69 70 l2 l3 σ) fun σ2 =>
  some ((0 : Int32), σ2))) else (some ((-7 : Int32), σ)))) else
  if l1 = 2 then (if (f_X8_isMade 71 σ) = 0 then (some ((-6 : Int32), σ)) else (if ¬ l2 < 0 then (if ¬ l2 < (σ.1 71 0) then (some ((-7 : Int32), σ)) else (j_b1 (f_X8_put 71 72 l2 l3 σ) fun σ3 =>
  some ((0 : Int32), σ3))) else (some ((-7 : Int32), σ)))) else
  if l1 = 3 then (if (f_X8_isMade 73 σ) = 0 then (some ((-6 : Int32), σ)) else (if ¬ l2 < 0 then (if ¬ l2 < (σ.1 73 0) then (some ((-7 : Int32), σ)) else (j_b1 (f_X8_put 73 74 l2 l3 σ) fun σ4 =>
  some ((0 : Int32), σ4))) else (some ((-7 : Int32), σ)))) else
  none)
theorem c_X11_write (l1 : Int32) (l2 : Int32) (l3 : Int64) (σ : j_G) : j_K true 1 180 [.ref 0, .int l1, .int l2, .long l3] σ (f_X11_write l1 l2 l3 σ) j_Ri := by
  refine j_mkK (M := M_cX11_write) (L := [some (.ref 0), some (.int l1), some (.int l2), some (.long l3), none]) (m := 0) t_180 rfl (j_rcvO j_a0 rfl) rfl (fun d hd τ => ?_)
  unfold f_X11_write
  refine j_iload_n (pc' := 1) rfl rfl rfl ?_
  refine j_callTi (pc' := 4) (ai := 182) (vs := [.int l1]) (rest := []) rfl rfl (fun _ _ => rfl) (c_X11_isSlot l1 σ) (j_dd rfl hd) rfl ?_
  refine j_two (pT := 7) (pF := 10) (L1 := [some (.ref 0), some (.int l1), some (.int l2), some (.long l3), none]) (st1 := []) (fun o kT kF => ?_) (fun h29 => ?_) (fun h29 => ?_)
  · refine j_ifne (t := 10) (pc' := 7) rfl rfl rfl (fun h30 => ?_) (fun h30 => ?_)
    · exact kF h30
    · exact kT h30
  · refine j_bipush (pc' := 9) (x := (-2 : Int32)) rfl rfl rfl ?_
    exact j_ret rfl rfl rfl (fun _ h => h)
  · refine j_aload_n (pc' := 11) rfl rfl rfl ?_
    refine j_gfr (pc' := 14) (x := 42) rfl rfl j_a0 rfl rfl ?_
    refine j_iload_n (pc' := 15) rfl rfl rfl ?_
    refine j_spl (k := (0 : Int32)) (fun h1 => ?_) (fun h1 => ?_)
    · subst h1
      refine j_aald (pc' := 16) (r := 67) rfl rfl j_a42 (by decide) rfl ?_
      refine j_callTi (pc' := 19) (ai := 91) (vs := [.ref 67]) (rest := []) rfl rfl (fun _ _ => rfl) (c_X8_isMade_67  σ) (j_dd rfl hd) rfl ?_
      refine j_two (pT := 22) (pF := 25) (L1 := [some (.ref 0), some (.int (0 : Int32)), some (.int l2), some (.long l3), none]) (st1 := []) (fun o kT kF => ?_) (fun h6 => ?_) (fun h6 => ?_)
      · refine j_ifne (t := 25) (pc' := 22) rfl rfl rfl (fun h7 => ?_) (fun h7 => ?_)
        · exact kF h7
        · exact kT h7
      · refine j_bipush (pc' := 24) (x := (-6 : Int32)) rfl rfl rfl ?_
        exact j_ret rfl rfl rfl (fun _ h => h)
      · refine j_iload_n (pc' := 26) rfl rfl rfl ?_
        refine j_two (pT := 29) (pF := 42) (L1 := [some (.ref 0), some (.int (0 : Int32)), some (.int l2), some (.long l3), none]) (st1 := []) (fun o kT kF => ?_) (fun h4 => ?_) (fun h4 => ?_)
        · refine j_iflt (t := 42) (pc' := 29) rfl rfl rfl (fun h5 => ?_) (fun h5 => ?_)
          · exact kF (fun z => z h5)
          · exact kT h5
        · refine j_iload_n (pc' := 30) rfl rfl rfl ?_
          refine j_aload_n (pc' := 31) rfl rfl rfl ?_
          refine j_gfr (pc' := 34) (x := 42) rfl rfl j_a0 rfl rfl ?_
          refine j_iload_n (pc' := 35) rfl rfl rfl ?_
          refine j_aald (pc' := 36) (r := 67) rfl rfl j_a42 (by decide) rfl ?_
          refine j_gfi (pc' := 39) rfl rfl j_a67 rfl ?_
          refine j_two (pT := 42) (pF := 45) (L1 := [some (.ref 0), some (.int (0 : Int32)), some (.int l2), some (.long l3), none]) (st1 := []) (fun o kT kF => ?_) (fun h2 => ?_) (fun h2 => ?_)
          · refine j_iclt (t := 45) (pc' := 42) rfl rfl rfl (fun h3 => ?_) (fun h3 => ?_)
            · exact kF (fun z => z h3)
            · exact kT h3
          · refine j_bipush (pc' := 44) (x := (-7 : Int32)) rfl rfl rfl ?_
            exact j_ret rfl rfl rfl (fun _ h => h)
          · refine j_aload_n (pc' := 46) rfl rfl rfl ?_
            refine j_gfr (pc' := 49) (x := 42) rfl rfl j_a0 rfl rfl ?_
            refine j_iload_n (pc' := 50) rfl rfl rfl ?_
            refine j_aald (pc' := 51) (r := 67) rfl rfl j_a42 (by decide) rfl ?_
            refine j_iload_n (pc' := 52) rfl rfl rfl ?_
            refine j_lload_n (pc' := 53) rfl rfl rfl ?_
            refine j_callRv (pc' := 56) (ai := 93) (vs := [.ref 67, .int l2, .long l3]) (rest := []) rfl rfl (fun _ _ => rfl) (c_X8_put_67 l2 l3 σ) (j_dd rfl hd) rfl (fun σ1 => ?_)
            refine j_iconst (pc' := 57) (x := (0 : Int32)) rfl rfl rfl ?_
            exact j_ret rfl rfl rfl (fun _ h => h)
        · refine j_bipush (pc' := 44) (x := (-7 : Int32)) rfl rfl rfl ?_
          exact j_ret rfl rfl rfl (fun _ h => h)
    refine j_spl (k := (1 : Int32)) (fun h8 => ?_) (fun h8 => ?_)
    · subst h8
      refine j_aald (pc' := 16) (r := 69) rfl rfl j_a42 (by decide) rfl ?_
      refine j_callTi (pc' := 19) (ai := 91) (vs := [.ref 69]) (rest := []) rfl rfl (fun _ _ => rfl) (c_X8_isMade_69  σ) (j_dd rfl hd) rfl ?_
      refine j_two (pT := 22) (pF := 25) (L1 := [some (.ref 0), some (.int (1 : Int32)), some (.int l2), some (.long l3), none]) (st1 := []) (fun o kT kF => ?_) (fun h13 => ?_) (fun h13 => ?_)
      · refine j_ifne (t := 25) (pc' := 22) rfl rfl rfl (fun h14 => ?_) (fun h14 => ?_)
        · exact kF h14
        · exact kT h14
      · refine j_bipush (pc' := 24) (x := (-6 : Int32)) rfl rfl rfl ?_
        exact j_ret rfl rfl rfl (fun _ h => h)
      · refine j_iload_n (pc' := 26) rfl rfl rfl ?_
        refine j_two (pT := 29) (pF := 42) (L1 := [some (.ref 0), some (.int (1 : Int32)), some (.int l2), some (.long l3), none]) (st1 := []) (fun o kT kF => ?_) (fun h11 => ?_) (fun h11 => ?_)
        · refine j_iflt (t := 42) (pc' := 29) rfl rfl rfl (fun h12 => ?_) (fun h12 => ?_)
          · exact kF (fun z => z h12)
          · exact kT h12
        · refine j_iload_n (pc' := 30) rfl rfl rfl ?_
          refine j_aload_n (pc' := 31) rfl rfl rfl ?_
          refine j_gfr (pc' := 34) (x := 42) rfl rfl j_a0 rfl rfl ?_
          refine j_iload_n (pc' := 35) rfl rfl rfl ?_
          refine j_aald (pc' := 36) (r := 69) rfl rfl j_a42 (by decide) rfl ?_
          refine j_gfi (pc' := 39) rfl rfl j_a69 rfl ?_
          refine j_two (pT := 42) (pF := 45) (L1 := [some (.ref 0), some (.int (1 : Int32)), some (.int l2), some (.long l3), none]) (st1 := []) (fun o kT kF => ?_) (fun h9 => ?_) (fun h9 => ?_)
          · refine j_iclt (t := 45) (pc' := 42) rfl rfl rfl (fun h10 => ?_) (fun h10 => ?_)
            · exact kF (fun z => z h10)
            · exact kT h10
          · refine j_bipush (pc' := 44) (x := (-7 : Int32)) rfl rfl rfl ?_
            exact j_ret rfl rfl rfl (fun _ h => h)
          · refine j_aload_n (pc' := 46) rfl rfl rfl ?_
            refine j_gfr (pc' := 49) (x := 42) rfl rfl j_a0 rfl rfl ?_
            refine j_iload_n (pc' := 50) rfl rfl rfl ?_
            refine j_aald (pc' := 51) (r := 69) rfl rfl j_a42 (by decide) rfl ?_
            refine j_iload_n (pc' := 52) rfl rfl rfl ?_
            refine j_lload_n (pc' := 53) rfl rfl rfl ?_
            refine j_callRv (pc' := 56) (ai := 93) (vs := [.ref 69, .int l2, .long l3]) (rest := []) rfl rfl (fun _ _ => rfl) (c_X8_put_69 l2 l3 σ) (j_dd rfl hd) rfl (fun σ2 => ?_)
            refine j_iconst (pc' := 57) (x := (0 : Int32)) rfl rfl rfl ?_
            exact j_ret rfl rfl rfl (fun _ h => h)
        · refine j_bipush (pc' := 44) (x := (-7 : Int32)) rfl rfl rfl ?_
          exact j_ret rfl rfl rfl (fun _ h => h)
    refine j_spl (k := (2 : Int32)) (fun h15 => ?_) (fun h15 => ?_)
    · subst h15
      refine j_aald (pc' := 16) (r := 71) rfl rfl j_a42 (by decide) rfl ?_
      refine j_callTi (pc' := 19) (ai := 91) (vs := [.ref 71]) (rest := []) rfl rfl (fun _ _ => rfl) (c_X8_isMade_71  σ) (j_dd rfl hd) rfl ?_
      refine j_two (pT := 22) (pF := 25) (L1 := [some (.ref 0), some (.int (2 : Int32)), some (.int l2), some (.long l3), none]) (st1 := []) (fun o kT kF => ?_) (fun h20 => ?_) (fun h20 => ?_)
      · refine j_ifne (t := 25) (pc' := 22) rfl rfl rfl (fun h21 => ?_) (fun h21 => ?_)
        · exact kF h21
        · exact kT h21
      · refine j_bipush (pc' := 24) (x := (-6 : Int32)) rfl rfl rfl ?_
        exact j_ret rfl rfl rfl (fun _ h => h)
      · refine j_iload_n (pc' := 26) rfl rfl rfl ?_
        refine j_two (pT := 29) (pF := 42) (L1 := [some (.ref 0), some (.int (2 : Int32)), some (.int l2), some (.long l3), none]) (st1 := []) (fun o kT kF => ?_) (fun h18 => ?_) (fun h18 => ?_)
        · refine j_iflt (t := 42) (pc' := 29) rfl rfl rfl (fun h19 => ?_) (fun h19 => ?_)
          · exact kF (fun z => z h19)
          · exact kT h19
        · refine j_iload_n (pc' := 30) rfl rfl rfl ?_
          refine j_aload_n (pc' := 31) rfl rfl rfl ?_
          refine j_gfr (pc' := 34) (x := 42) rfl rfl j_a0 rfl rfl ?_
          refine j_iload_n (pc' := 35) rfl rfl rfl ?_
          refine j_aald (pc' := 36) (r := 71) rfl rfl j_a42 (by decide) rfl ?_
          refine j_gfi (pc' := 39) rfl rfl j_a71 rfl ?_
          refine j_two (pT := 42) (pF := 45) (L1 := [some (.ref 0), some (.int (2 : Int32)), some (.int l2), some (.long l3), none]) (st1 := []) (fun o kT kF => ?_) (fun h16 => ?_) (fun h16 => ?_)
          · refine j_iclt (t := 45) (pc' := 42) rfl rfl rfl (fun h17 => ?_) (fun h17 => ?_)
            · exact kF (fun z => z h17)
            · exact kT h17
          · refine j_bipush (pc' := 44) (x := (-7 : Int32)) rfl rfl rfl ?_
            exact j_ret rfl rfl rfl (fun _ h => h)
          · refine j_aload_n (pc' := 46) rfl rfl rfl ?_
            refine j_gfr (pc' := 49) (x := 42) rfl rfl j_a0 rfl rfl ?_
            refine j_iload_n (pc' := 50) rfl rfl rfl ?_
            refine j_aald (pc' := 51) (r := 71) rfl rfl j_a42 (by decide) rfl ?_
            refine j_iload_n (pc' := 52) rfl rfl rfl ?_
            refine j_lload_n (pc' := 53) rfl rfl rfl ?_
            refine j_callRv (pc' := 56) (ai := 93) (vs := [.ref 71, .int l2, .long l3]) (rest := []) rfl rfl (fun _ _ => rfl) (c_X8_put_71 l2 l3 σ) (j_dd rfl hd) rfl (fun σ3 => ?_)
            refine j_iconst (pc' := 57) (x := (0 : Int32)) rfl rfl rfl ?_
            exact j_ret rfl rfl rfl (fun _ h => h)
        · refine j_bipush (pc' := 44) (x := (-7 : Int32)) rfl rfl rfl ?_
          exact j_ret rfl rfl rfl (fun _ h => h)
    refine j_spl (k := (3 : Int32)) (fun h22 => ?_) (fun h22 => ?_)
    · subst h22
      refine j_aald (pc' := 16) (r := 73) rfl rfl j_a42 (by decide) rfl ?_
      refine j_callTi (pc' := 19) (ai := 91) (vs := [.ref 73]) (rest := []) rfl rfl (fun _ _ => rfl) (c_X8_isMade_73  σ) (j_dd rfl hd) rfl ?_
      refine j_two (pT := 22) (pF := 25) (L1 := [some (.ref 0), some (.int (3 : Int32)), some (.int l2), some (.long l3), none]) (st1 := []) (fun o kT kF => ?_) (fun h27 => ?_) (fun h27 => ?_)
      · refine j_ifne (t := 25) (pc' := 22) rfl rfl rfl (fun h28 => ?_) (fun h28 => ?_)
        · exact kF h28
        · exact kT h28
      · refine j_bipush (pc' := 24) (x := (-6 : Int32)) rfl rfl rfl ?_
        exact j_ret rfl rfl rfl (fun _ h => h)
      · refine j_iload_n (pc' := 26) rfl rfl rfl ?_
        refine j_two (pT := 29) (pF := 42) (L1 := [some (.ref 0), some (.int (3 : Int32)), some (.int l2), some (.long l3), none]) (st1 := []) (fun o kT kF => ?_) (fun h25 => ?_) (fun h25 => ?_)
        · refine j_iflt (t := 42) (pc' := 29) rfl rfl rfl (fun h26 => ?_) (fun h26 => ?_)
          · exact kF (fun z => z h26)
          · exact kT h26
        · refine j_iload_n (pc' := 30) rfl rfl rfl ?_
          refine j_aload_n (pc' := 31) rfl rfl rfl ?_
          refine j_gfr (pc' := 34) (x := 42) rfl rfl j_a0 rfl rfl ?_
          refine j_iload_n (pc' := 35) rfl rfl rfl ?_
          refine j_aald (pc' := 36) (r := 73) rfl rfl j_a42 (by decide) rfl ?_
          refine j_gfi (pc' := 39) rfl rfl j_a73 rfl ?_
          refine j_two (pT := 42) (pF := 45) (L1 := [some (.ref 0), some (.int (3 : Int32)), some (.int l2), some (.long l3), none]) (st1 := []) (fun o kT kF => ?_) (fun h23 => ?_) (fun h23 => ?_)
          · refine j_iclt (t := 45) (pc' := 42) rfl rfl rfl (fun h24 => ?_) (fun h24 => ?_)
            · exact kF (fun z => z h24)
            · exact kT h24
          · refine j_bipush (pc' := 44) (x := (-7 : Int32)) rfl rfl rfl ?_
            exact j_ret rfl rfl rfl (fun _ h => h)
          · refine j_aload_n (pc' := 46) rfl rfl rfl ?_
            refine j_gfr (pc' := 49) (x := 42) rfl rfl j_a0 rfl rfl ?_
            refine j_iload_n (pc' := 50) rfl rfl rfl ?_
            refine j_aald (pc' := 51) (r := 73) rfl rfl j_a42 (by decide) rfl ?_
            refine j_iload_n (pc' := 52) rfl rfl rfl ?_
            refine j_lload_n (pc' := 53) rfl rfl rfl ?_
            refine j_callRv (pc' := 56) (ai := 93) (vs := [.ref 73, .int l2, .long l3]) (rest := []) rfl rfl (fun _ _ => rfl) (c_X8_put_73 l2 l3 σ) (j_dd rfl hd) rfl (fun σ4 => ?_)
            refine j_iconst (pc' := 57) (x := (0 : Int32)) rfl rfl rfl ?_
            exact j_ret rfl rfl rfl (fun _ h => h)
        · refine j_bipush (pc' := 44) (x := (-7 : Int32)) rfl rfl rfl ?_
          exact j_ret rfl rfl rfl (fun _ h => h)
    exact j_none

noncomputable def f_X12_cut (l0 : Int64) (l2 : Int32) : Int64 :=
  j_lt ((64 : Int32) - ((8 : Int32) <<< (l2 &&& 31))) fun v1 =>
  ((l0 <<< ((v1).toInt64 &&& 63)) >>> ((v1).toInt64 &&& 63))
theorem c_X12_cut (l0 : Int64) (l2 : Int32) (σ : j_G) : j_K false 0 352 [.long l0, .int l2] σ (some (f_X12_cut l0 l2)) (j_Pl σ) := by
  refine j_mkK (M := M_cX12_cut) (L := [some (.long l0), none, some (.int l2), none]) (m := 1) t_352 rfl (j_rcvS rfl) rfl (fun d hd τ => ?_)
  unfold f_X12_cut
  refine j_bipush (pc' := 2) (x := (64 : Int32)) rfl rfl rfl ?_
  refine j_bipush (pc' := 4) (x := (8 : Int32)) rfl rfl rfl ?_
  refine j_iload_n (pc' := 5) rfl rfl rfl ?_
  refine j_ishl (pc' := 6) rfl rfl ?_
  refine j_isub (pc' := 7) rfl rfl ?_
  refine j_letiT (fun v1 => ?_)
  refine j_istore_n (pc' := 8) (L' := [some (.long l0), none, some (.int l2), some (.int v1)]) rfl rfl rfl ?_
  refine j_lload_n (pc' := 9) rfl rfl rfl ?_
  refine j_iload_n (pc' := 10) rfl rfl rfl ?_
  refine j_lshl (pc' := 11) rfl rfl ?_
  refine j_iload_n (pc' := 12) rfl rfl rfl ?_
  refine j_lshr (pc' := 13) rfl rfl ?_
  exact j_ret rfl rfl rfl (fun _ h => h)

noncomputable def f_X12_write (l1 : Int32) (l2 : Int32) (l3 : Int64) (σ : j_G) : Option (Int32 × j_G) :=
  if (f_X12_isSlot l1) = 0 then (some ((-2 : Int32), σ)) else (j_ix l1 4 (
  if (σ.1 94 (l1).toNatClampNeg) = (-1 : Int32) then (some ((-6 : Int32), σ)) else (j_ix l1 4 (
  if (f_X12_in (l2).toInt64 (0 : Int64) (((σ.1 94 (l1).toNatClampNeg) - (1 : Int32))).toInt64) = 0 then (some ((-7 : Int32), σ)) else (j_ix l1 4 (
  j_ix (((60 : Int32) * l1) + l2) 240 (
  j_lt (j_sl σ 96 ((((60 : Int32) * l1) + l2)).toNatClampNeg (f_X12_cut l3 (σ.1 95 (l1).toNatClampNeg))) fun σ1 =>
  some ((0 : Int32), σ1))))))))
theorem c_X12_write (l1 : Int32) (l2 : Int32) (l3 : Int64) (σ : j_G) : j_K false 2 354 [.ref 75, .int l1, .int l2, .long l3] σ (f_X12_write l1 l2 l3 σ) j_Ri := by
  refine j_mkK (M := M_cX12_write) (L := [some (.ref 75), some (.int l1), some (.int l2), some (.long l3), none]) (m := 0) t_354 rfl (j_rcvO j_a75 rfl) rfl (fun d hd τ => ?_)
  unfold f_X12_write
  refine j_iload_n (pc' := 1) rfl rfl rfl ?_
  refine j_callTi (pc' := 4) (ai := 351) (vs := [.int l1]) (rest := []) rfl rfl (fun _ _ => rfl) (c_X12_isSlot l1 σ) (j_dd rfl hd) rfl ?_
  refine j_two (pT := 7) (pF := 10) (L1 := [some (.ref 75), some (.int l1), some (.int l2), some (.long l3), none]) (st1 := []) (fun o kT kF => ?_) (fun h5 => ?_) (fun h5 => ?_)
  · refine j_ifne (t := 10) (pc' := 7) rfl rfl rfl (fun h6 => ?_) (fun h6 => ?_)
    · exact kF h6
    · exact kT h6
  · refine j_bipush (pc' := 9) (x := (-2 : Int32)) rfl rfl rfl ?_
    exact j_ret rfl rfl rfl (fun _ h => h)
  · refine j_aload_n (pc' := 11) rfl rfl rfl ?_
    refine j_gfr (pc' := 14) (x := 94) rfl rfl j_a75 rfl rfl ?_
    refine j_iload_n (pc' := 15) rfl rfl rfl ?_
    refine j_iald (pc' := 16) rfl rfl j_a94 ?_
    refine j_iconst (pc' := 17) (x := (-1 : Int32)) rfl rfl rfl ?_
    refine j_two (pT := 20) (pF := 23) (L1 := [some (.ref 75), some (.int l1), some (.int l2), some (.long l3), none]) (st1 := []) (fun o kT kF => ?_) (fun h3 => ?_) (fun h3 => ?_)
    · refine j_icne (t := 23) (pc' := 20) rfl rfl rfl (fun h4 => ?_) (fun h4 => ?_)
      · exact kF h4
      · exact kT h4
    · refine j_bipush (pc' := 22) (x := (-6 : Int32)) rfl rfl rfl ?_
      exact j_ret rfl rfl rfl (fun _ h => h)
    · refine j_iload_n (pc' := 24) rfl rfl rfl ?_
      refine j_i2l (pc' := 25) rfl rfl ?_
      refine j_lconst (pc' := 26) (x := (0 : Int64)) rfl rfl rfl ?_
      refine j_aload_n (pc' := 27) rfl rfl rfl ?_
      refine j_gfr (pc' := 30) (x := 94) rfl rfl j_a75 rfl rfl ?_
      refine j_iload_n (pc' := 31) rfl rfl rfl ?_
      refine j_iald (pc' := 32) rfl rfl j_a94 ?_
      refine j_iconst (pc' := 33) (x := (1 : Int32)) rfl rfl rfl ?_
      refine j_isub (pc' := 34) rfl rfl ?_
      refine j_i2l (pc' := 35) rfl rfl ?_
      refine j_callTi (pc' := 38) (ai := 196) (vs := [.long (l2).toInt64, .long (0 : Int64), .long (((σ.1 94 (l1).toNatClampNeg) - (1 : Int32))).toInt64]) (rest := []) rfl rfl (fun _ _ => rfl) (c_X12_in (l2).toInt64 (0 : Int64) (((σ.1 94 (l1).toNatClampNeg) - (1 : Int32))).toInt64 σ) (j_dd rfl hd) rfl ?_
      refine j_two (pT := 41) (pF := 44) (L1 := [some (.ref 75), some (.int l1), some (.int l2), some (.long l3), none]) (st1 := []) (fun o kT kF => ?_) (fun h1 => ?_) (fun h1 => ?_)
      · refine j_ifne (t := 44) (pc' := 41) rfl rfl rfl (fun h2 => ?_) (fun h2 => ?_)
        · exact kF h2
        · exact kT h2
      · refine j_bipush (pc' := 43) (x := (-7 : Int32)) rfl rfl rfl ?_
        exact j_ret rfl rfl rfl (fun _ h => h)
      · refine j_aload_n (pc' := 45) rfl rfl rfl ?_
        refine j_gfr (pc' := 48) (x := 96) rfl rfl j_a75 rfl rfl ?_
        refine j_bipush (pc' := 50) (x := (60 : Int32)) rfl rfl rfl ?_
        refine j_iload_n (pc' := 51) rfl rfl rfl ?_
        refine j_imul (pc' := 52) rfl rfl ?_
        refine j_iload_n (pc' := 53) rfl rfl rfl ?_
        refine j_iadd (pc' := 54) rfl rfl ?_
        refine j_lload_n (pc' := 55) rfl rfl rfl ?_
        refine j_aload_n (pc' := 56) rfl rfl rfl ?_
        refine j_gfr (pc' := 59) (x := 95) rfl rfl j_a75 rfl rfl ?_
        refine j_iload_n (pc' := 60) rfl rfl rfl ?_
        refine j_iald (pc' := 61) rfl rfl j_a95 ?_
        refine j_callTl (pc' := 64) (ai := 352) (vs := [.long l3, .int (σ.1 95 (l1).toNatClampNeg)]) (rest := [.int (((60 : Int32) * l1) + l2), .ref 96]) rfl rfl (fun _ _ => rfl) (c_X12_cut l3 (σ.1 95 (l1).toNatClampNeg) σ) (j_dd rfl hd) rfl ?_
        refine j_last (pc' := 65) rfl rfl j_a96 (fun σ1 => ?_)
        refine j_iconst (pc' := 66) (x := (0 : Int32)) rfl rfl rfl ?_
        exact j_ret rfl rfl rfl (fun _ h => h)

noncomputable def f_X8_hasPart (a0 : Nat) (l1 : Int32) (l2 : Int32) (σ : j_G) : Int32 :=
  if (¬ l1 < 0) ∧ ((¬ l2 < 0) ∧ ((¬ (σ.1 a0 0) < l1) ∧ (¬ ((σ.1 a0 0) - l1) < l2))) then ((1 : Int32)) else ((0 : Int32))

theorem b_X8_hasPart (a0 : Nat) (l1 : Int32) (l2 : Int32) (σ : j_G) : f_X8_hasPart a0 l1 l2 σ = 0 ∨ f_X8_hasPart a0 l1 l2 σ = 1 := by
  unfold f_X8_hasPart
  repeat' split
  all_goals first | exact Or.inl rfl | exact Or.inr rfl
theorem c_X8_hasPart_67 (l1 : Int32) (l2 : Int32) (σ : j_G) : j_K true 0 94 [.ref 67, .int l1, .int l2] σ (some (f_X8_hasPart 67 l1 l2 σ)) (j_Pi σ) := by
  refine j_mkK (M := M_cX8_hasPart) (L := [some (.ref 67), some (.int l1), some (.int l2)]) (m := 0) t_94 rfl (j_rcvO j_a67 rfl) rfl (fun d hd τ => ?_)
  unfold f_X8_hasPart
  refine j_iload_n (pc' := 1) rfl rfl rfl ?_
  refine j_twoT (pT := 26) (pF := 30) (L1 := [some (.ref 67), some (.int l1), some (.int l2)]) (st1 := []) (fun o kT kF => ?_) (fun h1 => ?_) (fun h1 => ?_)
  · refine j_iflt (t := 30) (pc' := 4) rfl rfl rfl (fun h2 => ?_) (fun h2 => ?_)
    · exact kF (fun z => z.1 h2)
    · refine j_iload_n (pc' := 5) rfl rfl rfl ?_
      refine j_iflt (t := 30) (pc' := 8) rfl rfl rfl (fun h3 => ?_) (fun h3 => ?_)
      · exact kF (fun z => (fun z => z.1 h3) z.2)
      · refine j_iload_n (pc' := 9) rfl rfl rfl ?_
        refine j_aload_n (pc' := 10) rfl rfl rfl ?_
        refine j_gfi (pc' := 13) rfl rfl j_a67 rfl ?_
        refine j_icgt (t := 30) (pc' := 16) rfl rfl rfl (fun h4 => ?_) (fun h4 => ?_)
        · exact kF (fun z => (fun z => (fun z => z.1 h4) z.2) z.2)
        · refine j_iload_n (pc' := 17) rfl rfl rfl ?_
          refine j_aload_n (pc' := 18) rfl rfl rfl ?_
          refine j_gfi (pc' := 21) rfl rfl j_a67 rfl ?_
          refine j_iload_n (pc' := 22) rfl rfl rfl ?_
          refine j_isub (pc' := 23) rfl rfl ?_
          refine j_icgt (t := 30) (pc' := 26) rfl rfl rfl (fun h5 => ?_) (fun h5 => ?_)
          · exact kF (fun z => (fun z => (fun z => (fun z => z h5) z.2) z.2) z.2)
          · exact kT (⟨h2, ⟨h3, ⟨h4, h5⟩⟩⟩)
  · refine j_iconst (pc' := 27) (x := (1 : Int32)) rfl rfl rfl ?_
    refine j_goto (t := 31) rfl rfl ?_
    exact j_ret rfl rfl rfl (fun _ h => h)
  · refine j_iconst (pc' := 31) (x := (0 : Int32)) rfl rfl rfl ?_
    exact j_ret rfl rfl rfl (fun _ h => h)

theorem c_X8_hasPart_69 (l1 : Int32) (l2 : Int32) (σ : j_G) : j_K true 0 94 [.ref 69, .int l1, .int l2] σ (some (f_X8_hasPart 69 l1 l2 σ)) (j_Pi σ) := by
  refine j_mkK (M := M_cX8_hasPart) (L := [some (.ref 69), some (.int l1), some (.int l2)]) (m := 0) t_94 rfl (j_rcvO j_a69 rfl) rfl (fun d hd τ => ?_)
  unfold f_X8_hasPart
  refine j_iload_n (pc' := 1) rfl rfl rfl ?_
  refine j_twoT (pT := 26) (pF := 30) (L1 := [some (.ref 69), some (.int l1), some (.int l2)]) (st1 := []) (fun o kT kF => ?_) (fun h1 => ?_) (fun h1 => ?_)
  · refine j_iflt (t := 30) (pc' := 4) rfl rfl rfl (fun h2 => ?_) (fun h2 => ?_)
    · exact kF (fun z => z.1 h2)
    · refine j_iload_n (pc' := 5) rfl rfl rfl ?_
      refine j_iflt (t := 30) (pc' := 8) rfl rfl rfl (fun h3 => ?_) (fun h3 => ?_)
      · exact kF (fun z => (fun z => z.1 h3) z.2)
      · refine j_iload_n (pc' := 9) rfl rfl rfl ?_
        refine j_aload_n (pc' := 10) rfl rfl rfl ?_
        refine j_gfi (pc' := 13) rfl rfl j_a69 rfl ?_
        refine j_icgt (t := 30) (pc' := 16) rfl rfl rfl (fun h4 => ?_) (fun h4 => ?_)
        · exact kF (fun z => (fun z => (fun z => z.1 h4) z.2) z.2)
        · refine j_iload_n (pc' := 17) rfl rfl rfl ?_
          refine j_aload_n (pc' := 18) rfl rfl rfl ?_
          refine j_gfi (pc' := 21) rfl rfl j_a69 rfl ?_
          refine j_iload_n (pc' := 22) rfl rfl rfl ?_
          refine j_isub (pc' := 23) rfl rfl ?_
          refine j_icgt (t := 30) (pc' := 26) rfl rfl rfl (fun h5 => ?_) (fun h5 => ?_)
          · exact kF (fun z => (fun z => (fun z => (fun z => z h5) z.2) z.2) z.2)
          · exact kT (⟨h2, ⟨h3, ⟨h4, h5⟩⟩⟩)
  · refine j_iconst (pc' := 27) (x := (1 : Int32)) rfl rfl rfl ?_
    refine j_goto (t := 31) rfl rfl ?_
    exact j_ret rfl rfl rfl (fun _ h => h)
  · refine j_iconst (pc' := 31) (x := (0 : Int32)) rfl rfl rfl ?_
    exact j_ret rfl rfl rfl (fun _ h => h)

theorem c_X8_hasPart_71 (l1 : Int32) (l2 : Int32) (σ : j_G) : j_K true 0 94 [.ref 71, .int l1, .int l2] σ (some (f_X8_hasPart 71 l1 l2 σ)) (j_Pi σ) := by
  refine j_mkK (M := M_cX8_hasPart) (L := [some (.ref 71), some (.int l1), some (.int l2)]) (m := 0) t_94 rfl (j_rcvO j_a71 rfl) rfl (fun d hd τ => ?_)
  unfold f_X8_hasPart
  refine j_iload_n (pc' := 1) rfl rfl rfl ?_
  refine j_twoT (pT := 26) (pF := 30) (L1 := [some (.ref 71), some (.int l1), some (.int l2)]) (st1 := []) (fun o kT kF => ?_) (fun h1 => ?_) (fun h1 => ?_)
  · refine j_iflt (t := 30) (pc' := 4) rfl rfl rfl (fun h2 => ?_) (fun h2 => ?_)
    · exact kF (fun z => z.1 h2)
    · refine j_iload_n (pc' := 5) rfl rfl rfl ?_
      refine j_iflt (t := 30) (pc' := 8) rfl rfl rfl (fun h3 => ?_) (fun h3 => ?_)
      · exact kF (fun z => (fun z => z.1 h3) z.2)
      · refine j_iload_n (pc' := 9) rfl rfl rfl ?_
        refine j_aload_n (pc' := 10) rfl rfl rfl ?_
        refine j_gfi (pc' := 13) rfl rfl j_a71 rfl ?_
        refine j_icgt (t := 30) (pc' := 16) rfl rfl rfl (fun h4 => ?_) (fun h4 => ?_)
        · exact kF (fun z => (fun z => (fun z => z.1 h4) z.2) z.2)
        · refine j_iload_n (pc' := 17) rfl rfl rfl ?_
          refine j_aload_n (pc' := 18) rfl rfl rfl ?_
          refine j_gfi (pc' := 21) rfl rfl j_a71 rfl ?_
          refine j_iload_n (pc' := 22) rfl rfl rfl ?_
          refine j_isub (pc' := 23) rfl rfl ?_
          refine j_icgt (t := 30) (pc' := 26) rfl rfl rfl (fun h5 => ?_) (fun h5 => ?_)
          · exact kF (fun z => (fun z => (fun z => (fun z => z h5) z.2) z.2) z.2)
          · exact kT (⟨h2, ⟨h3, ⟨h4, h5⟩⟩⟩)
  · refine j_iconst (pc' := 27) (x := (1 : Int32)) rfl rfl rfl ?_
    refine j_goto (t := 31) rfl rfl ?_
    exact j_ret rfl rfl rfl (fun _ h => h)
  · refine j_iconst (pc' := 31) (x := (0 : Int32)) rfl rfl rfl ?_
    exact j_ret rfl rfl rfl (fun _ h => h)

theorem c_X8_hasPart_73 (l1 : Int32) (l2 : Int32) (σ : j_G) : j_K true 0 94 [.ref 73, .int l1, .int l2] σ (some (f_X8_hasPart 73 l1 l2 σ)) (j_Pi σ) := by
  refine j_mkK (M := M_cX8_hasPart) (L := [some (.ref 73), some (.int l1), some (.int l2)]) (m := 0) t_94 rfl (j_rcvO j_a73 rfl) rfl (fun d hd τ => ?_)
  unfold f_X8_hasPart
  refine j_iload_n (pc' := 1) rfl rfl rfl ?_
  refine j_twoT (pT := 26) (pF := 30) (L1 := [some (.ref 73), some (.int l1), some (.int l2)]) (st1 := []) (fun o kT kF => ?_) (fun h1 => ?_) (fun h1 => ?_)
  · refine j_iflt (t := 30) (pc' := 4) rfl rfl rfl (fun h2 => ?_) (fun h2 => ?_)
    · exact kF (fun z => z.1 h2)
    · refine j_iload_n (pc' := 5) rfl rfl rfl ?_
      refine j_iflt (t := 30) (pc' := 8) rfl rfl rfl (fun h3 => ?_) (fun h3 => ?_)
      · exact kF (fun z => (fun z => z.1 h3) z.2)
      · refine j_iload_n (pc' := 9) rfl rfl rfl ?_
        refine j_aload_n (pc' := 10) rfl rfl rfl ?_
        refine j_gfi (pc' := 13) rfl rfl j_a73 rfl ?_
        refine j_icgt (t := 30) (pc' := 16) rfl rfl rfl (fun h4 => ?_) (fun h4 => ?_)
        · exact kF (fun z => (fun z => (fun z => z.1 h4) z.2) z.2)
        · refine j_iload_n (pc' := 17) rfl rfl rfl ?_
          refine j_aload_n (pc' := 18) rfl rfl rfl ?_
          refine j_gfi (pc' := 21) rfl rfl j_a73 rfl ?_
          refine j_iload_n (pc' := 22) rfl rfl rfl ?_
          refine j_isub (pc' := 23) rfl rfl ?_
          refine j_icgt (t := 30) (pc' := 26) rfl rfl rfl (fun h5 => ?_) (fun h5 => ?_)
          · exact kF (fun z => (fun z => (fun z => (fun z => z h5) z.2) z.2) z.2)
          · exact kT (⟨h2, ⟨h3, ⟨h4, h5⟩⟩⟩)
  · refine j_iconst (pc' := 27) (x := (1 : Int32)) rfl rfl rfl ?_
    refine j_goto (t := 31) rfl rfl ?_
    exact j_ret rfl rfl rfl (fun _ h => h)
  · refine j_iconst (pc' := 31) (x := (0 : Int32)) rfl rfl rfl ?_
    exact j_ret rfl rfl rfl (fun _ h => h)

noncomputable def f_X11_paste (l1 : Int32) (l2 : Int32) (l3 : Int32) (l4 : Int32) (l5 : Int32) (σ : j_G) : Option (Int32 × j_G) :=
  if ((f_X11_isSlot l1) = 0) ∨ ((f_X11_isSlot l3) = 0) then (some ((-2 : Int32), σ)) else (if l1 = 0 then (if l3 = 0 then (if ((f_X8_isMade 67 σ) = 0) ∨ ((f_X8_isMade 67 σ) = 0) then (some ((-6 : Int32), σ)) else (if ¬ (σ.1 67 1) = (σ.1 67 1) then (some ((-8 : Int32), σ)) else (if ((f_X8_hasPart 67 l2 l5 σ) = 0) ∨ ((f_X8_hasPart 67 l4 l5 σ) = 0) then (some ((-7 : Int32), σ)) else (j_cg l2 l4 l5 60 60 (
  j_lt (j_cl σ 68 (l2).toNatClampNeg 68 (l4).toNatClampNeg (l5).toNatClampNeg) fun σ1 =>
  some ((0 : Int32), σ1)))))) else
  if l3 = 1 then (if ((f_X8_isMade 67 σ) = 0) ∨ ((f_X8_isMade 69 σ) = 0) then (some ((-6 : Int32), σ)) else (if ¬ (σ.1 67 1) = (σ.1 69 1) then (some ((-8 : Int32), σ)) else (if ((f_X8_hasPart 67 l2 l5 σ) = 0) ∨ ((f_X8_hasPart 69 l4 l5 σ) = 0) then (some ((-7 : Int32), σ)) else (j_cg l2 l4 l5 60 60 (
  j_lt (j_cl σ 68 (l2).toNatClampNeg 70 (l4).toNatClampNeg (l5).toNatClampNeg) fun σ2 =>
  some ((0 : Int32), σ2)))))) else
  if l3 = 2 then (if ((f_X8_isMade 67 σ) = 0) ∨ ((f_X8_isMade 71 σ) = 0) then (some ((-6 : Int32), σ)) else (if ¬ (σ.1 67 1) = (σ.1 71 1) then (some ((-8 : Int32), σ)) else (if ((f_X8_hasPart 67 l2 l5 σ) = 0) ∨ ((f_X8_hasPart 71 l4 l5 σ) = 0) then (some ((-7 : Int32), σ)) else (j_cg l2 l4 l5 60 60 (
  j_lt (j_cl σ 68 (l2).toNatClampNeg 72 (l4).toNatClampNeg (l5).toNatClampNeg) fun σ3 =>
  some ((0 : Int32), σ3)))))) else
  if l3 = 3 then (if ((f_X8_isMade 67 σ) = 0) ∨ ((f_X8_isMade 73 σ) = 0) then (some ((-6 : Int32), σ)) else (if ¬ (σ.1 67 1) = (σ.1 73 1) then (some ((-8 : Int32), σ)) else (if ((f_X8_hasPart 67 l2 l5 σ) = 0) ∨ ((f_X8_hasPart 73 l4 l5 σ) = 0) then (some ((-7 : Int32), σ)) else (j_cg l2 l4 l5 60 60 (
  j_lt (j_cl σ 68 (l2).toNatClampNeg 74 (l4).toNatClampNeg (l5).toNatClampNeg) fun σ4 =>
  some ((0 : Int32), σ4)))))) else
  none) else
  if l1 = 1 then (if l3 = 0 then (if ((f_X8_isMade 69 σ) = 0) ∨ ((f_X8_isMade 67 σ) = 0) then (some ((-6 : Int32), σ)) else (if ¬ (σ.1 69 1) = (σ.1 67 1) then (some ((-8 : Int32), σ)) else (if ((f_X8_hasPart 69 l2 l5 σ) = 0) ∨ ((f_X8_hasPart 67 l4 l5 σ) = 0) then (some ((-7 : Int32), σ)) else (j_cg l2 l4 l5 60 60 (
  j_lt (j_cl σ 70 (l2).toNatClampNeg 68 (l4).toNatClampNeg (l5).toNatClampNeg) fun σ5 =>
  some ((0 : Int32), σ5)))))) else
  if l3 = 1 then (if ((f_X8_isMade 69 σ) = 0) ∨ ((f_X8_isMade 69 σ) = 0) then (some ((-6 : Int32), σ)) else (if ¬ (σ.1 69 1) = (σ.1 69 1) then (some ((-8 : Int32), σ)) else (if ((f_X8_hasPart 69 l2 l5 σ) = 0) ∨ ((f_X8_hasPart 69 l4 l5 σ) = 0) then (some ((-7 : Int32), σ)) else (j_cg l2 l4 l5 60 60 (
  j_lt (j_cl σ 70 (l2).toNatClampNeg 70 (l4).toNatClampNeg (l5).toNatClampNeg) fun σ6 =>
  some ((0 : Int32), σ6)))))) else
  if l3 = 2 then (if ((f_X8_isMade 69 σ) = 0) ∨ ((f_X8_isMade 71 σ) = 0) then (some ((-6 : Int32), σ)) else (if ¬ (σ.1 69 1) = (σ.1 71 1) then (some ((-8 : Int32), σ)) else (if ((f_X8_hasPart 69 l2 l5 σ) = 0) ∨ ((f_X8_hasPart 71 l4 l5 σ) = 0) then (some ((-7 : Int32), σ)) else (j_cg l2 l4 l5 60 60 (
  j_lt (j_cl σ 70 (l2).toNatClampNeg 72 (l4).toNatClampNeg (l5).toNatClampNeg) fun σ7 =>
  some ((0 : Int32), σ7)))))) else
  if l3 = 3 then (if ((f_X8_isMade 69 σ) = 0) ∨ ((f_X8_isMade 73 σ) = 0) then (some ((-6 : Int32), σ)) else (if ¬ (σ.1 69 1) = (σ.1 73 1) then (some ((-8 : Int32), σ)) else (if ((f_X8_hasPart 69 l2 l5 σ) = 0) ∨ ((f_X8_hasPart 73 l4 l5 σ) = 0) then (some ((-7 : Int32), σ)) else (j_cg l2 l4 l5 60 60 (
  j_lt (j_cl σ 70 (l2).toNatClampNeg 74 (l4).toNatClampNeg (l5).toNatClampNeg) fun σ8 =>
  some ((0 : Int32), σ8)))))) else
  none) else
  if l1 = 2 then (if l3 = 0 then (if ((f_X8_isMade 71 σ) = 0) ∨ ((f_X8_isMade 67 σ) = 0) then (some ((-6 : Int32), σ)) else (if ¬ (σ.1 71 1) = (σ.1 67 1) then (some ((-8 : Int32), σ)) else (if ((f_X8_hasPart 71 l2 l5 σ) = 0) ∨ ((f_X8_hasPart 67 l4 l5 σ) = 0) then (some ((-7 : Int32), σ)) else (j_cg l2 l4 l5 60 60 (
  j_lt (j_cl σ 72 (l2).toNatClampNeg 68 (l4).toNatClampNeg (l5).toNatClampNeg) fun σ9 =>
  some ((0 : Int32), σ9)))))) else
  if l3 = 1 then (if ((f_X8_isMade 71 σ) = 0) ∨ ((f_X8_isMade 69 σ) = 0) then (some ((-6 : Int32), σ)) else (if ¬ (σ.1 71 1) = (σ.1 69 1) then (some ((-8 : Int32), σ)) else (if ((f_X8_hasPart 71 l2 l5 σ) = 0) ∨ ((f_X8_hasPart 69 l4 l5 σ) = 0) then (some ((-7 : Int32), σ)) else (j_cg l2 l4 l5 60 60 (
  j_lt (j_cl σ 72 (l2).toNatClampNeg 70 (l4).toNatClampNeg (l5).toNatClampNeg) fun σ10 =>
  some ((0 : Int32), σ10)))))) else
  if l3 = 2 then (if ((f_X8_isMade 71 σ) = 0) ∨ ((f_X8_isMade 71 σ) = 0) then (some ((-6 : Int32), σ)) else (if ¬ (σ.1 71 1) = (σ.1 71 1) then (some ((-8 : Int32), σ)) else (if ((f_X8_hasPart 71 l2 l5 σ) = 0) ∨ ((f_X8_hasPart 71 l4 l5 σ) = 0) then (some ((-7 : Int32), σ)) else (j_cg l2 l4 l5 60 60 (
  j_lt (j_cl σ 72 (l2).toNatClampNeg 72 (l4).toNatClampNeg (l5).toNatClampNeg) fun σ11 =>
  some ((0 : Int32), σ11)))))) else
  if l3 = 3 then (if ((f_X8_isMade 71 σ) = 0) ∨ ((f_X8_isMade 73 σ) = 0) then (some ((-6 : Int32), σ)) else (if ¬ (σ.1 71 1) = (σ.1 73 1) then (some ((-8 : Int32), σ)) else (if ((f_X8_hasPart 71 l2 l5 σ) = 0) ∨ ((f_X8_hasPart 73 l4 l5 σ) = 0) then (some ((-7 : Int32), σ)) else (j_cg l2 l4 l5 60 60 (
  j_lt (j_cl σ 72 (l2).toNatClampNeg 74 (l4).toNatClampNeg (l5).toNatClampNeg) fun σ12 =>
  some ((0 : Int32), σ12)))))) else
  none) else
  if l1 = 3 then (if l3 = 0 then (if ((f_X8_isMade 73 σ) = 0) ∨ ((f_X8_isMade 67 σ) = 0) then (some ((-6 : Int32), σ)) else (if ¬ (σ.1 73 1) = (σ.1 67 1) then (some ((-8 : Int32), σ)) else (if ((f_X8_hasPart 73 l2 l5 σ) = 0) ∨ ((f_X8_hasPart 67 l4 l5 σ) = 0) then (some ((-7 : Int32), σ)) else (j_cg l2 l4 l5 60 60 (
  j_lt (j_cl σ 74 (l2).toNatClampNeg 68 (l4).toNatClampNeg (l5).toNatClampNeg) fun σ13 =>
  some ((0 : Int32), σ13)))))) else
  if l3 = 1 then (if ((f_X8_isMade 73 σ) = 0) ∨ ((f_X8_isMade 69 σ) = 0) then (some ((-6 : Int32), σ)) else (if ¬ (σ.1 73 1) = (σ.1 69 1) then (some ((-8 : Int32), σ)) else (if ((f_X8_hasPart 73 l2 l5 σ) = 0) ∨ ((f_X8_hasPart 69 l4 l5 σ) = 0) then (some ((-7 : Int32), σ)) else (j_cg l2 l4 l5 60 60 (
  j_lt (j_cl σ 74 (l2).toNatClampNeg 70 (l4).toNatClampNeg (l5).toNatClampNeg) fun σ14 =>
  some ((0 : Int32), σ14)))))) else
  if l3 = 2 then (if ((f_X8_isMade 73 σ) = 0) ∨ ((f_X8_isMade 71 σ) = 0) then (some ((-6 : Int32), σ)) else (if ¬ (σ.1 73 1) = (σ.1 71 1) then (some ((-8 : Int32), σ)) else (if ((f_X8_hasPart 73 l2 l5 σ) = 0) ∨ ((f_X8_hasPart 71 l4 l5 σ) = 0) then (some ((-7 : Int32), σ)) else (j_cg l2 l4 l5 60 60 (
  j_lt (j_cl σ 74 (l2).toNatClampNeg 72 (l4).toNatClampNeg (l5).toNatClampNeg) fun σ15 =>
  some ((0 : Int32), σ15)))))) else
  if l3 = 3 then (if ((f_X8_isMade 73 σ) = 0) ∨ ((f_X8_isMade 73 σ) = 0) then (some ((-6 : Int32), σ)) else (if ¬ (σ.1 73 1) = (σ.1 73 1) then (some ((-8 : Int32), σ)) else (if ((f_X8_hasPart 73 l2 l5 σ) = 0) ∨ ((f_X8_hasPart 73 l4 l5 σ) = 0) then (some ((-7 : Int32), σ)) else (j_cg l2 l4 l5 60 60 (
  j_lt (j_cl σ 74 (l2).toNatClampNeg 74 (l4).toNatClampNeg (l5).toNatClampNeg) fun σ16 =>
  some ((0 : Int32), σ16)))))) else
  none) else
  none)
theorem c_X11_paste (l1 : Int32) (l2 : Int32) (l3 : Int32) (l4 : Int32) (l5 : Int32) (σ : j_G) : j_K true 1 181 [.ref 0, .int l1, .int l2, .int l3, .int l4, .int l5] σ (f_X11_paste l1 l2 l3 l4 l5 σ) j_Ri := by
  refine j_mkK (M := M_cX11_paste) (L := [some (.ref 0), some (.int l1), some (.int l2), some (.int l3), some (.int l4), some (.int l5), none, none]) (m := 2) t_181 rfl (j_rcvO j_a0 rfl) rfl (fun d hd τ => ?_)
  unfold f_X11_paste
  refine j_iload_n (pc' := 1) rfl rfl rfl ?_
  refine j_callTi (pc' := 4) (ai := 182) (vs := [.int l1]) (rest := []) rfl rfl (fun _ _ => rfl) (c_X11_isSlot l1 σ) (j_dd rfl hd) rfl ?_
  refine j_two (pT := 14) (pF := 17) (L1 := [some (.ref 0), some (.int l1), some (.int l2), some (.int l3), some (.int l4), some (.int l5), none, none]) (st1 := []) (fun o kT kF => ?_) (fun h149 => ?_) (fun h149 => ?_)
  · refine j_ifeq (t := 14) (pc' := 7) rfl rfl rfl (fun h150 => ?_) (fun h150 => ?_)
    · exact kT (Or.inl h150)
    · refine j_iload_n (pc' := 8) rfl rfl rfl ?_
      refine j_callTi (pc' := 11) (ai := 182) (vs := [.int l3]) (rest := []) rfl rfl (fun _ _ => rfl) (c_X11_isSlot l3 σ) (j_dd rfl hd) rfl ?_
      refine j_ifne (t := 17) (pc' := 14) rfl rfl rfl (fun h151 => ?_) (fun h151 => ?_)
      · exact kF (fun z => z.elim h150 (h151))
      · exact kT (Or.inr (h151))
  · refine j_bipush (pc' := 16) (x := (-2 : Int32)) rfl rfl rfl ?_
    exact j_ret rfl rfl rfl (fun _ h => h)
  · refine j_aload_n (pc' := 18) rfl rfl rfl ?_
    refine j_gfr (pc' := 21) (x := 42) rfl rfl j_a0 rfl rfl ?_
    refine j_iload_n (pc' := 22) rfl rfl rfl ?_
    refine j_spl (k := (0 : Int32)) (fun h1 => ?_) (fun h1 => ?_)
    · subst h1
      refine j_aald (pc' := 23) (r := 67) rfl rfl j_a42 (by decide) rfl ?_
      refine j_astore (pc' := 25) (L' := [some (.ref 0), some (.int (0 : Int32)), some (.int l2), some (.int l3), some (.int l4), some (.int l5), some (.ref 67), none]) rfl rfl rfl ?_
      refine j_aload_n (pc' := 26) rfl rfl rfl ?_
      refine j_gfr (pc' := 29) (x := 42) rfl rfl j_a0 rfl rfl ?_
      refine j_iload_n (pc' := 30) rfl rfl rfl ?_
      refine j_spl (k := (0 : Int32)) (fun h2 => ?_) (fun h2 => ?_)
      · subst h2
        refine j_aald (pc' := 31) (r := 67) rfl rfl j_a42 (by decide) rfl ?_
        refine j_astore (pc' := 33) (L' := [some (.ref 0), some (.int (0 : Int32)), some (.int l2), some (.int (0 : Int32)), some (.int l4), some (.int l5), some (.ref 67), some (.ref 67)]) rfl rfl rfl ?_
        refine j_aload (pc' := 35) rfl rfl rfl ?_
        refine j_callTi (pc' := 38) (ai := 91) (vs := [.ref 67]) (rest := []) rfl rfl (fun _ _ => rfl) (c_X8_isMade_67  σ) (j_dd rfl hd) rfl ?_
        refine j_two (pT := 49) (pF := 52) (L1 := [some (.ref 0), some (.int (0 : Int32)), some (.int l2), some (.int (0 : Int32)), some (.int l4), some (.int l5), some (.ref 67), some (.ref 67)]) (st1 := []) (fun o kT kF => ?_) (fun h8 => ?_) (fun h8 => ?_)
        · refine j_ifeq (t := 49) (pc' := 41) rfl rfl rfl (fun h9 => ?_) (fun h9 => ?_)
          · exact kT (Or.inl h9)
          · refine j_aload (pc' := 43) rfl rfl rfl ?_
            refine j_callTi (pc' := 46) (ai := 91) (vs := [.ref 67]) (rest := []) rfl rfl (fun _ _ => rfl) (c_X8_isMade_67  σ) (j_dd rfl hd) rfl ?_
            refine j_ifne (t := 52) (pc' := 49) rfl rfl rfl (fun h10 => ?_) (fun h10 => ?_)
            · exact kF (fun z => z.elim h9 (h10))
            · exact kT (Or.inr (h10))
        · refine j_bipush (pc' := 51) (x := (-6 : Int32)) rfl rfl rfl ?_
          exact j_ret rfl rfl rfl (fun _ h => h)
        · refine j_aload (pc' := 54) rfl rfl rfl ?_
          refine j_gfi (pc' := 57) rfl rfl j_a67 rfl ?_
          refine j_aload (pc' := 59) rfl rfl rfl ?_
          refine j_gfi (pc' := 62) rfl rfl j_a67 rfl ?_
          refine j_two (pT := 65) (pF := 68) (L1 := [some (.ref 0), some (.int (0 : Int32)), some (.int l2), some (.int (0 : Int32)), some (.int l4), some (.int l5), some (.ref 67), some (.ref 67)]) (st1 := []) (fun o kT kF => ?_) (fun h6 => ?_) (fun h6 => ?_)
          · refine j_iceq (t := 68) (pc' := 65) rfl rfl rfl (fun h7 => ?_) (fun h7 => ?_)
            · exact kF (fun z => z h7)
            · exact kT h7
          · refine j_bipush (pc' := 67) (x := (-8 : Int32)) rfl rfl rfl ?_
            exact j_ret rfl rfl rfl (fun _ h => h)
          · refine j_aload (pc' := 70) rfl rfl rfl ?_
            refine j_iload_n (pc' := 71) rfl rfl rfl ?_
            refine j_iload (pc' := 73) rfl rfl rfl ?_
            refine j_callTi (pc' := 76) (ai := 94) (vs := [.ref 67, .int l2, .int l5]) (rest := []) rfl rfl (fun _ _ => rfl) (c_X8_hasPart_67 l2 l5 σ) (j_dd rfl hd) rfl ?_
            refine j_two (pT := 91) (pF := 94) (L1 := [some (.ref 0), some (.int (0 : Int32)), some (.int l2), some (.int (0 : Int32)), some (.int l4), some (.int l5), some (.ref 67), some (.ref 67)]) (st1 := []) (fun o kT kF => ?_) (fun h3 => ?_) (fun h3 => ?_)
            · refine j_ifeq (t := 91) (pc' := 79) rfl rfl rfl (fun h4 => ?_) (fun h4 => ?_)
              · exact kT (Or.inl h4)
              · refine j_aload (pc' := 81) rfl rfl rfl ?_
                refine j_iload (pc' := 83) rfl rfl rfl ?_
                refine j_iload (pc' := 85) rfl rfl rfl ?_
                refine j_callTi (pc' := 88) (ai := 94) (vs := [.ref 67, .int l4, .int l5]) (rest := []) rfl rfl (fun _ _ => rfl) (c_X8_hasPart_67 l4 l5 σ) (j_dd rfl hd) rfl ?_
                refine j_ifne (t := 94) (pc' := 91) rfl rfl rfl (fun h5 => ?_) (fun h5 => ?_)
                · exact kF (fun z => z.elim h4 (h5))
                · exact kT (Or.inr (h5))
            · refine j_bipush (pc' := 93) (x := (-7 : Int32)) rfl rfl rfl ?_
              exact j_ret rfl rfl rfl (fun _ h => h)
            · refine j_aload (pc' := 96) rfl rfl rfl ?_
              refine j_gfr (pc' := 99) (x := 68) rfl rfl j_a67 rfl rfl ?_
              refine j_iload_n (pc' := 100) rfl rfl rfl ?_
              refine j_aload (pc' := 102) rfl rfl rfl ?_
              refine j_gfr (pc' := 105) (x := 68) rfl rfl j_a67 rfl rfl ?_
              refine j_iload (pc' := 107) rfl rfl rfl ?_
              refine j_iload (pc' := 109) rfl rfl rfl ?_
              refine j_cpl (pc' := 112) rfl rfl rfl j_a68 j_a68 (fun σ1 => ?_)
              refine j_iconst (pc' := 113) (x := (0 : Int32)) rfl rfl rfl ?_
              exact j_ret rfl rfl rfl (fun _ h => h)
      refine j_spl (k := (1 : Int32)) (fun h11 => ?_) (fun h11 => ?_)
      · subst h11
        refine j_aald (pc' := 31) (r := 69) rfl rfl j_a42 (by decide) rfl ?_
        refine j_astore (pc' := 33) (L' := [some (.ref 0), some (.int (0 : Int32)), some (.int l2), some (.int (1 : Int32)), some (.int l4), some (.int l5), some (.ref 67), some (.ref 69)]) rfl rfl rfl ?_
        refine j_aload (pc' := 35) rfl rfl rfl ?_
        refine j_callTi (pc' := 38) (ai := 91) (vs := [.ref 67]) (rest := []) rfl rfl (fun _ _ => rfl) (c_X8_isMade_67  σ) (j_dd rfl hd) rfl ?_
        refine j_two (pT := 49) (pF := 52) (L1 := [some (.ref 0), some (.int (0 : Int32)), some (.int l2), some (.int (1 : Int32)), some (.int l4), some (.int l5), some (.ref 67), some (.ref 69)]) (st1 := []) (fun o kT kF => ?_) (fun h17 => ?_) (fun h17 => ?_)
        · refine j_ifeq (t := 49) (pc' := 41) rfl rfl rfl (fun h18 => ?_) (fun h18 => ?_)
          · exact kT (Or.inl h18)
          · refine j_aload (pc' := 43) rfl rfl rfl ?_
            refine j_callTi (pc' := 46) (ai := 91) (vs := [.ref 69]) (rest := []) rfl rfl (fun _ _ => rfl) (c_X8_isMade_69  σ) (j_dd rfl hd) rfl ?_
            refine j_ifne (t := 52) (pc' := 49) rfl rfl rfl (fun h19 => ?_) (fun h19 => ?_)
            · exact kF (fun z => z.elim h18 (h19))
            · exact kT (Or.inr (h19))
        · refine j_bipush (pc' := 51) (x := (-6 : Int32)) rfl rfl rfl ?_
          exact j_ret rfl rfl rfl (fun _ h => h)
        · refine j_aload (pc' := 54) rfl rfl rfl ?_
          refine j_gfi (pc' := 57) rfl rfl j_a67 rfl ?_
          refine j_aload (pc' := 59) rfl rfl rfl ?_
          refine j_gfi (pc' := 62) rfl rfl j_a69 rfl ?_
          refine j_two (pT := 65) (pF := 68) (L1 := [some (.ref 0), some (.int (0 : Int32)), some (.int l2), some (.int (1 : Int32)), some (.int l4), some (.int l5), some (.ref 67), some (.ref 69)]) (st1 := []) (fun o kT kF => ?_) (fun h15 => ?_) (fun h15 => ?_)
          · refine j_iceq (t := 68) (pc' := 65) rfl rfl rfl (fun h16 => ?_) (fun h16 => ?_)
            · exact kF (fun z => z h16)
            · exact kT h16
          · refine j_bipush (pc' := 67) (x := (-8 : Int32)) rfl rfl rfl ?_
            exact j_ret rfl rfl rfl (fun _ h => h)
          · refine j_aload (pc' := 70) rfl rfl rfl ?_
            refine j_iload_n (pc' := 71) rfl rfl rfl ?_
            refine j_iload (pc' := 73) rfl rfl rfl ?_
            refine j_callTi (pc' := 76) (ai := 94) (vs := [.ref 67, .int l2, .int l5]) (rest := []) rfl rfl (fun _ _ => rfl) (c_X8_hasPart_67 l2 l5 σ) (j_dd rfl hd) rfl ?_
            refine j_two (pT := 91) (pF := 94) (L1 := [some (.ref 0), some (.int (0 : Int32)), some (.int l2), some (.int (1 : Int32)), some (.int l4), some (.int l5), some (.ref 67), some (.ref 69)]) (st1 := []) (fun o kT kF => ?_) (fun h12 => ?_) (fun h12 => ?_)
            · refine j_ifeq (t := 91) (pc' := 79) rfl rfl rfl (fun h13 => ?_) (fun h13 => ?_)
              · exact kT (Or.inl h13)
              · refine j_aload (pc' := 81) rfl rfl rfl ?_
                refine j_iload (pc' := 83) rfl rfl rfl ?_
                refine j_iload (pc' := 85) rfl rfl rfl ?_
                refine j_callTi (pc' := 88) (ai := 94) (vs := [.ref 69, .int l4, .int l5]) (rest := []) rfl rfl (fun _ _ => rfl) (c_X8_hasPart_69 l4 l5 σ) (j_dd rfl hd) rfl ?_
                refine j_ifne (t := 94) (pc' := 91) rfl rfl rfl (fun h14 => ?_) (fun h14 => ?_)
                · exact kF (fun z => z.elim h13 (h14))
                · exact kT (Or.inr (h14))
            · refine j_bipush (pc' := 93) (x := (-7 : Int32)) rfl rfl rfl ?_
              exact j_ret rfl rfl rfl (fun _ h => h)
            · refine j_aload (pc' := 96) rfl rfl rfl ?_
              refine j_gfr (pc' := 99) (x := 68) rfl rfl j_a67 rfl rfl ?_
              refine j_iload_n (pc' := 100) rfl rfl rfl ?_
              refine j_aload (pc' := 102) rfl rfl rfl ?_
              refine j_gfr (pc' := 105) (x := 70) rfl rfl j_a69 rfl rfl ?_
              refine j_iload (pc' := 107) rfl rfl rfl ?_
              refine j_iload (pc' := 109) rfl rfl rfl ?_
              refine j_cpl (pc' := 112) rfl rfl rfl j_a68 j_a70 (fun σ2 => ?_)
              refine j_iconst (pc' := 113) (x := (0 : Int32)) rfl rfl rfl ?_
              exact j_ret rfl rfl rfl (fun _ h => h)
      refine j_spl (k := (2 : Int32)) (fun h20 => ?_) (fun h20 => ?_)
      · subst h20
        refine j_aald (pc' := 31) (r := 71) rfl rfl j_a42 (by decide) rfl ?_
        refine j_astore (pc' := 33) (L' := [some (.ref 0), some (.int (0 : Int32)), some (.int l2), some (.int (2 : Int32)), some (.int l4), some (.int l5), some (.ref 67), some (.ref 71)]) rfl rfl rfl ?_
        refine j_aload (pc' := 35) rfl rfl rfl ?_
        refine j_callTi (pc' := 38) (ai := 91) (vs := [.ref 67]) (rest := []) rfl rfl (fun _ _ => rfl) (c_X8_isMade_67  σ) (j_dd rfl hd) rfl ?_
        refine j_two (pT := 49) (pF := 52) (L1 := [some (.ref 0), some (.int (0 : Int32)), some (.int l2), some (.int (2 : Int32)), some (.int l4), some (.int l5), some (.ref 67), some (.ref 71)]) (st1 := []) (fun o kT kF => ?_) (fun h26 => ?_) (fun h26 => ?_)
        · refine j_ifeq (t := 49) (pc' := 41) rfl rfl rfl (fun h27 => ?_) (fun h27 => ?_)
          · exact kT (Or.inl h27)
          · refine j_aload (pc' := 43) rfl rfl rfl ?_
            refine j_callTi (pc' := 46) (ai := 91) (vs := [.ref 71]) (rest := []) rfl rfl (fun _ _ => rfl) (c_X8_isMade_71  σ) (j_dd rfl hd) rfl ?_
            refine j_ifne (t := 52) (pc' := 49) rfl rfl rfl (fun h28 => ?_) (fun h28 => ?_)
            · exact kF (fun z => z.elim h27 (h28))
            · exact kT (Or.inr (h28))
        · refine j_bipush (pc' := 51) (x := (-6 : Int32)) rfl rfl rfl ?_
          exact j_ret rfl rfl rfl (fun _ h => h)
        · refine j_aload (pc' := 54) rfl rfl rfl ?_
          refine j_gfi (pc' := 57) rfl rfl j_a67 rfl ?_
          refine j_aload (pc' := 59) rfl rfl rfl ?_
          refine j_gfi (pc' := 62) rfl rfl j_a71 rfl ?_
          refine j_two (pT := 65) (pF := 68) (L1 := [some (.ref 0), some (.int (0 : Int32)), some (.int l2), some (.int (2 : Int32)), some (.int l4), some (.int l5), some (.ref 67), some (.ref 71)]) (st1 := []) (fun o kT kF => ?_) (fun h24 => ?_) (fun h24 => ?_)
          · refine j_iceq (t := 68) (pc' := 65) rfl rfl rfl (fun h25 => ?_) (fun h25 => ?_)
            · exact kF (fun z => z h25)
            · exact kT h25
          · refine j_bipush (pc' := 67) (x := (-8 : Int32)) rfl rfl rfl ?_
            exact j_ret rfl rfl rfl (fun _ h => h)
          · refine j_aload (pc' := 70) rfl rfl rfl ?_
            refine j_iload_n (pc' := 71) rfl rfl rfl ?_
            refine j_iload (pc' := 73) rfl rfl rfl ?_
            refine j_callTi (pc' := 76) (ai := 94) (vs := [.ref 67, .int l2, .int l5]) (rest := []) rfl rfl (fun _ _ => rfl) (c_X8_hasPart_67 l2 l5 σ) (j_dd rfl hd) rfl ?_
            refine j_two (pT := 91) (pF := 94) (L1 := [some (.ref 0), some (.int (0 : Int32)), some (.int l2), some (.int (2 : Int32)), some (.int l4), some (.int l5), some (.ref 67), some (.ref 71)]) (st1 := []) (fun o kT kF => ?_) (fun h21 => ?_) (fun h21 => ?_)
            · refine j_ifeq (t := 91) (pc' := 79) rfl rfl rfl (fun h22 => ?_) (fun h22 => ?_)
              · exact kT (Or.inl h22)
              · refine j_aload (pc' := 81) rfl rfl rfl ?_
                refine j_iload (pc' := 83) rfl rfl rfl ?_
                refine j_iload (pc' := 85) rfl rfl rfl ?_
                refine j_callTi (pc' := 88) (ai := 94) (vs := [.ref 71, .int l4, .int l5]) (rest := []) rfl rfl (fun _ _ => rfl) (c_X8_hasPart_71 l4 l5 σ) (j_dd rfl hd) rfl ?_
                refine j_ifne (t := 94) (pc' := 91) rfl rfl rfl (fun h23 => ?_) (fun h23 => ?_)
                · exact kF (fun z => z.elim h22 (h23))
                · exact kT (Or.inr (h23))
            · refine j_bipush (pc' := 93) (x := (-7 : Int32)) rfl rfl rfl ?_
              exact j_ret rfl rfl rfl (fun _ h => h)
            · refine j_aload (pc' := 96) rfl rfl rfl ?_
              refine j_gfr (pc' := 99) (x := 68) rfl rfl j_a67 rfl rfl ?_
              refine j_iload_n (pc' := 100) rfl rfl rfl ?_
              refine j_aload (pc' := 102) rfl rfl rfl ?_
              refine j_gfr (pc' := 105) (x := 72) rfl rfl j_a71 rfl rfl ?_
              refine j_iload (pc' := 107) rfl rfl rfl ?_
              refine j_iload (pc' := 109) rfl rfl rfl ?_
              refine j_cpl (pc' := 112) rfl rfl rfl j_a68 j_a72 (fun σ3 => ?_)
              refine j_iconst (pc' := 113) (x := (0 : Int32)) rfl rfl rfl ?_
              exact j_ret rfl rfl rfl (fun _ h => h)
      refine j_spl (k := (3 : Int32)) (fun h29 => ?_) (fun h29 => ?_)
      · subst h29
        refine j_aald (pc' := 31) (r := 73) rfl rfl j_a42 (by decide) rfl ?_
        refine j_astore (pc' := 33) (L' := [some (.ref 0), some (.int (0 : Int32)), some (.int l2), some (.int (3 : Int32)), some (.int l4), some (.int l5), some (.ref 67), some (.ref 73)]) rfl rfl rfl ?_
        refine j_aload (pc' := 35) rfl rfl rfl ?_
        refine j_callTi (pc' := 38) (ai := 91) (vs := [.ref 67]) (rest := []) rfl rfl (fun _ _ => rfl) (c_X8_isMade_67  σ) (j_dd rfl hd) rfl ?_
        refine j_two (pT := 49) (pF := 52) (L1 := [some (.ref 0), some (.int (0 : Int32)), some (.int l2), some (.int (3 : Int32)), some (.int l4), some (.int l5), some (.ref 67), some (.ref 73)]) (st1 := []) (fun o kT kF => ?_) (fun h35 => ?_) (fun h35 => ?_)
        · refine j_ifeq (t := 49) (pc' := 41) rfl rfl rfl (fun h36 => ?_) (fun h36 => ?_)
          · exact kT (Or.inl h36)
          · refine j_aload (pc' := 43) rfl rfl rfl ?_
            refine j_callTi (pc' := 46) (ai := 91) (vs := [.ref 73]) (rest := []) rfl rfl (fun _ _ => rfl) (c_X8_isMade_73  σ) (j_dd rfl hd) rfl ?_
            refine j_ifne (t := 52) (pc' := 49) rfl rfl rfl (fun h37 => ?_) (fun h37 => ?_)
            · exact kF (fun z => z.elim h36 (h37))
            · exact kT (Or.inr (h37))
        · refine j_bipush (pc' := 51) (x := (-6 : Int32)) rfl rfl rfl ?_
          exact j_ret rfl rfl rfl (fun _ h => h)
        · refine j_aload (pc' := 54) rfl rfl rfl ?_
          refine j_gfi (pc' := 57) rfl rfl j_a67 rfl ?_
          refine j_aload (pc' := 59) rfl rfl rfl ?_
          refine j_gfi (pc' := 62) rfl rfl j_a73 rfl ?_
          refine j_two (pT := 65) (pF := 68) (L1 := [some (.ref 0), some (.int (0 : Int32)), some (.int l2), some (.int (3 : Int32)), some (.int l4), some (.int l5), some (.ref 67), some (.ref 73)]) (st1 := []) (fun o kT kF => ?_) (fun h33 => ?_) (fun h33 => ?_)
          · refine j_iceq (t := 68) (pc' := 65) rfl rfl rfl (fun h34 => ?_) (fun h34 => ?_)
            · exact kF (fun z => z h34)
            · exact kT h34
          · refine j_bipush (pc' := 67) (x := (-8 : Int32)) rfl rfl rfl ?_
            exact j_ret rfl rfl rfl (fun _ h => h)
          · refine j_aload (pc' := 70) rfl rfl rfl ?_
            refine j_iload_n (pc' := 71) rfl rfl rfl ?_
            refine j_iload (pc' := 73) rfl rfl rfl ?_
            refine j_callTi (pc' := 76) (ai := 94) (vs := [.ref 67, .int l2, .int l5]) (rest := []) rfl rfl (fun _ _ => rfl) (c_X8_hasPart_67 l2 l5 σ) (j_dd rfl hd) rfl ?_
            refine j_two (pT := 91) (pF := 94) (L1 := [some (.ref 0), some (.int (0 : Int32)), some (.int l2), some (.int (3 : Int32)), some (.int l4), some (.int l5), some (.ref 67), some (.ref 73)]) (st1 := []) (fun o kT kF => ?_) (fun h30 => ?_) (fun h30 => ?_)
            · refine j_ifeq (t := 91) (pc' := 79) rfl rfl rfl (fun h31 => ?_) (fun h31 => ?_)
              · exact kT (Or.inl h31)
              · refine j_aload (pc' := 81) rfl rfl rfl ?_
                refine j_iload (pc' := 83) rfl rfl rfl ?_
                refine j_iload (pc' := 85) rfl rfl rfl ?_
                refine j_callTi (pc' := 88) (ai := 94) (vs := [.ref 73, .int l4, .int l5]) (rest := []) rfl rfl (fun _ _ => rfl) (c_X8_hasPart_73 l4 l5 σ) (j_dd rfl hd) rfl ?_
                refine j_ifne (t := 94) (pc' := 91) rfl rfl rfl (fun h32 => ?_) (fun h32 => ?_)
                · exact kF (fun z => z.elim h31 (h32))
                · exact kT (Or.inr (h32))
            · refine j_bipush (pc' := 93) (x := (-7 : Int32)) rfl rfl rfl ?_
              exact j_ret rfl rfl rfl (fun _ h => h)
            · refine j_aload (pc' := 96) rfl rfl rfl ?_
              refine j_gfr (pc' := 99) (x := 68) rfl rfl j_a67 rfl rfl ?_
              refine j_iload_n (pc' := 100) rfl rfl rfl ?_
              refine j_aload (pc' := 102) rfl rfl rfl ?_
              refine j_gfr (pc' := 105) (x := 74) rfl rfl j_a73 rfl rfl ?_
              refine j_iload (pc' := 107) rfl rfl rfl ?_
              refine j_iload (pc' := 109) rfl rfl rfl ?_
              refine j_cpl (pc' := 112) rfl rfl rfl j_a68 j_a74 (fun σ4 => ?_)
              refine j_iconst (pc' := 113) (x := (0 : Int32)) rfl rfl rfl ?_
              exact j_ret rfl rfl rfl (fun _ h => h)
      exact j_none
    refine j_spl (k := (1 : Int32)) (fun h38 => ?_) (fun h38 => ?_)
    · subst h38
      refine j_aald (pc' := 23) (r := 69) rfl rfl j_a42 (by decide) rfl ?_
      refine j_astore (pc' := 25) (L' := [some (.ref 0), some (.int (1 : Int32)), some (.int l2), some (.int l3), some (.int l4), some (.int l5), some (.ref 69), none]) rfl rfl rfl ?_
      refine j_aload_n (pc' := 26) rfl rfl rfl ?_
      refine j_gfr (pc' := 29) (x := 42) rfl rfl j_a0 rfl rfl ?_
      refine j_iload_n (pc' := 30) rfl rfl rfl ?_
      refine j_spl (k := (0 : Int32)) (fun h39 => ?_) (fun h39 => ?_)
      · subst h39
        refine j_aald (pc' := 31) (r := 67) rfl rfl j_a42 (by decide) rfl ?_
        refine j_astore (pc' := 33) (L' := [some (.ref 0), some (.int (1 : Int32)), some (.int l2), some (.int (0 : Int32)), some (.int l4), some (.int l5), some (.ref 69), some (.ref 67)]) rfl rfl rfl ?_
        refine j_aload (pc' := 35) rfl rfl rfl ?_
        refine j_callTi (pc' := 38) (ai := 91) (vs := [.ref 69]) (rest := []) rfl rfl (fun _ _ => rfl) (c_X8_isMade_69  σ) (j_dd rfl hd) rfl ?_
        refine j_two (pT := 49) (pF := 52) (L1 := [some (.ref 0), some (.int (1 : Int32)), some (.int l2), some (.int (0 : Int32)), some (.int l4), some (.int l5), some (.ref 69), some (.ref 67)]) (st1 := []) (fun o kT kF => ?_) (fun h45 => ?_) (fun h45 => ?_)
        · refine j_ifeq (t := 49) (pc' := 41) rfl rfl rfl (fun h46 => ?_) (fun h46 => ?_)
          · exact kT (Or.inl h46)
          · refine j_aload (pc' := 43) rfl rfl rfl ?_
            refine j_callTi (pc' := 46) (ai := 91) (vs := [.ref 67]) (rest := []) rfl rfl (fun _ _ => rfl) (c_X8_isMade_67  σ) (j_dd rfl hd) rfl ?_
            refine j_ifne (t := 52) (pc' := 49) rfl rfl rfl (fun h47 => ?_) (fun h47 => ?_)
            · exact kF (fun z => z.elim h46 (h47))
            · exact kT (Or.inr (h47))
        · refine j_bipush (pc' := 51) (x := (-6 : Int32)) rfl rfl rfl ?_
          exact j_ret rfl rfl rfl (fun _ h => h)
        · refine j_aload (pc' := 54) rfl rfl rfl ?_
          refine j_gfi (pc' := 57) rfl rfl j_a69 rfl ?_
          refine j_aload (pc' := 59) rfl rfl rfl ?_
          refine j_gfi (pc' := 62) rfl rfl j_a67 rfl ?_
          refine j_two (pT := 65) (pF := 68) (L1 := [some (.ref 0), some (.int (1 : Int32)), some (.int l2), some (.int (0 : Int32)), some (.int l4), some (.int l5), some (.ref 69), some (.ref 67)]) (st1 := []) (fun o kT kF => ?_) (fun h43 => ?_) (fun h43 => ?_)
          · refine j_iceq (t := 68) (pc' := 65) rfl rfl rfl (fun h44 => ?_) (fun h44 => ?_)
            · exact kF (fun z => z h44)
            · exact kT h44
          · refine j_bipush (pc' := 67) (x := (-8 : Int32)) rfl rfl rfl ?_
            exact j_ret rfl rfl rfl (fun _ h => h)
          · refine j_aload (pc' := 70) rfl rfl rfl ?_
            refine j_iload_n (pc' := 71) rfl rfl rfl ?_
            refine j_iload (pc' := 73) rfl rfl rfl ?_
            refine j_callTi (pc' := 76) (ai := 94) (vs := [.ref 69, .int l2, .int l5]) (rest := []) rfl rfl (fun _ _ => rfl) (c_X8_hasPart_69 l2 l5 σ) (j_dd rfl hd) rfl ?_
            refine j_two (pT := 91) (pF := 94) (L1 := [some (.ref 0), some (.int (1 : Int32)), some (.int l2), some (.int (0 : Int32)), some (.int l4), some (.int l5), some (.ref 69), some (.ref 67)]) (st1 := []) (fun o kT kF => ?_) (fun h40 => ?_) (fun h40 => ?_)
            · refine j_ifeq (t := 91) (pc' := 79) rfl rfl rfl (fun h41 => ?_) (fun h41 => ?_)
              · exact kT (Or.inl h41)
              · refine j_aload (pc' := 81) rfl rfl rfl ?_
                refine j_iload (pc' := 83) rfl rfl rfl ?_
                refine j_iload (pc' := 85) rfl rfl rfl ?_
                refine j_callTi (pc' := 88) (ai := 94) (vs := [.ref 67, .int l4, .int l5]) (rest := []) rfl rfl (fun _ _ => rfl) (c_X8_hasPart_67 l4 l5 σ) (j_dd rfl hd) rfl ?_
                refine j_ifne (t := 94) (pc' := 91) rfl rfl rfl (fun h42 => ?_) (fun h42 => ?_)
                · exact kF (fun z => z.elim h41 (h42))
                · exact kT (Or.inr (h42))
            · refine j_bipush (pc' := 93) (x := (-7 : Int32)) rfl rfl rfl ?_
              exact j_ret rfl rfl rfl (fun _ h => h)
            · refine j_aload (pc' := 96) rfl rfl rfl ?_
              refine j_gfr (pc' := 99) (x := 70) rfl rfl j_a69 rfl rfl ?_
              refine j_iload_n (pc' := 100) rfl rfl rfl ?_
              refine j_aload (pc' := 102) rfl rfl rfl ?_
              refine j_gfr (pc' := 105) (x := 68) rfl rfl j_a67 rfl rfl ?_
              refine j_iload (pc' := 107) rfl rfl rfl ?_
              refine j_iload (pc' := 109) rfl rfl rfl ?_
              refine j_cpl (pc' := 112) rfl rfl rfl j_a70 j_a68 (fun σ5 => ?_)
              refine j_iconst (pc' := 113) (x := (0 : Int32)) rfl rfl rfl ?_
              exact j_ret rfl rfl rfl (fun _ h => h)
      refine j_spl (k := (1 : Int32)) (fun h48 => ?_) (fun h48 => ?_)
      · subst h48
        refine j_aald (pc' := 31) (r := 69) rfl rfl j_a42 (by decide) rfl ?_
        refine j_astore (pc' := 33) (L' := [some (.ref 0), some (.int (1 : Int32)), some (.int l2), some (.int (1 : Int32)), some (.int l4), some (.int l5), some (.ref 69), some (.ref 69)]) rfl rfl rfl ?_
        refine j_aload (pc' := 35) rfl rfl rfl ?_
        refine j_callTi (pc' := 38) (ai := 91) (vs := [.ref 69]) (rest := []) rfl rfl (fun _ _ => rfl) (c_X8_isMade_69  σ) (j_dd rfl hd) rfl ?_
        refine j_two (pT := 49) (pF := 52) (L1 := [some (.ref 0), some (.int (1 : Int32)), some (.int l2), some (.int (1 : Int32)), some (.int l4), some (.int l5), some (.ref 69), some (.ref 69)]) (st1 := []) (fun o kT kF => ?_) (fun h54 => ?_) (fun h54 => ?_)
        · refine j_ifeq (t := 49) (pc' := 41) rfl rfl rfl (fun h55 => ?_) (fun h55 => ?_)
          · exact kT (Or.inl h55)
          · refine j_aload (pc' := 43) rfl rfl rfl ?_
            refine j_callTi (pc' := 46) (ai := 91) (vs := [.ref 69]) (rest := []) rfl rfl (fun _ _ => rfl) (c_X8_isMade_69  σ) (j_dd rfl hd) rfl ?_
            refine j_ifne (t := 52) (pc' := 49) rfl rfl rfl (fun h56 => ?_) (fun h56 => ?_)
            · exact kF (fun z => z.elim h55 (h56))
            · exact kT (Or.inr (h56))
        · refine j_bipush (pc' := 51) (x := (-6 : Int32)) rfl rfl rfl ?_
          exact j_ret rfl rfl rfl (fun _ h => h)
        · refine j_aload (pc' := 54) rfl rfl rfl ?_
          refine j_gfi (pc' := 57) rfl rfl j_a69 rfl ?_
          refine j_aload (pc' := 59) rfl rfl rfl ?_
          refine j_gfi (pc' := 62) rfl rfl j_a69 rfl ?_
          refine j_two (pT := 65) (pF := 68) (L1 := [some (.ref 0), some (.int (1 : Int32)), some (.int l2), some (.int (1 : Int32)), some (.int l4), some (.int l5), some (.ref 69), some (.ref 69)]) (st1 := []) (fun o kT kF => ?_) (fun h52 => ?_) (fun h52 => ?_)
          · refine j_iceq (t := 68) (pc' := 65) rfl rfl rfl (fun h53 => ?_) (fun h53 => ?_)
            · exact kF (fun z => z h53)
            · exact kT h53
          · refine j_bipush (pc' := 67) (x := (-8 : Int32)) rfl rfl rfl ?_
            exact j_ret rfl rfl rfl (fun _ h => h)
          · refine j_aload (pc' := 70) rfl rfl rfl ?_
            refine j_iload_n (pc' := 71) rfl rfl rfl ?_
            refine j_iload (pc' := 73) rfl rfl rfl ?_
            refine j_callTi (pc' := 76) (ai := 94) (vs := [.ref 69, .int l2, .int l5]) (rest := []) rfl rfl (fun _ _ => rfl) (c_X8_hasPart_69 l2 l5 σ) (j_dd rfl hd) rfl ?_
            refine j_two (pT := 91) (pF := 94) (L1 := [some (.ref 0), some (.int (1 : Int32)), some (.int l2), some (.int (1 : Int32)), some (.int l4), some (.int l5), some (.ref 69), some (.ref 69)]) (st1 := []) (fun o kT kF => ?_) (fun h49 => ?_) (fun h49 => ?_)
            · refine j_ifeq (t := 91) (pc' := 79) rfl rfl rfl (fun h50 => ?_) (fun h50 => ?_)
              · exact kT (Or.inl h50)
              · refine j_aload (pc' := 81) rfl rfl rfl ?_
                refine j_iload (pc' := 83) rfl rfl rfl ?_
                refine j_iload (pc' := 85) rfl rfl rfl ?_
                refine j_callTi (pc' := 88) (ai := 94) (vs := [.ref 69, .int l4, .int l5]) (rest := []) rfl rfl (fun _ _ => rfl) (c_X8_hasPart_69 l4 l5 σ) (j_dd rfl hd) rfl ?_
                refine j_ifne (t := 94) (pc' := 91) rfl rfl rfl (fun h51 => ?_) (fun h51 => ?_)
                · exact kF (fun z => z.elim h50 (h51))
                · exact kT (Or.inr (h51))
            · refine j_bipush (pc' := 93) (x := (-7 : Int32)) rfl rfl rfl ?_
              exact j_ret rfl rfl rfl (fun _ h => h)
            · refine j_aload (pc' := 96) rfl rfl rfl ?_
              refine j_gfr (pc' := 99) (x := 70) rfl rfl j_a69 rfl rfl ?_
              refine j_iload_n (pc' := 100) rfl rfl rfl ?_
              refine j_aload (pc' := 102) rfl rfl rfl ?_
              refine j_gfr (pc' := 105) (x := 70) rfl rfl j_a69 rfl rfl ?_
              refine j_iload (pc' := 107) rfl rfl rfl ?_
              refine j_iload (pc' := 109) rfl rfl rfl ?_
              refine j_cpl (pc' := 112) rfl rfl rfl j_a70 j_a70 (fun σ6 => ?_)
              refine j_iconst (pc' := 113) (x := (0 : Int32)) rfl rfl rfl ?_
              exact j_ret rfl rfl rfl (fun _ h => h)
      refine j_spl (k := (2 : Int32)) (fun h57 => ?_) (fun h57 => ?_)
      · subst h57
        refine j_aald (pc' := 31) (r := 71) rfl rfl j_a42 (by decide) rfl ?_
        refine j_astore (pc' := 33) (L' := [some (.ref 0), some (.int (1 : Int32)), some (.int l2), some (.int (2 : Int32)), some (.int l4), some (.int l5), some (.ref 69), some (.ref 71)]) rfl rfl rfl ?_
        refine j_aload (pc' := 35) rfl rfl rfl ?_
        refine j_callTi (pc' := 38) (ai := 91) (vs := [.ref 69]) (rest := []) rfl rfl (fun _ _ => rfl) (c_X8_isMade_69  σ) (j_dd rfl hd) rfl ?_
        refine j_two (pT := 49) (pF := 52) (L1 := [some (.ref 0), some (.int (1 : Int32)), some (.int l2), some (.int (2 : Int32)), some (.int l4), some (.int l5), some (.ref 69), some (.ref 71)]) (st1 := []) (fun o kT kF => ?_) (fun h63 => ?_) (fun h63 => ?_)
        · refine j_ifeq (t := 49) (pc' := 41) rfl rfl rfl (fun h64 => ?_) (fun h64 => ?_)
          · exact kT (Or.inl h64)
          · refine j_aload (pc' := 43) rfl rfl rfl ?_
            refine j_callTi (pc' := 46) (ai := 91) (vs := [.ref 71]) (rest := []) rfl rfl (fun _ _ => rfl) (c_X8_isMade_71  σ) (j_dd rfl hd) rfl ?_
            refine j_ifne (t := 52) (pc' := 49) rfl rfl rfl (fun h65 => ?_) (fun h65 => ?_)
            · exact kF (fun z => z.elim h64 (h65))
            · exact kT (Or.inr (h65))
        · refine j_bipush (pc' := 51) (x := (-6 : Int32)) rfl rfl rfl ?_
          exact j_ret rfl rfl rfl (fun _ h => h)
        · refine j_aload (pc' := 54) rfl rfl rfl ?_
          refine j_gfi (pc' := 57) rfl rfl j_a69 rfl ?_
          refine j_aload (pc' := 59) rfl rfl rfl ?_
          refine j_gfi (pc' := 62) rfl rfl j_a71 rfl ?_
          refine j_two (pT := 65) (pF := 68) (L1 := [some (.ref 0), some (.int (1 : Int32)), some (.int l2), some (.int (2 : Int32)), some (.int l4), some (.int l5), some (.ref 69), some (.ref 71)]) (st1 := []) (fun o kT kF => ?_) (fun h61 => ?_) (fun h61 => ?_)
          · refine j_iceq (t := 68) (pc' := 65) rfl rfl rfl (fun h62 => ?_) (fun h62 => ?_)
            · exact kF (fun z => z h62)
            · exact kT h62
          · refine j_bipush (pc' := 67) (x := (-8 : Int32)) rfl rfl rfl ?_
            exact j_ret rfl rfl rfl (fun _ h => h)
          · refine j_aload (pc' := 70) rfl rfl rfl ?_
            refine j_iload_n (pc' := 71) rfl rfl rfl ?_
            refine j_iload (pc' := 73) rfl rfl rfl ?_
            refine j_callTi (pc' := 76) (ai := 94) (vs := [.ref 69, .int l2, .int l5]) (rest := []) rfl rfl (fun _ _ => rfl) (c_X8_hasPart_69 l2 l5 σ) (j_dd rfl hd) rfl ?_
            refine j_two (pT := 91) (pF := 94) (L1 := [some (.ref 0), some (.int (1 : Int32)), some (.int l2), some (.int (2 : Int32)), some (.int l4), some (.int l5), some (.ref 69), some (.ref 71)]) (st1 := []) (fun o kT kF => ?_) (fun h58 => ?_) (fun h58 => ?_)
            · refine j_ifeq (t := 91) (pc' := 79) rfl rfl rfl (fun h59 => ?_) (fun h59 => ?_)
              · exact kT (Or.inl h59)
              · refine j_aload (pc' := 81) rfl rfl rfl ?_
                refine j_iload (pc' := 83) rfl rfl rfl ?_
                refine j_iload (pc' := 85) rfl rfl rfl ?_
                refine j_callTi (pc' := 88) (ai := 94) (vs := [.ref 71, .int l4, .int l5]) (rest := []) rfl rfl (fun _ _ => rfl) (c_X8_hasPart_71 l4 l5 σ) (j_dd rfl hd) rfl ?_
                refine j_ifne (t := 94) (pc' := 91) rfl rfl rfl (fun h60 => ?_) (fun h60 => ?_)
                · exact kF (fun z => z.elim h59 (h60))
                · exact kT (Or.inr (h60))
            · refine j_bipush (pc' := 93) (x := (-7 : Int32)) rfl rfl rfl ?_
              exact j_ret rfl rfl rfl (fun _ h => h)
            · refine j_aload (pc' := 96) rfl rfl rfl ?_
              refine j_gfr (pc' := 99) (x := 70) rfl rfl j_a69 rfl rfl ?_
              refine j_iload_n (pc' := 100) rfl rfl rfl ?_
              refine j_aload (pc' := 102) rfl rfl rfl ?_
              refine j_gfr (pc' := 105) (x := 72) rfl rfl j_a71 rfl rfl ?_
              refine j_iload (pc' := 107) rfl rfl rfl ?_
              refine j_iload (pc' := 109) rfl rfl rfl ?_
              refine j_cpl (pc' := 112) rfl rfl rfl j_a70 j_a72 (fun σ7 => ?_)
              refine j_iconst (pc' := 113) (x := (0 : Int32)) rfl rfl rfl ?_
              exact j_ret rfl rfl rfl (fun _ h => h)
      refine j_spl (k := (3 : Int32)) (fun h66 => ?_) (fun h66 => ?_)
      · subst h66
        refine j_aald (pc' := 31) (r := 73) rfl rfl j_a42 (by decide) rfl ?_
        refine j_astore (pc' := 33) (L' := [some (.ref 0), some (.int (1 : Int32)), some (.int l2), some (.int (3 : Int32)), some (.int l4), some (.int l5), some (.ref 69), some (.ref 73)]) rfl rfl rfl ?_
        refine j_aload (pc' := 35) rfl rfl rfl ?_
        refine j_callTi (pc' := 38) (ai := 91) (vs := [.ref 69]) (rest := []) rfl rfl (fun _ _ => rfl) (c_X8_isMade_69  σ) (j_dd rfl hd) rfl ?_
        refine j_two (pT := 49) (pF := 52) (L1 := [some (.ref 0), some (.int (1 : Int32)), some (.int l2), some (.int (3 : Int32)), some (.int l4), some (.int l5), some (.ref 69), some (.ref 73)]) (st1 := []) (fun o kT kF => ?_) (fun h72 => ?_) (fun h72 => ?_)
        · refine j_ifeq (t := 49) (pc' := 41) rfl rfl rfl (fun h73 => ?_) (fun h73 => ?_)
          · exact kT (Or.inl h73)
          · refine j_aload (pc' := 43) rfl rfl rfl ?_
            refine j_callTi (pc' := 46) (ai := 91) (vs := [.ref 73]) (rest := []) rfl rfl (fun _ _ => rfl) (c_X8_isMade_73  σ) (j_dd rfl hd) rfl ?_
            refine j_ifne (t := 52) (pc' := 49) rfl rfl rfl (fun h74 => ?_) (fun h74 => ?_)
            · exact kF (fun z => z.elim h73 (h74))
            · exact kT (Or.inr (h74))
        · refine j_bipush (pc' := 51) (x := (-6 : Int32)) rfl rfl rfl ?_
          exact j_ret rfl rfl rfl (fun _ h => h)
        · refine j_aload (pc' := 54) rfl rfl rfl ?_
          refine j_gfi (pc' := 57) rfl rfl j_a69 rfl ?_
          refine j_aload (pc' := 59) rfl rfl rfl ?_
          refine j_gfi (pc' := 62) rfl rfl j_a73 rfl ?_
          refine j_two (pT := 65) (pF := 68) (L1 := [some (.ref 0), some (.int (1 : Int32)), some (.int l2), some (.int (3 : Int32)), some (.int l4), some (.int l5), some (.ref 69), some (.ref 73)]) (st1 := []) (fun o kT kF => ?_) (fun h70 => ?_) (fun h70 => ?_)
          · refine j_iceq (t := 68) (pc' := 65) rfl rfl rfl (fun h71 => ?_) (fun h71 => ?_)
            · exact kF (fun z => z h71)
            · exact kT h71
          · refine j_bipush (pc' := 67) (x := (-8 : Int32)) rfl rfl rfl ?_
            exact j_ret rfl rfl rfl (fun _ h => h)
          · refine j_aload (pc' := 70) rfl rfl rfl ?_
            refine j_iload_n (pc' := 71) rfl rfl rfl ?_
            refine j_iload (pc' := 73) rfl rfl rfl ?_
            refine j_callTi (pc' := 76) (ai := 94) (vs := [.ref 69, .int l2, .int l5]) (rest := []) rfl rfl (fun _ _ => rfl) (c_X8_hasPart_69 l2 l5 σ) (j_dd rfl hd) rfl ?_
            refine j_two (pT := 91) (pF := 94) (L1 := [some (.ref 0), some (.int (1 : Int32)), some (.int l2), some (.int (3 : Int32)), some (.int l4), some (.int l5), some (.ref 69), some (.ref 73)]) (st1 := []) (fun o kT kF => ?_) (fun h67 => ?_) (fun h67 => ?_)
            · refine j_ifeq (t := 91) (pc' := 79) rfl rfl rfl (fun h68 => ?_) (fun h68 => ?_)
              · exact kT (Or.inl h68)
              · refine j_aload (pc' := 81) rfl rfl rfl ?_
                refine j_iload (pc' := 83) rfl rfl rfl ?_
                refine j_iload (pc' := 85) rfl rfl rfl ?_
                refine j_callTi (pc' := 88) (ai := 94) (vs := [.ref 73, .int l4, .int l5]) (rest := []) rfl rfl (fun _ _ => rfl) (c_X8_hasPart_73 l4 l5 σ) (j_dd rfl hd) rfl ?_
                refine j_ifne (t := 94) (pc' := 91) rfl rfl rfl (fun h69 => ?_) (fun h69 => ?_)
                · exact kF (fun z => z.elim h68 (h69))
                · exact kT (Or.inr (h69))
            · refine j_bipush (pc' := 93) (x := (-7 : Int32)) rfl rfl rfl ?_
              exact j_ret rfl rfl rfl (fun _ h => h)
            · refine j_aload (pc' := 96) rfl rfl rfl ?_
              refine j_gfr (pc' := 99) (x := 70) rfl rfl j_a69 rfl rfl ?_
              refine j_iload_n (pc' := 100) rfl rfl rfl ?_
              refine j_aload (pc' := 102) rfl rfl rfl ?_
              refine j_gfr (pc' := 105) (x := 74) rfl rfl j_a73 rfl rfl ?_
              refine j_iload (pc' := 107) rfl rfl rfl ?_
              refine j_iload (pc' := 109) rfl rfl rfl ?_
              refine j_cpl (pc' := 112) rfl rfl rfl j_a70 j_a74 (fun σ8 => ?_)
              refine j_iconst (pc' := 113) (x := (0 : Int32)) rfl rfl rfl ?_
              exact j_ret rfl rfl rfl (fun _ h => h)
      exact j_none
    refine j_spl (k := (2 : Int32)) (fun h75 => ?_) (fun h75 => ?_)
    · subst h75
      refine j_aald (pc' := 23) (r := 71) rfl rfl j_a42 (by decide) rfl ?_
      refine j_astore (pc' := 25) (L' := [some (.ref 0), some (.int (2 : Int32)), some (.int l2), some (.int l3), some (.int l4), some (.int l5), some (.ref 71), none]) rfl rfl rfl ?_
      refine j_aload_n (pc' := 26) rfl rfl rfl ?_
      refine j_gfr (pc' := 29) (x := 42) rfl rfl j_a0 rfl rfl ?_
      refine j_iload_n (pc' := 30) rfl rfl rfl ?_
      refine j_spl (k := (0 : Int32)) (fun h76 => ?_) (fun h76 => ?_)
      · subst h76
        refine j_aald (pc' := 31) (r := 67) rfl rfl j_a42 (by decide) rfl ?_
        refine j_astore (pc' := 33) (L' := [some (.ref 0), some (.int (2 : Int32)), some (.int l2), some (.int (0 : Int32)), some (.int l4), some (.int l5), some (.ref 71), some (.ref 67)]) rfl rfl rfl ?_
        refine j_aload (pc' := 35) rfl rfl rfl ?_
        refine j_callTi (pc' := 38) (ai := 91) (vs := [.ref 71]) (rest := []) rfl rfl (fun _ _ => rfl) (c_X8_isMade_71  σ) (j_dd rfl hd) rfl ?_
        refine j_two (pT := 49) (pF := 52) (L1 := [some (.ref 0), some (.int (2 : Int32)), some (.int l2), some (.int (0 : Int32)), some (.int l4), some (.int l5), some (.ref 71), some (.ref 67)]) (st1 := []) (fun o kT kF => ?_) (fun h82 => ?_) (fun h82 => ?_)
        · refine j_ifeq (t := 49) (pc' := 41) rfl rfl rfl (fun h83 => ?_) (fun h83 => ?_)
          · exact kT (Or.inl h83)
          · refine j_aload (pc' := 43) rfl rfl rfl ?_
            refine j_callTi (pc' := 46) (ai := 91) (vs := [.ref 67]) (rest := []) rfl rfl (fun _ _ => rfl) (c_X8_isMade_67  σ) (j_dd rfl hd) rfl ?_
            refine j_ifne (t := 52) (pc' := 49) rfl rfl rfl (fun h84 => ?_) (fun h84 => ?_)
            · exact kF (fun z => z.elim h83 (h84))
            · exact kT (Or.inr (h84))
        · refine j_bipush (pc' := 51) (x := (-6 : Int32)) rfl rfl rfl ?_
          exact j_ret rfl rfl rfl (fun _ h => h)
        · refine j_aload (pc' := 54) rfl rfl rfl ?_
          refine j_gfi (pc' := 57) rfl rfl j_a71 rfl ?_
          refine j_aload (pc' := 59) rfl rfl rfl ?_
          refine j_gfi (pc' := 62) rfl rfl j_a67 rfl ?_
          refine j_two (pT := 65) (pF := 68) (L1 := [some (.ref 0), some (.int (2 : Int32)), some (.int l2), some (.int (0 : Int32)), some (.int l4), some (.int l5), some (.ref 71), some (.ref 67)]) (st1 := []) (fun o kT kF => ?_) (fun h80 => ?_) (fun h80 => ?_)
          · refine j_iceq (t := 68) (pc' := 65) rfl rfl rfl (fun h81 => ?_) (fun h81 => ?_)
            · exact kF (fun z => z h81)
            · exact kT h81
          · refine j_bipush (pc' := 67) (x := (-8 : Int32)) rfl rfl rfl ?_
            exact j_ret rfl rfl rfl (fun _ h => h)
          · refine j_aload (pc' := 70) rfl rfl rfl ?_
            refine j_iload_n (pc' := 71) rfl rfl rfl ?_
            refine j_iload (pc' := 73) rfl rfl rfl ?_
            refine j_callTi (pc' := 76) (ai := 94) (vs := [.ref 71, .int l2, .int l5]) (rest := []) rfl rfl (fun _ _ => rfl) (c_X8_hasPart_71 l2 l5 σ) (j_dd rfl hd) rfl ?_
            refine j_two (pT := 91) (pF := 94) (L1 := [some (.ref 0), some (.int (2 : Int32)), some (.int l2), some (.int (0 : Int32)), some (.int l4), some (.int l5), some (.ref 71), some (.ref 67)]) (st1 := []) (fun o kT kF => ?_) (fun h77 => ?_) (fun h77 => ?_)
            · refine j_ifeq (t := 91) (pc' := 79) rfl rfl rfl (fun h78 => ?_) (fun h78 => ?_)
              · exact kT (Or.inl h78)
              · refine j_aload (pc' := 81) rfl rfl rfl ?_
                refine j_iload (pc' := 83) rfl rfl rfl ?_
                refine j_iload (pc' := 85) rfl rfl rfl ?_
                refine j_callTi (pc' := 88) (ai := 94) (vs := [.ref 67, .int l4, .int l5]) (rest := []) rfl rfl (fun _ _ => rfl) (c_X8_hasPart_67 l4 l5 σ) (j_dd rfl hd) rfl ?_
                refine j_ifne (t := 94) (pc' := 91) rfl rfl rfl (fun h79 => ?_) (fun h79 => ?_)
                · exact kF (fun z => z.elim h78 (h79))
                · exact kT (Or.inr (h79))
            · refine j_bipush (pc' := 93) (x := (-7 : Int32)) rfl rfl rfl ?_
              exact j_ret rfl rfl rfl (fun _ h => h)
            · refine j_aload (pc' := 96) rfl rfl rfl ?_
              refine j_gfr (pc' := 99) (x := 72) rfl rfl j_a71 rfl rfl ?_
              refine j_iload_n (pc' := 100) rfl rfl rfl ?_
              refine j_aload (pc' := 102) rfl rfl rfl ?_
              refine j_gfr (pc' := 105) (x := 68) rfl rfl j_a67 rfl rfl ?_
              refine j_iload (pc' := 107) rfl rfl rfl ?_
              refine j_iload (pc' := 109) rfl rfl rfl ?_
              refine j_cpl (pc' := 112) rfl rfl rfl j_a72 j_a68 (fun σ9 => ?_)
              refine j_iconst (pc' := 113) (x := (0 : Int32)) rfl rfl rfl ?_
              exact j_ret rfl rfl rfl (fun _ h => h)
      refine j_spl (k := (1 : Int32)) (fun h85 => ?_) (fun h85 => ?_)
      · subst h85
        refine j_aald (pc' := 31) (r := 69) rfl rfl j_a42 (by decide) rfl ?_
        refine j_astore (pc' := 33) (L' := [some (.ref 0), some (.int (2 : Int32)), some (.int l2), some (.int (1 : Int32)), some (.int l4), some (.int l5), some (.ref 71), some (.ref 69)]) rfl rfl rfl ?_
        refine j_aload (pc' := 35) rfl rfl rfl ?_
        refine j_callTi (pc' := 38) (ai := 91) (vs := [.ref 71]) (rest := []) rfl rfl (fun _ _ => rfl) (c_X8_isMade_71  σ) (j_dd rfl hd) rfl ?_
        refine j_two (pT := 49) (pF := 52) (L1 := [some (.ref 0), some (.int (2 : Int32)), some (.int l2), some (.int (1 : Int32)), some (.int l4), some (.int l5), some (.ref 71), some (.ref 69)]) (st1 := []) (fun o kT kF => ?_) (fun h91 => ?_) (fun h91 => ?_)
        · refine j_ifeq (t := 49) (pc' := 41) rfl rfl rfl (fun h92 => ?_) (fun h92 => ?_)
          · exact kT (Or.inl h92)
          · refine j_aload (pc' := 43) rfl rfl rfl ?_
            refine j_callTi (pc' := 46) (ai := 91) (vs := [.ref 69]) (rest := []) rfl rfl (fun _ _ => rfl) (c_X8_isMade_69  σ) (j_dd rfl hd) rfl ?_
            refine j_ifne (t := 52) (pc' := 49) rfl rfl rfl (fun h93 => ?_) (fun h93 => ?_)
            · exact kF (fun z => z.elim h92 (h93))
            · exact kT (Or.inr (h93))
        · refine j_bipush (pc' := 51) (x := (-6 : Int32)) rfl rfl rfl ?_
          exact j_ret rfl rfl rfl (fun _ h => h)
        · refine j_aload (pc' := 54) rfl rfl rfl ?_
          refine j_gfi (pc' := 57) rfl rfl j_a71 rfl ?_
          refine j_aload (pc' := 59) rfl rfl rfl ?_
          refine j_gfi (pc' := 62) rfl rfl j_a69 rfl ?_
          refine j_two (pT := 65) (pF := 68) (L1 := [some (.ref 0), some (.int (2 : Int32)), some (.int l2), some (.int (1 : Int32)), some (.int l4), some (.int l5), some (.ref 71), some (.ref 69)]) (st1 := []) (fun o kT kF => ?_) (fun h89 => ?_) (fun h89 => ?_)
          · refine j_iceq (t := 68) (pc' := 65) rfl rfl rfl (fun h90 => ?_) (fun h90 => ?_)
            · exact kF (fun z => z h90)
            · exact kT h90
          · refine j_bipush (pc' := 67) (x := (-8 : Int32)) rfl rfl rfl ?_
            exact j_ret rfl rfl rfl (fun _ h => h)
          · refine j_aload (pc' := 70) rfl rfl rfl ?_
            refine j_iload_n (pc' := 71) rfl rfl rfl ?_
            refine j_iload (pc' := 73) rfl rfl rfl ?_
            refine j_callTi (pc' := 76) (ai := 94) (vs := [.ref 71, .int l2, .int l5]) (rest := []) rfl rfl (fun _ _ => rfl) (c_X8_hasPart_71 l2 l5 σ) (j_dd rfl hd) rfl ?_
            refine j_two (pT := 91) (pF := 94) (L1 := [some (.ref 0), some (.int (2 : Int32)), some (.int l2), some (.int (1 : Int32)), some (.int l4), some (.int l5), some (.ref 71), some (.ref 69)]) (st1 := []) (fun o kT kF => ?_) (fun h86 => ?_) (fun h86 => ?_)
            · refine j_ifeq (t := 91) (pc' := 79) rfl rfl rfl (fun h87 => ?_) (fun h87 => ?_)
              · exact kT (Or.inl h87)
              · refine j_aload (pc' := 81) rfl rfl rfl ?_
                refine j_iload (pc' := 83) rfl rfl rfl ?_
                refine j_iload (pc' := 85) rfl rfl rfl ?_
                refine j_callTi (pc' := 88) (ai := 94) (vs := [.ref 69, .int l4, .int l5]) (rest := []) rfl rfl (fun _ _ => rfl) (c_X8_hasPart_69 l4 l5 σ) (j_dd rfl hd) rfl ?_
                refine j_ifne (t := 94) (pc' := 91) rfl rfl rfl (fun h88 => ?_) (fun h88 => ?_)
                · exact kF (fun z => z.elim h87 (h88))
                · exact kT (Or.inr (h88))
            · refine j_bipush (pc' := 93) (x := (-7 : Int32)) rfl rfl rfl ?_
              exact j_ret rfl rfl rfl (fun _ h => h)
            · refine j_aload (pc' := 96) rfl rfl rfl ?_
              refine j_gfr (pc' := 99) (x := 72) rfl rfl j_a71 rfl rfl ?_
              refine j_iload_n (pc' := 100) rfl rfl rfl ?_
              refine j_aload (pc' := 102) rfl rfl rfl ?_
              refine j_gfr (pc' := 105) (x := 70) rfl rfl j_a69 rfl rfl ?_
              refine j_iload (pc' := 107) rfl rfl rfl ?_
              refine j_iload (pc' := 109) rfl rfl rfl ?_
              refine j_cpl (pc' := 112) rfl rfl rfl j_a72 j_a70 (fun σ10 => ?_)
              refine j_iconst (pc' := 113) (x := (0 : Int32)) rfl rfl rfl ?_
              exact j_ret rfl rfl rfl (fun _ h => h)
      refine j_spl (k := (2 : Int32)) (fun h94 => ?_) (fun h94 => ?_)
      · subst h94
        refine j_aald (pc' := 31) (r := 71) rfl rfl j_a42 (by decide) rfl ?_
        refine j_astore (pc' := 33) (L' := [some (.ref 0), some (.int (2 : Int32)), some (.int l2), some (.int (2 : Int32)), some (.int l4), some (.int l5), some (.ref 71), some (.ref 71)]) rfl rfl rfl ?_
        refine j_aload (pc' := 35) rfl rfl rfl ?_
        refine j_callTi (pc' := 38) (ai := 91) (vs := [.ref 71]) (rest := []) rfl rfl (fun _ _ => rfl) (c_X8_isMade_71  σ) (j_dd rfl hd) rfl ?_
        refine j_two (pT := 49) (pF := 52) (L1 := [some (.ref 0), some (.int (2 : Int32)), some (.int l2), some (.int (2 : Int32)), some (.int l4), some (.int l5), some (.ref 71), some (.ref 71)]) (st1 := []) (fun o kT kF => ?_) (fun h100 => ?_) (fun h100 => ?_)
        · refine j_ifeq (t := 49) (pc' := 41) rfl rfl rfl (fun h101 => ?_) (fun h101 => ?_)
          · exact kT (Or.inl h101)
          · refine j_aload (pc' := 43) rfl rfl rfl ?_
            refine j_callTi (pc' := 46) (ai := 91) (vs := [.ref 71]) (rest := []) rfl rfl (fun _ _ => rfl) (c_X8_isMade_71  σ) (j_dd rfl hd) rfl ?_
            refine j_ifne (t := 52) (pc' := 49) rfl rfl rfl (fun h102 => ?_) (fun h102 => ?_)
            · exact kF (fun z => z.elim h101 (h102))
            · exact kT (Or.inr (h102))
        · refine j_bipush (pc' := 51) (x := (-6 : Int32)) rfl rfl rfl ?_
          exact j_ret rfl rfl rfl (fun _ h => h)
        · refine j_aload (pc' := 54) rfl rfl rfl ?_
          refine j_gfi (pc' := 57) rfl rfl j_a71 rfl ?_
          refine j_aload (pc' := 59) rfl rfl rfl ?_
          refine j_gfi (pc' := 62) rfl rfl j_a71 rfl ?_
          refine j_two (pT := 65) (pF := 68) (L1 := [some (.ref 0), some (.int (2 : Int32)), some (.int l2), some (.int (2 : Int32)), some (.int l4), some (.int l5), some (.ref 71), some (.ref 71)]) (st1 := []) (fun o kT kF => ?_) (fun h98 => ?_) (fun h98 => ?_)
          · refine j_iceq (t := 68) (pc' := 65) rfl rfl rfl (fun h99 => ?_) (fun h99 => ?_)
            · exact kF (fun z => z h99)
            · exact kT h99
          · refine j_bipush (pc' := 67) (x := (-8 : Int32)) rfl rfl rfl ?_
            exact j_ret rfl rfl rfl (fun _ h => h)
          · refine j_aload (pc' := 70) rfl rfl rfl ?_
            refine j_iload_n (pc' := 71) rfl rfl rfl ?_
            refine j_iload (pc' := 73) rfl rfl rfl ?_
            refine j_callTi (pc' := 76) (ai := 94) (vs := [.ref 71, .int l2, .int l5]) (rest := []) rfl rfl (fun _ _ => rfl) (c_X8_hasPart_71 l2 l5 σ) (j_dd rfl hd) rfl ?_
            refine j_two (pT := 91) (pF := 94) (L1 := [some (.ref 0), some (.int (2 : Int32)), some (.int l2), some (.int (2 : Int32)), some (.int l4), some (.int l5), some (.ref 71), some (.ref 71)]) (st1 := []) (fun o kT kF => ?_) (fun h95 => ?_) (fun h95 => ?_)
            · refine j_ifeq (t := 91) (pc' := 79) rfl rfl rfl (fun h96 => ?_) (fun h96 => ?_)
              · exact kT (Or.inl h96)
              · refine j_aload (pc' := 81) rfl rfl rfl ?_
                refine j_iload (pc' := 83) rfl rfl rfl ?_
                refine j_iload (pc' := 85) rfl rfl rfl ?_
                refine j_callTi (pc' := 88) (ai := 94) (vs := [.ref 71, .int l4, .int l5]) (rest := []) rfl rfl (fun _ _ => rfl) (c_X8_hasPart_71 l4 l5 σ) (j_dd rfl hd) rfl ?_
                refine j_ifne (t := 94) (pc' := 91) rfl rfl rfl (fun h97 => ?_) (fun h97 => ?_)
                · exact kF (fun z => z.elim h96 (h97))
                · exact kT (Or.inr (h97))
            · refine j_bipush (pc' := 93) (x := (-7 : Int32)) rfl rfl rfl ?_
              exact j_ret rfl rfl rfl (fun _ h => h)
            · refine j_aload (pc' := 96) rfl rfl rfl ?_
              refine j_gfr (pc' := 99) (x := 72) rfl rfl j_a71 rfl rfl ?_
              refine j_iload_n (pc' := 100) rfl rfl rfl ?_
              refine j_aload (pc' := 102) rfl rfl rfl ?_
              refine j_gfr (pc' := 105) (x := 72) rfl rfl j_a71 rfl rfl ?_
              refine j_iload (pc' := 107) rfl rfl rfl ?_
              refine j_iload (pc' := 109) rfl rfl rfl ?_
              refine j_cpl (pc' := 112) rfl rfl rfl j_a72 j_a72 (fun σ11 => ?_)
              refine j_iconst (pc' := 113) (x := (0 : Int32)) rfl rfl rfl ?_
              exact j_ret rfl rfl rfl (fun _ h => h)
      refine j_spl (k := (3 : Int32)) (fun h103 => ?_) (fun h103 => ?_)
      · subst h103
        refine j_aald (pc' := 31) (r := 73) rfl rfl j_a42 (by decide) rfl ?_
        refine j_astore (pc' := 33) (L' := [some (.ref 0), some (.int (2 : Int32)), some (.int l2), some (.int (3 : Int32)), some (.int l4), some (.int l5), some (.ref 71), some (.ref 73)]) rfl rfl rfl ?_
        refine j_aload (pc' := 35) rfl rfl rfl ?_
        refine j_callTi (pc' := 38) (ai := 91) (vs := [.ref 71]) (rest := []) rfl rfl (fun _ _ => rfl) (c_X8_isMade_71  σ) (j_dd rfl hd) rfl ?_
        refine j_two (pT := 49) (pF := 52) (L1 := [some (.ref 0), some (.int (2 : Int32)), some (.int l2), some (.int (3 : Int32)), some (.int l4), some (.int l5), some (.ref 71), some (.ref 73)]) (st1 := []) (fun o kT kF => ?_) (fun h109 => ?_) (fun h109 => ?_)
        · refine j_ifeq (t := 49) (pc' := 41) rfl rfl rfl (fun h110 => ?_) (fun h110 => ?_)
          · exact kT (Or.inl h110)
          · refine j_aload (pc' := 43) rfl rfl rfl ?_
            refine j_callTi (pc' := 46) (ai := 91) (vs := [.ref 73]) (rest := []) rfl rfl (fun _ _ => rfl) (c_X8_isMade_73  σ) (j_dd rfl hd) rfl ?_
            refine j_ifne (t := 52) (pc' := 49) rfl rfl rfl (fun h111 => ?_) (fun h111 => ?_)
            · exact kF (fun z => z.elim h110 (h111))
            · exact kT (Or.inr (h111))
        · refine j_bipush (pc' := 51) (x := (-6 : Int32)) rfl rfl rfl ?_
          exact j_ret rfl rfl rfl (fun _ h => h)
        · refine j_aload (pc' := 54) rfl rfl rfl ?_
          refine j_gfi (pc' := 57) rfl rfl j_a71 rfl ?_
          refine j_aload (pc' := 59) rfl rfl rfl ?_
          refine j_gfi (pc' := 62) rfl rfl j_a73 rfl ?_
          refine j_two (pT := 65) (pF := 68) (L1 := [some (.ref 0), some (.int (2 : Int32)), some (.int l2), some (.int (3 : Int32)), some (.int l4), some (.int l5), some (.ref 71), some (.ref 73)]) (st1 := []) (fun o kT kF => ?_) (fun h107 => ?_) (fun h107 => ?_)
          · refine j_iceq (t := 68) (pc' := 65) rfl rfl rfl (fun h108 => ?_) (fun h108 => ?_)
            · exact kF (fun z => z h108)
            · exact kT h108
          · refine j_bipush (pc' := 67) (x := (-8 : Int32)) rfl rfl rfl ?_
            exact j_ret rfl rfl rfl (fun _ h => h)
          · refine j_aload (pc' := 70) rfl rfl rfl ?_
            refine j_iload_n (pc' := 71) rfl rfl rfl ?_
            refine j_iload (pc' := 73) rfl rfl rfl ?_
            refine j_callTi (pc' := 76) (ai := 94) (vs := [.ref 71, .int l2, .int l5]) (rest := []) rfl rfl (fun _ _ => rfl) (c_X8_hasPart_71 l2 l5 σ) (j_dd rfl hd) rfl ?_
            refine j_two (pT := 91) (pF := 94) (L1 := [some (.ref 0), some (.int (2 : Int32)), some (.int l2), some (.int (3 : Int32)), some (.int l4), some (.int l5), some (.ref 71), some (.ref 73)]) (st1 := []) (fun o kT kF => ?_) (fun h104 => ?_) (fun h104 => ?_)
            · refine j_ifeq (t := 91) (pc' := 79) rfl rfl rfl (fun h105 => ?_) (fun h105 => ?_)
              · exact kT (Or.inl h105)
              · refine j_aload (pc' := 81) rfl rfl rfl ?_
                refine j_iload (pc' := 83) rfl rfl rfl ?_
                refine j_iload (pc' := 85) rfl rfl rfl ?_
                refine j_callTi (pc' := 88) (ai := 94) (vs := [.ref 73, .int l4, .int l5]) (rest := []) rfl rfl (fun _ _ => rfl) (c_X8_hasPart_73 l4 l5 σ) (j_dd rfl hd) rfl ?_
                refine j_ifne (t := 94) (pc' := 91) rfl rfl rfl (fun h106 => ?_) (fun h106 => ?_)
                · exact kF (fun z => z.elim h105 (h106))
                · exact kT (Or.inr (h106))
            · refine j_bipush (pc' := 93) (x := (-7 : Int32)) rfl rfl rfl ?_
              exact j_ret rfl rfl rfl (fun _ h => h)
            · refine j_aload (pc' := 96) rfl rfl rfl ?_
              refine j_gfr (pc' := 99) (x := 72) rfl rfl j_a71 rfl rfl ?_
              refine j_iload_n (pc' := 100) rfl rfl rfl ?_
              refine j_aload (pc' := 102) rfl rfl rfl ?_
              refine j_gfr (pc' := 105) (x := 74) rfl rfl j_a73 rfl rfl ?_
              refine j_iload (pc' := 107) rfl rfl rfl ?_
              refine j_iload (pc' := 109) rfl rfl rfl ?_
              refine j_cpl (pc' := 112) rfl rfl rfl j_a72 j_a74 (fun σ12 => ?_)
              refine j_iconst (pc' := 113) (x := (0 : Int32)) rfl rfl rfl ?_
              exact j_ret rfl rfl rfl (fun _ h => h)
      exact j_none
    refine j_spl (k := (3 : Int32)) (fun h112 => ?_) (fun h112 => ?_)
    · subst h112
      refine j_aald (pc' := 23) (r := 73) rfl rfl j_a42 (by decide) rfl ?_
      refine j_astore (pc' := 25) (L' := [some (.ref 0), some (.int (3 : Int32)), some (.int l2), some (.int l3), some (.int l4), some (.int l5), some (.ref 73), none]) rfl rfl rfl ?_
      refine j_aload_n (pc' := 26) rfl rfl rfl ?_
      refine j_gfr (pc' := 29) (x := 42) rfl rfl j_a0 rfl rfl ?_
      refine j_iload_n (pc' := 30) rfl rfl rfl ?_
      refine j_spl (k := (0 : Int32)) (fun h113 => ?_) (fun h113 => ?_)
      · subst h113
        refine j_aald (pc' := 31) (r := 67) rfl rfl j_a42 (by decide) rfl ?_
        refine j_astore (pc' := 33) (L' := [some (.ref 0), some (.int (3 : Int32)), some (.int l2), some (.int (0 : Int32)), some (.int l4), some (.int l5), some (.ref 73), some (.ref 67)]) rfl rfl rfl ?_
        refine j_aload (pc' := 35) rfl rfl rfl ?_
        refine j_callTi (pc' := 38) (ai := 91) (vs := [.ref 73]) (rest := []) rfl rfl (fun _ _ => rfl) (c_X8_isMade_73  σ) (j_dd rfl hd) rfl ?_
        refine j_two (pT := 49) (pF := 52) (L1 := [some (.ref 0), some (.int (3 : Int32)), some (.int l2), some (.int (0 : Int32)), some (.int l4), some (.int l5), some (.ref 73), some (.ref 67)]) (st1 := []) (fun o kT kF => ?_) (fun h119 => ?_) (fun h119 => ?_)
        · refine j_ifeq (t := 49) (pc' := 41) rfl rfl rfl (fun h120 => ?_) (fun h120 => ?_)
          · exact kT (Or.inl h120)
          · refine j_aload (pc' := 43) rfl rfl rfl ?_
            refine j_callTi (pc' := 46) (ai := 91) (vs := [.ref 67]) (rest := []) rfl rfl (fun _ _ => rfl) (c_X8_isMade_67  σ) (j_dd rfl hd) rfl ?_
            refine j_ifne (t := 52) (pc' := 49) rfl rfl rfl (fun h121 => ?_) (fun h121 => ?_)
            · exact kF (fun z => z.elim h120 (h121))
            · exact kT (Or.inr (h121))
        · refine j_bipush (pc' := 51) (x := (-6 : Int32)) rfl rfl rfl ?_
          exact j_ret rfl rfl rfl (fun _ h => h)
        · refine j_aload (pc' := 54) rfl rfl rfl ?_
          refine j_gfi (pc' := 57) rfl rfl j_a73 rfl ?_
          refine j_aload (pc' := 59) rfl rfl rfl ?_
          refine j_gfi (pc' := 62) rfl rfl j_a67 rfl ?_
          refine j_two (pT := 65) (pF := 68) (L1 := [some (.ref 0), some (.int (3 : Int32)), some (.int l2), some (.int (0 : Int32)), some (.int l4), some (.int l5), some (.ref 73), some (.ref 67)]) (st1 := []) (fun o kT kF => ?_) (fun h117 => ?_) (fun h117 => ?_)
          · refine j_iceq (t := 68) (pc' := 65) rfl rfl rfl (fun h118 => ?_) (fun h118 => ?_)
            · exact kF (fun z => z h118)
            · exact kT h118
          · refine j_bipush (pc' := 67) (x := (-8 : Int32)) rfl rfl rfl ?_
            exact j_ret rfl rfl rfl (fun _ h => h)
          · refine j_aload (pc' := 70) rfl rfl rfl ?_
            refine j_iload_n (pc' := 71) rfl rfl rfl ?_
            refine j_iload (pc' := 73) rfl rfl rfl ?_
            refine j_callTi (pc' := 76) (ai := 94) (vs := [.ref 73, .int l2, .int l5]) (rest := []) rfl rfl (fun _ _ => rfl) (c_X8_hasPart_73 l2 l5 σ) (j_dd rfl hd) rfl ?_
            refine j_two (pT := 91) (pF := 94) (L1 := [some (.ref 0), some (.int (3 : Int32)), some (.int l2), some (.int (0 : Int32)), some (.int l4), some (.int l5), some (.ref 73), some (.ref 67)]) (st1 := []) (fun o kT kF => ?_) (fun h114 => ?_) (fun h114 => ?_)
            · refine j_ifeq (t := 91) (pc' := 79) rfl rfl rfl (fun h115 => ?_) (fun h115 => ?_)
              · exact kT (Or.inl h115)
              · refine j_aload (pc' := 81) rfl rfl rfl ?_
                refine j_iload (pc' := 83) rfl rfl rfl ?_
                refine j_iload (pc' := 85) rfl rfl rfl ?_
                refine j_callTi (pc' := 88) (ai := 94) (vs := [.ref 67, .int l4, .int l5]) (rest := []) rfl rfl (fun _ _ => rfl) (c_X8_hasPart_67 l4 l5 σ) (j_dd rfl hd) rfl ?_
                refine j_ifne (t := 94) (pc' := 91) rfl rfl rfl (fun h116 => ?_) (fun h116 => ?_)
                · exact kF (fun z => z.elim h115 (h116))
                · exact kT (Or.inr (h116))
            · refine j_bipush (pc' := 93) (x := (-7 : Int32)) rfl rfl rfl ?_
              exact j_ret rfl rfl rfl (fun _ h => h)
            · refine j_aload (pc' := 96) rfl rfl rfl ?_
              refine j_gfr (pc' := 99) (x := 74) rfl rfl j_a73 rfl rfl ?_
              refine j_iload_n (pc' := 100) rfl rfl rfl ?_
              refine j_aload (pc' := 102) rfl rfl rfl ?_
              refine j_gfr (pc' := 105) (x := 68) rfl rfl j_a67 rfl rfl ?_
              refine j_iload (pc' := 107) rfl rfl rfl ?_
              refine j_iload (pc' := 109) rfl rfl rfl ?_
              refine j_cpl (pc' := 112) rfl rfl rfl j_a74 j_a68 (fun σ13 => ?_)
              refine j_iconst (pc' := 113) (x := (0 : Int32)) rfl rfl rfl ?_
              exact j_ret rfl rfl rfl (fun _ h => h)
      refine j_spl (k := (1 : Int32)) (fun h122 => ?_) (fun h122 => ?_)
      · subst h122
        refine j_aald (pc' := 31) (r := 69) rfl rfl j_a42 (by decide) rfl ?_
        refine j_astore (pc' := 33) (L' := [some (.ref 0), some (.int (3 : Int32)), some (.int l2), some (.int (1 : Int32)), some (.int l4), some (.int l5), some (.ref 73), some (.ref 69)]) rfl rfl rfl ?_
        refine j_aload (pc' := 35) rfl rfl rfl ?_
        refine j_callTi (pc' := 38) (ai := 91) (vs := [.ref 73]) (rest := []) rfl rfl (fun _ _ => rfl) (c_X8_isMade_73  σ) (j_dd rfl hd) rfl ?_
        refine j_two (pT := 49) (pF := 52) (L1 := [some (.ref 0), some (.int (3 : Int32)), some (.int l2), some (.int (1 : Int32)), some (.int l4), some (.int l5), some (.ref 73), some (.ref 69)]) (st1 := []) (fun o kT kF => ?_) (fun h128 => ?_) (fun h128 => ?_)
        · refine j_ifeq (t := 49) (pc' := 41) rfl rfl rfl (fun h129 => ?_) (fun h129 => ?_)
          · exact kT (Or.inl h129)
          · refine j_aload (pc' := 43) rfl rfl rfl ?_
            refine j_callTi (pc' := 46) (ai := 91) (vs := [.ref 69]) (rest := []) rfl rfl (fun _ _ => rfl) (c_X8_isMade_69  σ) (j_dd rfl hd) rfl ?_
            refine j_ifne (t := 52) (pc' := 49) rfl rfl rfl (fun h130 => ?_) (fun h130 => ?_)
            · exact kF (fun z => z.elim h129 (h130))
            · exact kT (Or.inr (h130))
        · refine j_bipush (pc' := 51) (x := (-6 : Int32)) rfl rfl rfl ?_
          exact j_ret rfl rfl rfl (fun _ h => h)
        · refine j_aload (pc' := 54) rfl rfl rfl ?_
          refine j_gfi (pc' := 57) rfl rfl j_a73 rfl ?_
          refine j_aload (pc' := 59) rfl rfl rfl ?_
          refine j_gfi (pc' := 62) rfl rfl j_a69 rfl ?_
          refine j_two (pT := 65) (pF := 68) (L1 := [some (.ref 0), some (.int (3 : Int32)), some (.int l2), some (.int (1 : Int32)), some (.int l4), some (.int l5), some (.ref 73), some (.ref 69)]) (st1 := []) (fun o kT kF => ?_) (fun h126 => ?_) (fun h126 => ?_)
          · refine j_iceq (t := 68) (pc' := 65) rfl rfl rfl (fun h127 => ?_) (fun h127 => ?_)
            · exact kF (fun z => z h127)
            · exact kT h127
          · refine j_bipush (pc' := 67) (x := (-8 : Int32)) rfl rfl rfl ?_
            exact j_ret rfl rfl rfl (fun _ h => h)
          · refine j_aload (pc' := 70) rfl rfl rfl ?_
            refine j_iload_n (pc' := 71) rfl rfl rfl ?_
            refine j_iload (pc' := 73) rfl rfl rfl ?_
            refine j_callTi (pc' := 76) (ai := 94) (vs := [.ref 73, .int l2, .int l5]) (rest := []) rfl rfl (fun _ _ => rfl) (c_X8_hasPart_73 l2 l5 σ) (j_dd rfl hd) rfl ?_
            refine j_two (pT := 91) (pF := 94) (L1 := [some (.ref 0), some (.int (3 : Int32)), some (.int l2), some (.int (1 : Int32)), some (.int l4), some (.int l5), some (.ref 73), some (.ref 69)]) (st1 := []) (fun o kT kF => ?_) (fun h123 => ?_) (fun h123 => ?_)
            · refine j_ifeq (t := 91) (pc' := 79) rfl rfl rfl (fun h124 => ?_) (fun h124 => ?_)
              · exact kT (Or.inl h124)
              · refine j_aload (pc' := 81) rfl rfl rfl ?_
                refine j_iload (pc' := 83) rfl rfl rfl ?_
                refine j_iload (pc' := 85) rfl rfl rfl ?_
                refine j_callTi (pc' := 88) (ai := 94) (vs := [.ref 69, .int l4, .int l5]) (rest := []) rfl rfl (fun _ _ => rfl) (c_X8_hasPart_69 l4 l5 σ) (j_dd rfl hd) rfl ?_
                refine j_ifne (t := 94) (pc' := 91) rfl rfl rfl (fun h125 => ?_) (fun h125 => ?_)
                · exact kF (fun z => z.elim h124 (h125))
                · exact kT (Or.inr (h125))
            · refine j_bipush (pc' := 93) (x := (-7 : Int32)) rfl rfl rfl ?_
              exact j_ret rfl rfl rfl (fun _ h => h)
            · refine j_aload (pc' := 96) rfl rfl rfl ?_
              refine j_gfr (pc' := 99) (x := 74) rfl rfl j_a73 rfl rfl ?_
              refine j_iload_n (pc' := 100) rfl rfl rfl ?_
              refine j_aload (pc' := 102) rfl rfl rfl ?_
              refine j_gfr (pc' := 105) (x := 70) rfl rfl j_a69 rfl rfl ?_
              refine j_iload (pc' := 107) rfl rfl rfl ?_
              refine j_iload (pc' := 109) rfl rfl rfl ?_
              refine j_cpl (pc' := 112) rfl rfl rfl j_a74 j_a70 (fun σ14 => ?_)
              refine j_iconst (pc' := 113) (x := (0 : Int32)) rfl rfl rfl ?_
              exact j_ret rfl rfl rfl (fun _ h => h)
      refine j_spl (k := (2 : Int32)) (fun h131 => ?_) (fun h131 => ?_)
      · subst h131
        refine j_aald (pc' := 31) (r := 71) rfl rfl j_a42 (by decide) rfl ?_
        refine j_astore (pc' := 33) (L' := [some (.ref 0), some (.int (3 : Int32)), some (.int l2), some (.int (2 : Int32)), some (.int l4), some (.int l5), some (.ref 73), some (.ref 71)]) rfl rfl rfl ?_
        refine j_aload (pc' := 35) rfl rfl rfl ?_
        refine j_callTi (pc' := 38) (ai := 91) (vs := [.ref 73]) (rest := []) rfl rfl (fun _ _ => rfl) (c_X8_isMade_73  σ) (j_dd rfl hd) rfl ?_
        refine j_two (pT := 49) (pF := 52) (L1 := [some (.ref 0), some (.int (3 : Int32)), some (.int l2), some (.int (2 : Int32)), some (.int l4), some (.int l5), some (.ref 73), some (.ref 71)]) (st1 := []) (fun o kT kF => ?_) (fun h137 => ?_) (fun h137 => ?_)
        · refine j_ifeq (t := 49) (pc' := 41) rfl rfl rfl (fun h138 => ?_) (fun h138 => ?_)
          · exact kT (Or.inl h138)
          · refine j_aload (pc' := 43) rfl rfl rfl ?_
            refine j_callTi (pc' := 46) (ai := 91) (vs := [.ref 71]) (rest := []) rfl rfl (fun _ _ => rfl) (c_X8_isMade_71  σ) (j_dd rfl hd) rfl ?_
            refine j_ifne (t := 52) (pc' := 49) rfl rfl rfl (fun h139 => ?_) (fun h139 => ?_)
            · exact kF (fun z => z.elim h138 (h139))
            · exact kT (Or.inr (h139))
        · refine j_bipush (pc' := 51) (x := (-6 : Int32)) rfl rfl rfl ?_
          exact j_ret rfl rfl rfl (fun _ h => h)
        · refine j_aload (pc' := 54) rfl rfl rfl ?_
          refine j_gfi (pc' := 57) rfl rfl j_a73 rfl ?_
          refine j_aload (pc' := 59) rfl rfl rfl ?_
          refine j_gfi (pc' := 62) rfl rfl j_a71 rfl ?_
          refine j_two (pT := 65) (pF := 68) (L1 := [some (.ref 0), some (.int (3 : Int32)), some (.int l2), some (.int (2 : Int32)), some (.int l4), some (.int l5), some (.ref 73), some (.ref 71)]) (st1 := []) (fun o kT kF => ?_) (fun h135 => ?_) (fun h135 => ?_)
          · refine j_iceq (t := 68) (pc' := 65) rfl rfl rfl (fun h136 => ?_) (fun h136 => ?_)
            · exact kF (fun z => z h136)
            · exact kT h136
          · refine j_bipush (pc' := 67) (x := (-8 : Int32)) rfl rfl rfl ?_
            exact j_ret rfl rfl rfl (fun _ h => h)
          · refine j_aload (pc' := 70) rfl rfl rfl ?_
            refine j_iload_n (pc' := 71) rfl rfl rfl ?_
            refine j_iload (pc' := 73) rfl rfl rfl ?_
            refine j_callTi (pc' := 76) (ai := 94) (vs := [.ref 73, .int l2, .int l5]) (rest := []) rfl rfl (fun _ _ => rfl) (c_X8_hasPart_73 l2 l5 σ) (j_dd rfl hd) rfl ?_
            refine j_two (pT := 91) (pF := 94) (L1 := [some (.ref 0), some (.int (3 : Int32)), some (.int l2), some (.int (2 : Int32)), some (.int l4), some (.int l5), some (.ref 73), some (.ref 71)]) (st1 := []) (fun o kT kF => ?_) (fun h132 => ?_) (fun h132 => ?_)
            · refine j_ifeq (t := 91) (pc' := 79) rfl rfl rfl (fun h133 => ?_) (fun h133 => ?_)
              · exact kT (Or.inl h133)
              · refine j_aload (pc' := 81) rfl rfl rfl ?_
                refine j_iload (pc' := 83) rfl rfl rfl ?_
                refine j_iload (pc' := 85) rfl rfl rfl ?_
                refine j_callTi (pc' := 88) (ai := 94) (vs := [.ref 71, .int l4, .int l5]) (rest := []) rfl rfl (fun _ _ => rfl) (c_X8_hasPart_71 l4 l5 σ) (j_dd rfl hd) rfl ?_
                refine j_ifne (t := 94) (pc' := 91) rfl rfl rfl (fun h134 => ?_) (fun h134 => ?_)
                · exact kF (fun z => z.elim h133 (h134))
                · exact kT (Or.inr (h134))
            · refine j_bipush (pc' := 93) (x := (-7 : Int32)) rfl rfl rfl ?_
              exact j_ret rfl rfl rfl (fun _ h => h)
            · refine j_aload (pc' := 96) rfl rfl rfl ?_
              refine j_gfr (pc' := 99) (x := 74) rfl rfl j_a73 rfl rfl ?_
              refine j_iload_n (pc' := 100) rfl rfl rfl ?_
              refine j_aload (pc' := 102) rfl rfl rfl ?_
              refine j_gfr (pc' := 105) (x := 72) rfl rfl j_a71 rfl rfl ?_
              refine j_iload (pc' := 107) rfl rfl rfl ?_
              refine j_iload (pc' := 109) rfl rfl rfl ?_
              refine j_cpl (pc' := 112) rfl rfl rfl j_a74 j_a72 (fun σ15 => ?_)
              refine j_iconst (pc' := 113) (x := (0 : Int32)) rfl rfl rfl ?_
              exact j_ret rfl rfl rfl (fun _ h => h)
      refine j_spl (k := (3 : Int32)) (fun h140 => ?_) (fun h140 => ?_)
      · subst h140
        refine j_aald (pc' := 31) (r := 73) rfl rfl j_a42 (by decide) rfl ?_
        refine j_astore (pc' := 33) (L' := [some (.ref 0), some (.int (3 : Int32)), some (.int l2), some (.int (3 : Int32)), some (.int l4), some (.int l5), some (.ref 73), some (.ref 73)]) rfl rfl rfl ?_
        refine j_aload (pc' := 35) rfl rfl rfl ?_
        refine j_callTi (pc' := 38) (ai := 91) (vs := [.ref 73]) (rest := []) rfl rfl (fun _ _ => rfl) (c_X8_isMade_73  σ) (j_dd rfl hd) rfl ?_
        refine j_two (pT := 49) (pF := 52) (L1 := [some (.ref 0), some (.int (3 : Int32)), some (.int l2), some (.int (3 : Int32)), some (.int l4), some (.int l5), some (.ref 73), some (.ref 73)]) (st1 := []) (fun o kT kF => ?_) (fun h146 => ?_) (fun h146 => ?_)
        · refine j_ifeq (t := 49) (pc' := 41) rfl rfl rfl (fun h147 => ?_) (fun h147 => ?_)
          · exact kT (Or.inl h147)
          · refine j_aload (pc' := 43) rfl rfl rfl ?_
            refine j_callTi (pc' := 46) (ai := 91) (vs := [.ref 73]) (rest := []) rfl rfl (fun _ _ => rfl) (c_X8_isMade_73  σ) (j_dd rfl hd) rfl ?_
            refine j_ifne (t := 52) (pc' := 49) rfl rfl rfl (fun h148 => ?_) (fun h148 => ?_)
            · exact kF (fun z => z.elim h147 (h148))
            · exact kT (Or.inr (h148))
        · refine j_bipush (pc' := 51) (x := (-6 : Int32)) rfl rfl rfl ?_
          exact j_ret rfl rfl rfl (fun _ h => h)
        · refine j_aload (pc' := 54) rfl rfl rfl ?_
          refine j_gfi (pc' := 57) rfl rfl j_a73 rfl ?_
          refine j_aload (pc' := 59) rfl rfl rfl ?_
          refine j_gfi (pc' := 62) rfl rfl j_a73 rfl ?_
          refine j_two (pT := 65) (pF := 68) (L1 := [some (.ref 0), some (.int (3 : Int32)), some (.int l2), some (.int (3 : Int32)), some (.int l4), some (.int l5), some (.ref 73), some (.ref 73)]) (st1 := []) (fun o kT kF => ?_) (fun h144 => ?_) (fun h144 => ?_)
          · refine j_iceq (t := 68) (pc' := 65) rfl rfl rfl (fun h145 => ?_) (fun h145 => ?_)
            · exact kF (fun z => z h145)
            · exact kT h145
          · refine j_bipush (pc' := 67) (x := (-8 : Int32)) rfl rfl rfl ?_
            exact j_ret rfl rfl rfl (fun _ h => h)
          · refine j_aload (pc' := 70) rfl rfl rfl ?_
            refine j_iload_n (pc' := 71) rfl rfl rfl ?_
            refine j_iload (pc' := 73) rfl rfl rfl ?_
            refine j_callTi (pc' := 76) (ai := 94) (vs := [.ref 73, .int l2, .int l5]) (rest := []) rfl rfl (fun _ _ => rfl) (c_X8_hasPart_73 l2 l5 σ) (j_dd rfl hd) rfl ?_
            refine j_two (pT := 91) (pF := 94) (L1 := [some (.ref 0), some (.int (3 : Int32)), some (.int l2), some (.int (3 : Int32)), some (.int l4), some (.int l5), some (.ref 73), some (.ref 73)]) (st1 := []) (fun o kT kF => ?_) (fun h141 => ?_) (fun h141 => ?_)
            · refine j_ifeq (t := 91) (pc' := 79) rfl rfl rfl (fun h142 => ?_) (fun h142 => ?_)
              · exact kT (Or.inl h142)
              · refine j_aload (pc' := 81) rfl rfl rfl ?_
                refine j_iload (pc' := 83) rfl rfl rfl ?_
                refine j_iload (pc' := 85) rfl rfl rfl ?_
                refine j_callTi (pc' := 88) (ai := 94) (vs := [.ref 73, .int l4, .int l5]) (rest := []) rfl rfl (fun _ _ => rfl) (c_X8_hasPart_73 l4 l5 σ) (j_dd rfl hd) rfl ?_
                refine j_ifne (t := 94) (pc' := 91) rfl rfl rfl (fun h143 => ?_) (fun h143 => ?_)
                · exact kF (fun z => z.elim h142 (h143))
                · exact kT (Or.inr (h143))
            · refine j_bipush (pc' := 93) (x := (-7 : Int32)) rfl rfl rfl ?_
              exact j_ret rfl rfl rfl (fun _ h => h)
            · refine j_aload (pc' := 96) rfl rfl rfl ?_
              refine j_gfr (pc' := 99) (x := 74) rfl rfl j_a73 rfl rfl ?_
              refine j_iload_n (pc' := 100) rfl rfl rfl ?_
              refine j_aload (pc' := 102) rfl rfl rfl ?_
              refine j_gfr (pc' := 105) (x := 74) rfl rfl j_a73 rfl rfl ?_
              refine j_iload (pc' := 107) rfl rfl rfl ?_
              refine j_iload (pc' := 109) rfl rfl rfl ?_
              refine j_cpl (pc' := 112) rfl rfl rfl j_a74 j_a74 (fun σ16 => ?_)
              refine j_iconst (pc' := 113) (x := (0 : Int32)) rfl rfl rfl ?_
              exact j_ret rfl rfl rfl (fun _ h => h)
      exact j_none
    exact j_none

noncomputable def p_X12_paste_113 (l1 : Int32) (l2 : Int32) (l3 : Int32) (l4 : Int32) (l5 : Int32) : Nat → Int32 → j_G → Option j_G
  | 0, _, _ => none
  | n + 1, l6, σ =>
    if l6 < l5 then (j_ix ((((60 : Int32) * l1) + l2) + l6) 240 (
    j_ix l6 60 (
    j_lt (j_sl σ 97 (l6).toNatClampNeg (σ.2 96 (((((60 : Int32) * l1) + l2) + l6)).toNatClampNeg)) fun σ1 =>
    p_X12_paste_113 l1 l2 l3 l4 l5 n (l6 + (1 : Int32)) σ1))) else (some σ)

noncomputable def p_X12_paste_150 (l3 : Int32) (l4 : Int32) (l5 : Int32) : Nat → Int32 → j_G → Option j_G
  | 0, _, _ => none
  | n + 1, l6, σ =>
    if l6 < l5 then (j_ix l6 60 (
    j_ix ((((60 : Int32) * l3) + l4) + l6) 240 (
    j_lt (j_sl σ 96 (((((60 : Int32) * l3) + l4) + l6)).toNatClampNeg (σ.2 97 (l6).toNatClampNeg)) fun σ1 =>
    p_X12_paste_150 l3 l4 l5 n (l6 + (1 : Int32)) σ1))) else (some σ)

noncomputable def f_X12_paste (l1 : Int32) (l2 : Int32) (l3 : Int32) (l4 : Int32) (l5 : Int32) (σ : j_G) : Option (Int32 × j_G) :=
  if ((f_X12_isSlot l1) = 0) ∨ ((f_X12_isSlot l3) = 0) then (some ((-2 : Int32), σ)) else (j_ix l1 4 (
  if ¬ (σ.1 94 (l1).toNatClampNeg) = (-1 : Int32) then (j_ix l3 4 (
  if (σ.1 94 (l3).toNatClampNeg) = (-1 : Int32) then (some ((-6 : Int32), σ)) else (j_ix l1 4 (
  j_ix l3 4 (
  if ¬ (σ.1 95 (l1).toNatClampNeg) = (σ.1 95 (l3).toNatClampNeg) then (some ((-8 : Int32), σ)) else (if (¬ l2 < 0) ∧ ((¬ l4 < 0) ∧ (¬ l5 < 0)) then (j_ix l1 4 (
  if ¬ ((σ.1 94 (l1).toNatClampNeg)).toInt64 < ((l2).toInt64 + (l5).toInt64) then (j_ix l3 4 (
  if ((σ.1 94 (l3).toNatClampNeg)).toInt64 < ((l4).toInt64 + (l5).toInt64) then (some ((-7 : Int32), σ)) else (j_b1 (p_X12_paste_113 l1 l2 l3 l4 l5 j_F (0 : Int32) σ) fun σ1 =>
  j_b1 (p_X12_paste_150 l3 l4 l5 j_F (0 : Int32) σ1) fun σ2 =>
  some ((0 : Int32), σ2)))) else (some ((-7 : Int32), σ)))) else (some ((-7 : Int32), σ)))))))) else (some ((-6 : Int32), σ))))
theorem l_X12_paste_113 {d : Nat} (hd : 2 ≤ d) (τ : j_G) (l1 : Int32) (l2 : Int32) (l3 : Int32) (l4 : Int32) (l5 : Int32) : ∀ (n : Nat) (l6 : Int32) (σ : j_G), j_J false τ M_cX12_paste d 113 [some (.ref 75), some (.int l1), some (.int l2), some (.int l3), some (.int l4), some (.int l5), some (.int l6)] [] σ (p_X12_paste_113 l1 l2 l3 l4 l5 n l6 σ) (fun r Q => j_Tr false τ M_cX12_paste d 147 [some (.ref 75), none, none, some (.int l3), some (.int l4), some (.int l5), none] [] r Q) := by
  intro n
  induction n with
  | zero => intro l6 σ; exact j_none
  | succ n ih =>
    intro l6 σ
    unfold p_X12_paste_113
    refine j_iload (pc' := 115) rfl rfl rfl ?_
    refine j_iload (pc' := 117) rfl rfl rfl ?_
    refine j_two (pT := 120) (pF := 147) (L1 := [some (.ref 75), some (.int l1), some (.int l2), some (.int l3), some (.int l4), some (.int l5), some (.int l6)]) (st1 := []) (fun o kT kF => ?_) (fun h1 => ?_) (fun h1 => ?_)
    · refine j_icge (t := 147) (pc' := 120) rfl rfl rfl (fun h2 => ?_) (fun h2 => ?_)
      · exact kF h2
      · exact kT h2
    · refine j_aload_n (pc' := 121) rfl rfl rfl ?_
      refine j_gfr (pc' := 124) (x := 97) rfl rfl j_a75 rfl rfl ?_
      refine j_iload (pc' := 126) rfl rfl rfl ?_
      refine j_aload_n (pc' := 127) rfl rfl rfl ?_
      refine j_gfr (pc' := 130) (x := 96) rfl rfl j_a75 rfl rfl ?_
      refine j_bipush (pc' := 132) (x := (60 : Int32)) rfl rfl rfl ?_
      refine j_iload_n (pc' := 133) rfl rfl rfl ?_
      refine j_imul (pc' := 134) rfl rfl ?_
      refine j_iload_n (pc' := 135) rfl rfl rfl ?_
      refine j_iadd (pc' := 136) rfl rfl ?_
      refine j_iload (pc' := 138) rfl rfl rfl ?_
      refine j_iadd (pc' := 139) rfl rfl ?_
      refine j_lald (pc' := 140) rfl rfl j_a96 ?_
      refine j_last (pc' := 141) rfl rfl j_a97 (fun σ1 => ?_)
      refine j_iincx (pc' := 144) (y := (1 : Int32)) (L' := [some (.ref 75), some (.int l1), some (.int l2), some (.int l3), some (.int l4), some (.int l5), some (.int (l6 + (1 : Int32)))]) rfl rfl rfl rfl rfl ?_
      refine j_goto (t := 113) rfl rfl ?_
      exact ih (l6 + (1 : Int32)) σ1
    · refine j_wk [true, false, false, true, true, true, false] (L' := [some (.ref 75), none, none, some (.int l3), some (.int l4), some (.int l5), none]) rfl ?_
      exact j_end (fun _ h => h)

theorem l_X12_paste_150 {d : Nat} (hd : 2 ≤ d) (τ : j_G) (l3 : Int32) (l4 : Int32) (l5 : Int32) : ∀ (n : Nat) (l6 : Int32) (σ : j_G), j_J false τ M_cX12_paste d 150 [some (.ref 75), none, none, some (.int l3), some (.int l4), some (.int l5), some (.int l6)] [] σ (p_X12_paste_150 l3 l4 l5 n l6 σ) (fun r Q => j_Tr false τ M_cX12_paste d 185 [none, none, none, none, none, none, none] [] r Q) := by
  intro n
  induction n with
  | zero => intro l6 σ; exact j_none
  | succ n ih =>
    intro l6 σ
    unfold p_X12_paste_150
    refine j_iload (pc' := 152) rfl rfl rfl ?_
    refine j_iload (pc' := 154) rfl rfl rfl ?_
    refine j_two (pT := 157) (pF := 185) (L1 := [some (.ref 75), none, none, some (.int l3), some (.int l4), some (.int l5), some (.int l6)]) (st1 := []) (fun o kT kF => ?_) (fun h1 => ?_) (fun h1 => ?_)
    · refine j_icge (t := 185) (pc' := 157) rfl rfl rfl (fun h2 => ?_) (fun h2 => ?_)
      · exact kF h2
      · exact kT h2
    · refine j_aload_n (pc' := 158) rfl rfl rfl ?_
      refine j_gfr (pc' := 161) (x := 96) rfl rfl j_a75 rfl rfl ?_
      refine j_bipush (pc' := 163) (x := (60 : Int32)) rfl rfl rfl ?_
      refine j_iload_n (pc' := 164) rfl rfl rfl ?_
      refine j_imul (pc' := 165) rfl rfl ?_
      refine j_iload (pc' := 167) rfl rfl rfl ?_
      refine j_iadd (pc' := 168) rfl rfl ?_
      refine j_iload (pc' := 170) rfl rfl rfl ?_
      refine j_iadd (pc' := 171) rfl rfl ?_
      refine j_aload_n (pc' := 172) rfl rfl rfl ?_
      refine j_gfr (pc' := 175) (x := 97) rfl rfl j_a75 rfl rfl ?_
      refine j_iload (pc' := 177) rfl rfl rfl ?_
      refine j_lald (pc' := 178) rfl rfl j_a97 ?_
      refine j_last (pc' := 179) rfl rfl j_a96 (fun σ1 => ?_)
      refine j_iincx (pc' := 182) (y := (1 : Int32)) (L' := [some (.ref 75), none, none, some (.int l3), some (.int l4), some (.int l5), some (.int (l6 + (1 : Int32)))]) rfl rfl rfl rfl rfl ?_
      refine j_goto (t := 150) rfl rfl ?_
      exact ih (l6 + (1 : Int32)) σ1
    · refine j_wk [false, true, true, false, false, false, false] (L' := [none, none, none, none, none, none, none]) rfl ?_
      exact j_end (fun _ h => h)

theorem c_X12_paste (l1 : Int32) (l2 : Int32) (l3 : Int32) (l4 : Int32) (l5 : Int32) (σ : j_G) : j_K false 2 355 [.ref 75, .int l1, .int l2, .int l3, .int l4, .int l5] σ (f_X12_paste l1 l2 l3 l4 l5 σ) j_Ri := by
  refine j_mkK (M := M_cX12_paste) (L := [some (.ref 75), some (.int l1), some (.int l2), some (.int l3), some (.int l4), some (.int l5), none]) (m := 1) t_355 rfl (j_rcvO j_a75 rfl) rfl (fun d hd τ => ?_)
  unfold f_X12_paste
  refine j_iload_n (pc' := 1) rfl rfl rfl ?_
  refine j_callTi (pc' := 4) (ai := 351) (vs := [.int l1]) (rest := []) rfl rfl (fun _ _ => rfl) (c_X12_isSlot l1 σ) (j_dd rfl hd) rfl ?_
  refine j_two (pT := 14) (pF := 17) (L1 := [some (.ref 75), some (.int l1), some (.int l2), some (.int l3), some (.int l4), some (.int l5), none]) (st1 := []) (fun o kT kF => ?_) (fun h15 => ?_) (fun h15 => ?_)
  · refine j_ifeq (t := 14) (pc' := 7) rfl rfl rfl (fun h16 => ?_) (fun h16 => ?_)
    · exact kT (Or.inl h16)
    · refine j_iload_n (pc' := 8) rfl rfl rfl ?_
      refine j_callTi (pc' := 11) (ai := 351) (vs := [.int l3]) (rest := []) rfl rfl (fun _ _ => rfl) (c_X12_isSlot l3 σ) (j_dd rfl hd) rfl ?_
      refine j_ifne (t := 17) (pc' := 14) rfl rfl rfl (fun h17 => ?_) (fun h17 => ?_)
      · exact kF (fun z => z.elim h16 (h17))
      · exact kT (Or.inr (h17))
  · refine j_bipush (pc' := 16) (x := (-2 : Int32)) rfl rfl rfl ?_
    exact j_ret rfl rfl rfl (fun _ h => h)
  · refine j_aload_n (pc' := 18) rfl rfl rfl ?_
    refine j_gfr (pc' := 21) (x := 94) rfl rfl j_a75 rfl rfl ?_
    refine j_iload_n (pc' := 22) rfl rfl rfl ?_
    refine j_iald (pc' := 23) rfl rfl j_a94 ?_
    refine j_iconst (pc' := 24) (x := (-1 : Int32)) rfl rfl rfl ?_
    refine j_two (pT := 27) (pF := 37) (L1 := [some (.ref 75), some (.int l1), some (.int l2), some (.int l3), some (.int l4), some (.int l5), none]) (st1 := []) (fun o kT kF => ?_) (fun h13 => ?_) (fun h13 => ?_)
    · refine j_iceq (t := 37) (pc' := 27) rfl rfl rfl (fun h14 => ?_) (fun h14 => ?_)
      · exact kF (fun z => z h14)
      · exact kT h14
    · refine j_aload_n (pc' := 28) rfl rfl rfl ?_
      refine j_gfr (pc' := 31) (x := 94) rfl rfl j_a75 rfl rfl ?_
      refine j_iload_n (pc' := 32) rfl rfl rfl ?_
      refine j_iald (pc' := 33) rfl rfl j_a94 ?_
      refine j_iconst (pc' := 34) (x := (-1 : Int32)) rfl rfl rfl ?_
      refine j_two (pT := 37) (pF := 40) (L1 := [some (.ref 75), some (.int l1), some (.int l2), some (.int l3), some (.int l4), some (.int l5), none]) (st1 := []) (fun o kT kF => ?_) (fun h11 => ?_) (fun h11 => ?_)
      · refine j_icne (t := 40) (pc' := 37) rfl rfl rfl (fun h12 => ?_) (fun h12 => ?_)
        · exact kF h12
        · exact kT h12
      · refine j_bipush (pc' := 39) (x := (-6 : Int32)) rfl rfl rfl ?_
        exact j_ret rfl rfl rfl (fun _ h => h)
      · refine j_aload_n (pc' := 41) rfl rfl rfl ?_
        refine j_gfr (pc' := 44) (x := 95) rfl rfl j_a75 rfl rfl ?_
        refine j_iload_n (pc' := 45) rfl rfl rfl ?_
        refine j_iald (pc' := 46) rfl rfl j_a95 ?_
        refine j_aload_n (pc' := 47) rfl rfl rfl ?_
        refine j_gfr (pc' := 50) (x := 95) rfl rfl j_a75 rfl rfl ?_
        refine j_iload_n (pc' := 51) rfl rfl rfl ?_
        refine j_iald (pc' := 52) rfl rfl j_a95 ?_
        refine j_two (pT := 55) (pF := 58) (L1 := [some (.ref 75), some (.int l1), some (.int l2), some (.int l3), some (.int l4), some (.int l5), none]) (st1 := []) (fun o kT kF => ?_) (fun h9 => ?_) (fun h9 => ?_)
        · refine j_iceq (t := 58) (pc' := 55) rfl rfl rfl (fun h10 => ?_) (fun h10 => ?_)
          · exact kF (fun z => z h10)
          · exact kT h10
        · refine j_bipush (pc' := 57) (x := (-8 : Int32)) rfl rfl rfl ?_
          exact j_ret rfl rfl rfl (fun _ h => h)
        · refine j_iload_n (pc' := 59) rfl rfl rfl ?_
          refine j_two (pT := 72) (pF := 107) (L1 := [some (.ref 75), some (.int l1), some (.int l2), some (.int l3), some (.int l4), some (.int l5), none]) (st1 := []) (fun o kT kF => ?_) (fun h5 => ?_) (fun h5 => ?_)
          · refine j_iflt (t := 107) (pc' := 62) rfl rfl rfl (fun h6 => ?_) (fun h6 => ?_)
            · exact kF (fun z => z.1 h6)
            · refine j_iload (pc' := 64) rfl rfl rfl ?_
              refine j_iflt (t := 107) (pc' := 67) rfl rfl rfl (fun h7 => ?_) (fun h7 => ?_)
              · exact kF (fun z => (fun z => z.1 h7) z.2)
              · refine j_iload (pc' := 69) rfl rfl rfl ?_
                refine j_iflt (t := 107) (pc' := 72) rfl rfl rfl (fun h8 => ?_) (fun h8 => ?_)
                · exact kF (fun z => (fun z => (fun z => z h8) z.2) z.2)
                · exact kT (⟨h6, ⟨h7, h8⟩⟩)
          · refine j_iload_n (pc' := 73) rfl rfl rfl ?_
            refine j_i2l (pc' := 74) rfl rfl ?_
            refine j_iload (pc' := 76) rfl rfl rfl ?_
            refine j_i2l (pc' := 77) rfl rfl ?_
            refine j_ladd (pc' := 78) rfl rfl ?_
            refine j_aload_n (pc' := 79) rfl rfl rfl ?_
            refine j_gfr (pc' := 82) (x := 94) rfl rfl j_a75 rfl rfl ?_
            refine j_iload_n (pc' := 83) rfl rfl rfl ?_
            refine j_iald (pc' := 84) rfl rfl j_a94 ?_
            refine j_i2l (pc' := 85) rfl rfl ?_
            refine j_lcmp (pc' := 86) rfl rfl ?_
            refine j_two (pT := 89) (pF := 107) (L1 := [some (.ref 75), some (.int l1), some (.int l2), some (.int l3), some (.int l4), some (.int l5), none]) (st1 := []) (fun o kT kF => ?_) (fun h3 => ?_) (fun h3 => ?_)
            · refine j_ifgtL (t := 107) (pc' := 89) rfl rfl rfl (fun h4 => ?_) (fun h4 => ?_)
              · exact kF (fun z => z h4)
              · exact kT h4
            · refine j_iload (pc' := 91) rfl rfl rfl ?_
              refine j_i2l (pc' := 92) rfl rfl ?_
              refine j_iload (pc' := 94) rfl rfl rfl ?_
              refine j_i2l (pc' := 95) rfl rfl ?_
              refine j_ladd (pc' := 96) rfl rfl ?_
              refine j_aload_n (pc' := 97) rfl rfl rfl ?_
              refine j_gfr (pc' := 100) (x := 94) rfl rfl j_a75 rfl rfl ?_
              refine j_iload_n (pc' := 101) rfl rfl rfl ?_
              refine j_iald (pc' := 102) rfl rfl j_a94 ?_
              refine j_i2l (pc' := 103) rfl rfl ?_
              refine j_lcmp (pc' := 104) rfl rfl ?_
              refine j_two (pT := 107) (pF := 110) (L1 := [some (.ref 75), some (.int l1), some (.int l2), some (.int l3), some (.int l4), some (.int l5), none]) (st1 := []) (fun o kT kF => ?_) (fun h1 => ?_) (fun h1 => ?_)
              · refine j_ifleL (t := 110) (pc' := 107) rfl rfl rfl (fun h2 => ?_) (fun h2 => ?_)
                · exact kF h2
                · exact kT h2
              · refine j_bipush (pc' := 109) (x := (-7 : Int32)) rfl rfl rfl ?_
                exact j_ret rfl rfl rfl (fun _ h => h)
              · refine j_iconst (pc' := 111) (x := (0 : Int32)) rfl rfl rfl ?_
                refine j_istore (pc' := 113) (L' := [some (.ref 75), some (.int l1), some (.int l2), some (.int l3), some (.int l4), some (.int l5), some (.int (0 : Int32))]) rfl rfl rfl ?_
                refine j_q1 (l_X12_paste_113 hd τ l1 l2 l3 l4 l5 j_F (0 : Int32) σ) (fun σ1 => ?_)
                show j_J false τ M_cX12_paste d 147 [some (.ref 75), none, none, some (.int l3), some (.int l4), some (.int l5), none] [] σ1 _ _
                refine j_iconst (pc' := 148) (x := (0 : Int32)) rfl rfl rfl ?_
                refine j_istore (pc' := 150) (L' := [some (.ref 75), none, none, some (.int l3), some (.int l4), some (.int l5), some (.int (0 : Int32))]) rfl rfl rfl ?_
                refine j_q1 (l_X12_paste_150 hd τ l3 l4 l5 j_F (0 : Int32) σ1) (fun σ2 => ?_)
                show j_J false τ M_cX12_paste d 185 [none, none, none, none, none, none, none] [] σ2 _ _
                refine j_iconst (pc' := 186) (x := (0 : Int32)) rfl rfl rfl ?_
                exact j_ret rfl rfl rfl (fun _ h => h)
            · refine j_bipush (pc' := 109) (x := (-7 : Int32)) rfl rfl rfl ?_
              exact j_ret rfl rfl rfl (fun _ h => h)
          · refine j_bipush (pc' := 109) (x := (-7 : Int32)) rfl rfl rfl ?_
            exact j_ret rfl rfl rfl (fun _ h => h)
    · refine j_bipush (pc' := 39) (x := (-6 : Int32)) rfl rfl rfl ?_
      exact j_ret rfl rfl rfl (fun _ h => h)

/-! ===== the two fresh objects ===== -/
noncomputable def x_ha : xH := [.inr (11, [.ref 1, .ref 9, .ref 10, .ref 22, .ref 28, .ref 29, .ref 30, .ref 35, .ref 37, .ref 40, .ref 42]), .inr (2, [.int 0, .int 0, .int 0, .int 0, .int 0, .int 0, .int 0, .int 0, .int 0, .int 0, .int 0, .ref 2, .ref 3, .ref 4, .ref 5]), .inl (0, 6, .inl (fun _ => 0)), .inl (0, 6, .inl (fun _ => 0)), .inl (0, 20, .inl (fun _ => 0)), .inr (3, [.int 0, .int 0, .ref 6, .ref 7, .ref 8]), .inl (0, 24, .inl (fun _ => 0)), .inl (0, 24, .inl (fun _ => 0)), .inl (0, 24, .inl (fun _ => 0)), .inl (6, 3, .inr (.inr (.inr (.inr (va_up (va_up (va_up (fun _ => none) 0 (some 43)) 1 (some 51)) 2 (some 59)))))), .inr (7, [.ref 11, .int 0, .int (-1), .ref 19, .ref 21, .int 0, .int 0, .int 0, .int 0]), .inr (2, [.int 0, .int 0, .int 0, .int 0, .int 0, .int 0, .int 0, .int 0, .int 0, .int 0, .int 0, .ref 12, .ref 13, .ref 14, .ref 15]), .inl (0, 6, .inl (fun _ => 0)), .inl (0, 6, .inl (fun _ => 0)), .inl (0, 20, .inl (fun _ => 0)), .inr (3, [.int 0, .int 0, .ref 16, .ref 17, .ref 18]), .inl (0, 24, .inl (fun _ => 0)), .inl (0, 24, .inl (fun _ => 0)), .inl (0, 24, .inl (fun _ => 0)), .inr (10, [.int 0, .ref 20]), .inl (2, 1200, .inl (fun _ => 0)), .inl (0, 5, .inl (fun _ => 0)), .inr (4, [.int 0, .ref 23, .ref 24, .ref 25, .ref 26, .ref 27, .int 0]), .inl (0, 60, .inl (fun _ => 0)), .inl (0, 60, .inl (fun _ => 0)), .inl (0, 60, .inl (fun _ => 0)), .inl (0, 60, .inl (fun _ => 0)), .inl (0, 60, .inl (fun _ => 0)), .inr (6, [.int 0, .int 0, .int 0, .int 0, .int 0]), .inr (6, [.int 0, .int 0, .int 0, .int 0, .int 0]), .inr (9, [.int 0, .int 0, .ref 31, .ref 32, .int 0, .ref 33, .ref 34, .int 0, .int 0]), .inl (0, 60, .inl (fun _ => 0)), .inl (0, 60, .inl (fun _ => 0)), .inl (0, 120, .inl (fun _ => 0)), .inl (0, 120, .inl (fun _ => 0)), .inr (0, [.ref 36]), .inl (0, 1452, .inl (fun _ => 0)), .inr (5, [.ref 38, .ref 39]), .inl (1, 156, .inr (.inl (fun _ => 0))), .inl (1, 156, .inr (.inl (fun _ => 0))), .inr (1, [.int 0, .int 0, .int 0, .ref 41]), .inl (0, 60, .inl (fun _ => 0)), .inl (12, 4, .inr (.inr (.inr (.inr (va_up (va_up (va_up (va_up (fun _ => none) 0 (some 67)) 1 (some 69)) 2 (some 71)) 3 (some 73)))))), .inr (2, [.int 0, .int 0, .int 0, .int 0, .int 0, .int 0, .int 0, .int 0, .int 0, .int 0, .int 0, .ref 44, .ref 45, .ref 46, .ref 47]), .inl (0, 6, .inl (fun _ => 0)), .inl (0, 6, .inl (fun _ => 0)), .inl (0, 20, .inl (fun _ => 0)), .inr (3, [.int 0, .int 0, .ref 48, .ref 49, .ref 50]), .inl (0, 24, .inl (fun _ => 0)), .inl (0, 24, .inl (fun _ => 0)), .inl (0, 24, .inl (fun _ => 0)), .inr (2, [.int 0, .int 0, .int 0, .int 0, .int 0, .int 0, .int 0, .int 0, .int 0, .int 0, .int 0, .ref 52, .ref 53, .ref 54, .ref 55]), .inl (0, 6, .inl (fun _ => 0)), .inl (0, 6, .inl (fun _ => 0)), .inl (0, 20, .inl (fun _ => 0)), .inr (3, [.int 0, .int 0, .ref 56, .ref 57, .ref 58]), .inl (0, 24, .inl (fun _ => 0)), .inl (0, 24, .inl (fun _ => 0)), .inl (0, 24, .inl (fun _ => 0)), .inr (2, [.int 0, .int 0, .int 0, .int 0, .int 0, .int 0, .int 0, .int 0, .int 0, .int 0, .int 0, .ref 60, .ref 61, .ref 62, .ref 63]), .inl (0, 6, .inl (fun _ => 0)), .inl (0, 6, .inl (fun _ => 0)), .inl (0, 20, .inl (fun _ => 0)), .inr (3, [.int 0, .int 0, .ref 64, .ref 65, .ref 66]), .inl (0, 24, .inl (fun _ => 0)), .inl (0, 24, .inl (fun _ => 0)), .inl (0, 24, .inl (fun _ => 0)), .inr (8, [.int (-1), .int 0, .ref 68]), .inl (1, 60, .inr (.inl (fun _ => 0))), .inr (8, [.int (-1), .int 0, .ref 70]), .inl (1, 60, .inr (.inl (fun _ => 0))), .inr (8, [.int (-1), .int 0, .ref 72]), .inl (1, 60, .inr (.inl (fun _ => 0))), .inr (8, [.int (-1), .int 0, .ref 74]), .inl (1, 60, .inr (.inl (fun _ => 0)))]
noncomputable def x_h0 : xH := [.inr (11, [.ref 1, .ref 9, .ref 10, .ref 22, .ref 28, .ref 29, .ref 30, .ref 35, .ref 37, .ref 40, .ref 42]), .inr (2, [.int 0, .int 0, .int 0, .int 0, .int 0, .int 0, .int 0, .int 0, .int 0, .int 0, .int 0, .ref 2, .ref 3, .ref 4, .ref 5]), .inl (0, 6, .inl (fun _ => 0)), .inl (0, 6, .inl (fun _ => 0)), .inl (0, 20, .inl (fun _ => 0)), .inr (3, [.int 0, .int 0, .ref 6, .ref 7, .ref 8]), .inl (0, 24, .inl (fun _ => 0)), .inl (0, 24, .inl (fun _ => 0)), .inl (0, 24, .inl (fun _ => 0)), .inl (6, 3, .inr (.inr (.inr (.inr (va_up (va_up (va_up (fun _ => none) 0 (some 43)) 1 (some 51)) 2 (some 59)))))), .inr (7, [.ref 11, .int 0, .int (-1), .ref 19, .ref 21, .int 0, .int 0, .int 0, .int 0]), .inr (2, [.int 0, .int 0, .int 0, .int 0, .int 0, .int 0, .int 0, .int 0, .int 0, .int 0, .int 0, .ref 12, .ref 13, .ref 14, .ref 15]), .inl (0, 6, .inl (fun _ => 0)), .inl (0, 6, .inl (fun _ => 0)), .inl (0, 20, .inl (fun _ => 0)), .inr (3, [.int 0, .int 0, .ref 16, .ref 17, .ref 18]), .inl (0, 24, .inl (fun _ => 0)), .inl (0, 24, .inl (fun _ => 0)), .inl (0, 24, .inl (fun _ => 0)), .inr (10, [.int 0, .ref 20]), .inl (2, 1200, .inl (fun _ => 0)), .inl (0, 5, .inl (fun _ => 0)), .inr (4, [.int 0, .ref 23, .ref 24, .ref 25, .ref 26, .ref 27, .int 0]), .inl (0, 60, .inl (fun _ => 0)), .inl (0, 60, .inl (fun _ => 0)), .inl (0, 60, .inl (fun _ => 0)), .inl (0, 60, .inl (fun _ => 0)), .inl (0, 60, .inl (fun _ => 0)), .inr (6, [.int 0, .int 0, .int 0, .int 0, .int 0]), .inr (6, [.int 0, .int 0, .int 0, .int 0, .int 0]), .inr (9, [.int 0, .int 0, .ref 31, .ref 32, .int 0, .ref 33, .ref 34, .int 0, .int 0]), .inl (0, 60, .inl (fun _ => 0)), .inl (0, 60, .inl (fun _ => 0)), .inl (0, 120, .inl (fun _ => 0)), .inl (0, 120, .inl (fun _ => 0)), .inr (0, [.ref 36]), .inl (0, 1452, .inl (fun _ => 0)), .inr (5, [.ref 38, .ref 39]), .inl (1, 156, .inr (.inl (fun _ => 0))), .inl (1, 156, .inr (.inl (fun _ => 0))), .inr (1, [.int 0, .int 0, .int 0, .ref 41]), .inl (0, 60, .inl (fun _ => 0)), .inl (12, 4, .inr (.inr (.inr (.inr (va_up (va_up (va_up (va_up (fun _ => none) 0 (some 67)) 1 (some 69)) 2 (some 71)) 3 (some 73)))))), .inr (2, [.int 0, .int 0, .int 0, .int 0, .int 0, .int 0, .int 0, .int 0, .int 0, .int 0, .int 0, .ref 44, .ref 45, .ref 46, .ref 47]), .inl (0, 6, .inl (fun _ => 0)), .inl (0, 6, .inl (fun _ => 0)), .inl (0, 20, .inl (fun _ => 0)), .inr (3, [.int 0, .int 0, .ref 48, .ref 49, .ref 50]), .inl (0, 24, .inl (fun _ => 0)), .inl (0, 24, .inl (fun _ => 0)), .inl (0, 24, .inl (fun _ => 0)), .inr (2, [.int 0, .int 0, .int 0, .int 0, .int 0, .int 0, .int 0, .int 0, .int 0, .int 0, .int 0, .ref 52, .ref 53, .ref 54, .ref 55]), .inl (0, 6, .inl (fun _ => 0)), .inl (0, 6, .inl (fun _ => 0)), .inl (0, 20, .inl (fun _ => 0)), .inr (3, [.int 0, .int 0, .ref 56, .ref 57, .ref 58]), .inl (0, 24, .inl (fun _ => 0)), .inl (0, 24, .inl (fun _ => 0)), .inl (0, 24, .inl (fun _ => 0)), .inr (2, [.int 0, .int 0, .int 0, .int 0, .int 0, .int 0, .int 0, .int 0, .int 0, .int 0, .int 0, .ref 60, .ref 61, .ref 62, .ref 63]), .inl (0, 6, .inl (fun _ => 0)), .inl (0, 6, .inl (fun _ => 0)), .inl (0, 20, .inl (fun _ => 0)), .inr (3, [.int 0, .int 0, .ref 64, .ref 65, .ref 66]), .inl (0, 24, .inl (fun _ => 0)), .inl (0, 24, .inl (fun _ => 0)), .inl (0, 24, .inl (fun _ => 0)), .inr (8, [.int (-1), .int 0, .ref 68]), .inl (1, 60, .inr (.inl (fun _ => 0))), .inr (8, [.int (-1), .int 0, .ref 70]), .inl (1, 60, .inr (.inl (fun _ => 0))), .inr (8, [.int (-1), .int 0, .ref 72]), .inl (1, 60, .inr (.inl (fun _ => 0))), .inr (8, [.int (-1), .int 0, .ref 74]), .inl (1, 60, .inr (.inl (fun _ => 0))), .inr (12, [.int 0, .ref 76, .ref 77, .ref 78, .ref 79, .int 0, .ref 80, .int 0, .int 0, .int 0, .int 0, .int 0, .int 0, .int (-1), .ref 81, .ref 82, .ref 83, .ref 84, .int 0, .int 0, .int 0, .int 0, .int 0, .int 0, .int 0, .ref 85, .ref 86, .ref 87, .ref 88, .int 0, .int 0, .int 0, .int 0, .int 0, .ref 89, .ref 90, .ref 91, .ref 92, .ref 93, .int 0, .int 0, .int 0, .long 0, .ref 94, .ref 95, .ref 96, .ref 97]), .inl (0, 116, .inl (fun _ => 0)), .inl (0, 348, .inl (fun _ => 0)), .inl (3, 3, .inl (fun _ => 0)), .inl (2, 1200, .inl (fun _ => 0)), .inl (0, 5, .inl (fun _ => 0)), .inl (0, 116, .inl (fun _ => 0)), .inl (0, 180, .inl (fun _ => 0)), .inl (0, 60, .inl (fun _ => 0)), .inl (0, 60, .inl (fun _ => 0)), .inl (0, 60, .inl (fun _ => 0)), .inl (0, 60, .inl (fun _ => 0)), .inl (0, 120, .inl (fun _ => 0)), .inl (0, 120, .inl (fun _ => 0)), .inl (0, 1452, .inl (fun _ => 0)), .inl (0, 1452, .inl (fun _ => 0)), .inl (1, 169, .inr (.inl (fun _ => 0))), .inl (1, 169, .inr (.inl (fun _ => 0))), .inl (0, 60, .inl (fun _ => 0)), .inl (0, 4, .inl (upd (upd (upd (upd (fun _ => 0) 0 (-1)) 1 (-1)) 2 (-1)) 3 (-1))), .inl (0, 4, .inl (fun _ => 0)), .inl (1, 240, .inr (.inl (fun _ => 0))), .inl (1, 60, .inr (.inl (fun _ => 0)))]
set_option maxRecDepth 100000 in
set_option maxHeartbeats 4000000 in
theorem x_mk1 : x_run x_mt none 467 9 M_cX11_init (0, [(0, .ref 0)], [], [.inr (11, [.null, .null, .null, .null, .null, .null, .null, .null, .null, .null, .null])], 0, 0) = some (none, x_ha, 74, 4612) := by rfl
set_option maxRecDepth 100000 in
set_option maxHeartbeats 4000000 in
theorem x_mk2 : x_run x_mt none 112 9 M_cX12_init (0, [(0, .ref 75)], [], x_ha ++ [.inr (12, [.int 0, .null, .null, .null, .null, .int 0, .null, .int 0, .int 0, .int 0, .int 0, .int 0, .int 0, .int 0, .null, .null, .null, .null, .int 0, .int 0, .int 0, .int 0, .int 0, .int 0, .int 0, .null, .null, .null, .null, .int 0, .int 0, .int 0, .int 0, .int 0, .null, .null, .null, .null, .null, .int 0, .int 0, .int 0, .long 0, .null, .null, .null, .null])], 0, 0) = some (none, x_h0, 22, 6058) := by rfl
set_option maxRecDepth 100000 in
set_option maxHeartbeats 4000000 in
theorem x_pre {S : Option xS} {P : Option Value × xH × Nat × Nat → Prop} (kk : x_R x_mt S 10 M_law (18, [(3, .int 0), (2, .ref 75), (1, .ref 0), (0, .ref x_scr)], [], x_h0, 98, 10728) P) : x_R x_mt S 10 M_law (0, [(0, .ref x_scr)], [], [], 0, 0) P := by
  refine x_R.steps 2 (c' := (4, [(0, .ref x_scr)], [.ref 0, .ref 0], [.inr (11, [.null, .null, .null, .null, .null, .null, .null, .null, .null, .null, .null])], 1, 11)) rfl ?_
  refine x_R.call (a := 111) (vs := [.ref 0]) (rest := [.ref 0]) (M' := M_cX11_init) rfl rfl rfl ?_
  refine ⟨_, _, x_mk1, ?_⟩
  refine x_R.steps 3 (c' := (12, [(1, .ref 0), (0, .ref x_scr)], [.ref 75, .ref 75], x_ha ++ [.inr (12, [.int 0, .null, .null, .null, .null, .int 0, .null, .int 0, .int 0, .int 0, .int 0, .int 0, .int 0, .int 0, .null, .null, .null, .null, .int 0, .int 0, .int 0, .int 0, .int 0, .int 0, .int 0, .null, .null, .null, .null, .int 0, .int 0, .int 0, .int 0, .int 0, .null, .null, .null, .null, .null, .int 0, .int 0, .int 0, .long 0, .null, .null, .null, .null])], 76, 4670)) rfl ?_
  refine x_R.call (a := 195) (vs := [.ref 75]) (rest := [.ref 75]) (M' := M_cX12_init) rfl rfl rfl ?_
  refine ⟨_, _, x_mk2, ?_⟩
  exact x_R.steps 3 (c' := (18, [(3, .int 0), (2, .ref 75), (1, .ref 0), (0, .ref x_scr)], [], x_h0, 98, 10728)) rfl kk
/-! ===== reading what was written ===== -/
theorem j_r_ne {σ : j_G} {c c' j j' : Nat} {v : Int32} (h : c' ≠ c) : (j_si σ c j v).1 c' j' = σ.1 c' j' := by
  show (bif Nat.beq c' c && Nat.beq j' j then v else σ.1 c' j') = _
  rw [j_beq_ne h]; rfl
theorem j_r_eq {σ : j_G} {c j : Nat} {v : Int32} : (j_si σ c j v).1 c j = v := by
  show (bif Nat.beq c c && Nat.beq j j then v else σ.1 c j) = _
  rw [j_beq_self, j_beq_self]; rfl
theorem j_r_nj {σ : j_G} {c c' j j' : Nat} {v : Int32} (h : j' ≠ j) : (j_si σ c j v).1 c' j' = σ.1 c' j' := by
  show (bif Nat.beq c' c && Nat.beq j' j then v else σ.1 c' j') = _
  rw [j_beq_ne h, Bool.and_false]; rfl
theorem j_r_2 {σ : j_G} {c j : Nat} {v : Int32} : (j_si σ c j v).2 = σ.2 := rfl
theorem j_l_ne {σ : j_G} {c c' j j' : Nat} {v : Int64} (h : c' ≠ c) : (j_sl σ c j v).2 c' j' = σ.2 c' j' := by
  show (bif Nat.beq c' c && Nat.beq j' j then v else σ.2 c' j') = _
  rw [j_beq_ne h]; rfl
theorem j_l_eq {σ : j_G} {c j : Nat} {v : Int64} : (j_sl σ c j v).2 c j = v := by
  show (bif Nat.beq c c && Nat.beq j j then v else σ.2 c j) = _
  rw [j_beq_self, j_beq_self]; rfl
theorem j_l_nj {σ : j_G} {c c' j j' : Nat} {v : Int64} (h : j' ≠ j) : (j_sl σ c j v).2 c' j' = σ.2 c' j' := by
  show (bif Nat.beq c' c && Nat.beq j' j then v else σ.2 c' j') = _
  rw [j_beq_ne h, Bool.and_false]; rfl
theorem j_l_1 {σ : j_G} {c j : Nat} {v : Int64} : (j_sl σ c j v).1 = σ.1 := rfl
theorem j_c_ne {σ : j_G} {a0 sp a1 dp n c' j' : Nat} (h : c' ≠ a1) : (j_ci σ a0 sp a1 dp n).1 c' j' = σ.1 c' j' := by
  show (bif Nat.beq c' a1 then va_cpy (σ.1 a0) (σ.1 a1) sp dp n j' else σ.1 c' j') = _
  rw [j_beq_ne h]; rfl
theorem j_c_eq {σ : j_G} {a0 sp a1 dp n j' : Nat} : (j_ci σ a0 sp a1 dp n).1 a1 j' = va_cpy (σ.1 a0) (σ.1 a1) sp dp n j' := by
  show (bif Nat.beq a1 a1 then va_cpy (σ.1 a0) (σ.1 a1) sp dp n j' else σ.1 a1 j') = _
  rw [j_beq_self]; rfl
theorem j_c_2 {σ : j_G} {a0 sp a1 dp n : Nat} : (j_ci σ a0 sp a1 dp n).2 = σ.2 := rfl
theorem j_cl_ne {σ : j_G} {a0 sp a1 dp n c' j' : Nat} (h : c' ≠ a1) : (j_cl σ a0 sp a1 dp n).2 c' j' = σ.2 c' j' := by
  show (bif Nat.beq c' a1 then va_cpy (σ.2 a0) (σ.2 a1) sp dp n j' else σ.2 c' j') = _
  rw [j_beq_ne h]; rfl
theorem j_cl_eq {σ : j_G} {a0 sp a1 dp n j' : Nat} : (j_cl σ a0 sp a1 dp n).2 a1 j' = va_cpy (σ.2 a0) (σ.2 a1) sp dp n j' := by
  show (bif Nat.beq a1 a1 then va_cpy (σ.2 a0) (σ.2 a1) sp dp n j' else σ.2 a1 j') = _
  rw [j_beq_self]; rfl
theorem j_cl_1 {σ : j_G} {a0 sp a1 dp n : Nat} : (j_cl σ a0 sp a1 dp n).1 = σ.1 := rfl
theorem j_ixp {α : Type} {i : Int32} {n : Nat} {o : Option α} (h : ¬ (i < 0 ∨ n ≤ i.toNatClampNeg)) : j_ix i n o = o := if_neg h
theorem j_ixn {α : Type} {k n : Nat} {o : Option α} (h : k < n) (hn : n < 2 ^ 31) : j_ix (nI k) n o = o := j_ixp (nI_in h hn)
theorem j_b0_s {α β : Type} {x : α} {k : Option β} : j_b0 (some x) k = k := rfl
theorem j_b1_s {α β : Type} {x : α} {k : α → Option β} : j_b1 (some x) k = k x := rfl
theorem j_b2_s {α β γ : Type} {x : α × β} {k : α → β → Option γ} : j_b2 (some x) k = k x.1 x.2 := rfl
theorem j_b3_s {α β γ δ : Type} {x : α × β × γ} {k : α → β → γ → Option δ} : j_b3 (some x) k = k x.1 x.2.1 x.2.2 := rfl
/-- a comparison of an int seen as a long -/
theorem j_l64 (x : Int32) : x.toInt64.toInt = x.toInt := Int32.toInt_toInt64 x
/-! ===== the two heaps as one ===== -/
theorem j_swp {σ τ : j_G} : j_hp true σ τ = j_hp false τ σ := by
  unfold j_hp
  congr 1
  funext c q
  congr 1
  have h1 : j_ow true c = Nat.blt c j_nx := rfl
  have h2 : j_ow false c = Nat.ble j_nx c := rfl
  rw [h1, h2]
  by_cases h : c < j_nx
  · rw [show Nat.blt c j_nx = true from Nat.ble_eq_true_of_le h]
    cases hb : Nat.ble j_nx c with
    | false => rfl
    | true => exact absurd (Nat.le_of_ble_eq_true hb) (by omega)
  · rw [show Nat.ble j_nx c = true from Nat.ble_eq_true_of_le (by omega)]
    cases hb : Nat.blt c j_nx with
    | false => rfl
    | true => exact absurd (Nat.le_of_ble_eq_true hb) (by omega)
/-- a call out of the law -/
theorem j_Rc0 {S : Option xS} {d : Nat} {M M' : xM} {pc k z ai n1 : Nat} {l : xL} {st rest vs : List Value} {H H1 : xH} {v : Value} {P : Option Value × xH × Nat × Nat → Prop} (e : x_step M S (pc, l, st, H, k, z) = some (.inr (.inl (ai, vs, rest)))) (em : (x_mt : List xM)[ai]? = some M') (hc : (Nat.ble (x_cat vs) M'.2.2.2.1 && x_rcv M' vs H) = true) (h1 : x_run x_mt none n1 d M' (0, lv_args 0 vs, [], H, 0, 0) = some (some v, H1, 0, 0)) (kk : x_R x_mt S (d + 1) M (pc + 3, l, v :: rest, H1, k, z) P) : x_R x_mt S (d + 1) M (pc, l, st, H, k, z) P := by
  have h4 : x_R x_mt none d M' (0, lv_args 0 vs, [], H, 0, 0) (fun r => r = (some v, H1, 0, 0)) := ⟨n1, _, h1, rfl⟩
  refine x_R.call (c := (pc, l, st, H, k, z)) e em hc (x_R.mono h4 fun r hr => ?_)
  rw [hr]
  exact kk
theorem j_Rc {S : Option xS} {d : Nat} {M : xM} {pc k z : Nat} {l : xL} {st : List Value} {rest : List Value} {s : Bool} {σ τ σ' : j_G} {D ai : Nat} {vs : List Value} {oc : Option (Int32 × j_G)} {v : Int32} {P : Option Value × xH × Nat × Nat → Prop} (e : ∀ h : xH, x_step M S (pc, l, st, h, k, z) = some (.inr (.inl (ai, vs, rest)))) (hK : j_K s D ai vs σ oc j_Ri) (hD : D ≤ d) (ho : oc = some (v, σ')) (kk : x_R x_mt S (d + 1) M (pc + 3, l, .int v :: rest, j_hp s σ' τ, k, z) P) : x_R x_mt S (d + 1) M (pc, l, st, j_hp s σ τ, k, z) P := by
  obtain ⟨M', em, hc, n1, v1, σ1, h1, h2⟩ := hK d hD τ _ ho (fun v1 σ1 => v1 = some (.int v) ∧ σ1 = σ') ⟨rfl, rfl⟩
  have h3 : v1 = some (.int v) := h2.1
  have h4 : σ1 = σ' := h2.2
  rw [h3, h4] at h1
  exact j_Rc0 (e _) em hc h1 kk
/-! ===== the fresh objects, as the rules see them ===== -/
noncomputable def j_s0 : j_G := (fun c j => bif Nat.beq c 10 && Nat.beq j 2 || (Nat.beq c 67 || (Nat.beq c 69 || (Nat.beq c 71 || Nat.beq c 73))) && Nat.beq j 0 then -1 else 0, fun _ _ => 0)
noncomputable def j_m4 : Nat → Int32 := upd (upd (upd (upd (fun _ => 0) 0 (-1)) 1 (-1)) 2 (-1)) 3 (-1)
noncomputable def j_t0 : j_G := (fun c j => bif Nat.beq c 94 then j_m4 j else bif Nat.beq c 75 && Nat.beq j 13 then -1 else 0, fun _ _ => 0)
theorem j_up3 : va_up (va_up (va_up (fun _ => none) 0 (some 43)) 1 (some 51)) 2 (some 59) = fun j => ([43, 51, 59] : List Nat)[j]? := by
  funext j
  match j with
  | 0 => rfl
  | 1 => rfl
  | 2 => rfl
  | j + 3 => simp [va_up]
theorem j_up4 : va_up (va_up (va_up (va_up (fun _ => none) 0 (some 67)) 1 (some 69)) 2 (some 71)) 3 (some 73) = fun j => ([67, 69, 71, 73] : List Nat)[j]? := by
  funext j
  match j with
  | 0 => rfl
  | 1 => rfl
  | 2 => rfl
  | 3 => rfl
  | j + 4 => simp [va_up]
set_option maxRecDepth 100000 in
set_option maxHeartbeats 4000000 in
theorem j_h0 : x_h0 = j_hp true j_s0 j_t0 := by
  unfold x_h0
  rw [j_up3, j_up4]
  rfl
/-! ===== calls out of the law, the script read ===== -/
theorem j_Rsld {d L : Nat} {xs : Nat → Int32} {i : Int32} {c c' : xC} {P : Option Value × xH × Nat × Nat → Prop} (e : x_step M_law (some (L, xs)) c = x_in i L (some (.inl c'))) (h : ¬ (i < 0 ∨ L ≤ i.toNatClampNeg)) (kk : x_R x_mt (some (L, xs)) d M_law c' P) : x_R x_mt (some (L, xs)) d M_law c P :=
  x_R.step (e.trans (if_neg h)) kk
theorem j_RcSi {S : Option xS} {d : Nat} {M : xM} {pc k z : Nat} {l : xL} {st : List Value} {rest : List Value} {s : Bool} {σ τ σ' : j_G} {D ai : Nat} {vs : List Value} {oc : Option (Int32 × j_G)} {v : Int32} {P : Option Value × xH × Nat × Nat → Prop} (e : ∀ h : xH, x_step M S (pc, l, st, h, k, z) = some (.inr (.inl (ai, vs, rest)))) (hK : j_K s D ai vs σ oc j_Ri) (hD : D ≤ d) (ho : oc = some (v, σ')) (kk : x_R x_mt S (d + 1) M (pc + 3, l, .int v :: rest, j_hp s σ' τ, k, z) P) : x_R x_mt S (d + 1) M (pc, l, st, j_hp s σ τ, k, z) P := by
  obtain ⟨M', em, hc, n1, v1, σ1, h1, h2⟩ := hK d hD τ _ ho (fun v1 σ1 => v1 = some (.int v) ∧ σ1 = σ') ⟨rfl, rfl⟩
  have h3 : v1 = some (.int v) := h2.1
  have h4 : σ1 = σ' := h2.2
  rw [h3, h4] at h1
  exact j_Rc0 (e _) em hc h1 kk
theorem j_RcPi {S : Option xS} {d : Nat} {M : xM} {pc k z : Nat} {l : xL} {st : List Value} {rest : List Value} {s : Bool} {σ τ : j_G} {D ai : Nat} {vs : List Value} {oc : Option Int32} {v : Int32} {P : Option Value × xH × Nat × Nat → Prop} (e : ∀ h : xH, x_step M S (pc, l, st, h, k, z) = some (.inr (.inl (ai, vs, rest)))) (hK : j_K s D ai vs σ oc (j_Pi σ)) (hD : D ≤ d) (ho : oc = some v) (kk : x_R x_mt S (d + 1) M (pc + 3, l, .int v :: rest, j_hp s σ τ, k, z) P) : x_R x_mt S (d + 1) M (pc, l, st, j_hp s σ τ, k, z) P := by
  obtain ⟨M', em, hc, n1, v1, σ1, h1, h2⟩ := hK d hD τ _ ho (fun v1 σ1 => v1 = some (.int v) ∧ σ1 = σ) ⟨rfl, rfl⟩
  have h3 : v1 = some (.int v) := h2.1
  have h4 : σ1 = σ := h2.2
  rw [h3, h4] at h1
  exact j_Rc0 (e _) em hc h1 kk
theorem j_RcTi {S : Option xS} {d : Nat} {M : xM} {pc k z : Nat} {l : xL} {st : List Value} {rest : List Value} {s : Bool} {σ τ : j_G} {D ai : Nat} {vs : List Value} {x v : Int32} {P : Option Value × xH × Nat × Nat → Prop} (e : ∀ h : xH, x_step M S (pc, l, st, h, k, z) = some (.inr (.inl (ai, vs, rest)))) (hK : j_K s D ai vs σ (some x) (j_Pi σ)) (hD : D ≤ d) (ho : x = v) (kk : x_R x_mt S (d + 1) M (pc + 3, l, .int v :: rest, j_hp s σ τ, k, z) P) : x_R x_mt S (d + 1) M (pc, l, st, j_hp s σ τ, k, z) P :=
  j_RcPi e hK hD (congrArg some ho) kk
theorem j_RcSl {S : Option xS} {d : Nat} {M : xM} {pc k z : Nat} {l : xL} {st : List Value} {rest : List Value} {s : Bool} {σ τ σ' : j_G} {D ai : Nat} {vs : List Value} {oc : Option (Int64 × j_G)} {v : Int64} {P : Option Value × xH × Nat × Nat → Prop} (e : ∀ h : xH, x_step M S (pc, l, st, h, k, z) = some (.inr (.inl (ai, vs, rest)))) (hK : j_K s D ai vs σ oc j_Rl) (hD : D ≤ d) (ho : oc = some (v, σ')) (kk : x_R x_mt S (d + 1) M (pc + 3, l, .long v :: rest, j_hp s σ' τ, k, z) P) : x_R x_mt S (d + 1) M (pc, l, st, j_hp s σ τ, k, z) P := by
  obtain ⟨M', em, hc, n1, v1, σ1, h1, h2⟩ := hK d hD τ _ ho (fun v1 σ1 => v1 = some (.long v) ∧ σ1 = σ') ⟨rfl, rfl⟩
  have h3 : v1 = some (.long v) := h2.1
  have h4 : σ1 = σ' := h2.2
  rw [h3, h4] at h1
  exact j_Rc0 (e _) em hc h1 kk
theorem j_RcPl {S : Option xS} {d : Nat} {M : xM} {pc k z : Nat} {l : xL} {st : List Value} {rest : List Value} {s : Bool} {σ τ : j_G} {D ai : Nat} {vs : List Value} {oc : Option Int64} {v : Int64} {P : Option Value × xH × Nat × Nat → Prop} (e : ∀ h : xH, x_step M S (pc, l, st, h, k, z) = some (.inr (.inl (ai, vs, rest)))) (hK : j_K s D ai vs σ oc (j_Pl σ)) (hD : D ≤ d) (ho : oc = some v) (kk : x_R x_mt S (d + 1) M (pc + 3, l, .long v :: rest, j_hp s σ τ, k, z) P) : x_R x_mt S (d + 1) M (pc, l, st, j_hp s σ τ, k, z) P := by
  obtain ⟨M', em, hc, n1, v1, σ1, h1, h2⟩ := hK d hD τ _ ho (fun v1 σ1 => v1 = some (.long v) ∧ σ1 = σ) ⟨rfl, rfl⟩
  have h3 : v1 = some (.long v) := h2.1
  have h4 : σ1 = σ := h2.2
  rw [h3, h4] at h1
  exact j_Rc0 (e _) em hc h1 kk
theorem j_RcTl {S : Option xS} {d : Nat} {M : xM} {pc k z : Nat} {l : xL} {st : List Value} {rest : List Value} {s : Bool} {σ τ : j_G} {D ai : Nat} {vs : List Value} {x v : Int64} {P : Option Value × xH × Nat × Nat → Prop} (e : ∀ h : xH, x_step M S (pc, l, st, h, k, z) = some (.inr (.inl (ai, vs, rest)))) (hK : j_K s D ai vs σ (some x) (j_Pl σ)) (hD : D ≤ d) (ho : x = v) (kk : x_R x_mt S (d + 1) M (pc + 3, l, .long v :: rest, j_hp s σ τ, k, z) P) : x_R x_mt S (d + 1) M (pc, l, st, j_hp s σ τ, k, z) P :=
  j_RcPl e hK hD (congrArg some ho) kk
/-! a step of the law, its row found before -/
noncomputable def x_do (M : xM) (S : Option xS) (r : xR) (c : xC) : xO := match x_grp r.2.1 with
  | 1 => x_ins1 r.2.1 c.1 r.2.2.2.1 c.2.1 c.2.2.1 c.2.2.2.1 c.2.2.2.2.1 c.2.2.2.2.2
  | 2 => x_ins2 S r.2.1 c.1 r.2.2.2.1 r.2.2.2.2.1 c.2.1 c.2.2.1 c.2.2.2.1 c.2.2.2.2.1 c.2.2.2.2.2
  | 3 => x_ins3 r.2.1 c.1 r.2.2.2.1 r.2.2.2.2.1 c.2.1 c.2.2.1 c.2.2.2.1 c.2.2.2.2.1 c.2.2.2.2.2
  | _ => match x_ret M.2.2.2.2.1 r.2.1 c.2.2.1 with
    | some v => some (.inr (.inr v))
    | none => none
theorem x_step_do {M : xM} {S : Option xS} {r : xR} {c : xC} (er : x_row (x_rws M) c.1 = some r) : x_step M S c = x_do M S r c := by
  unfold x_step
  rw [show x_row M.2.2.2.2.2.2.2 c.1 = some r from er]
  rfl
theorem j_Lst {d L : Nat} {xs : Nat → Int32} {c c' : xC} {r : xR} {P : Option Value × xH × Nat × Nat → Prop} (er : x_row (x_rws M_law) c.1 = some r) (e : x_do M_law (some (L, xs)) r c = some (.inl c')) (kk : x_R x_mt (some (L, xs)) d M_law c' P) : x_R x_mt (some (L, xs)) d M_law c P :=
  x_R.step ((x_step_do er).trans e) kk
theorem j_Lsl {d L : Nat} {xs : Nat → Int32} {i : Int32} {c c' : xC} {r : xR} {P : Option Value × xH × Nat × Nat → Prop} (er : x_row (x_rws M_law) c.1 = some r) (e : x_do M_law (some (L, xs)) r c = x_in i L (some (.inl c'))) (h : ¬ (i < 0 ∨ L ≤ i.toNatClampNeg)) (kk : x_R x_mt (some (L, xs)) d M_law c' P) : x_R x_mt (some (L, xs)) d M_law c P :=
  x_R.step (((x_step_do er).trans e).trans (if_neg h)) kk
theorem j_Lsc {S : Option xS} {c : xC} {r : xR} {o : xO} (er : x_row (x_rws M_law) c.1 = some r) (e : x_do M_law S r c = o) : x_step M_law S c = o := (x_step_do er).trans e
