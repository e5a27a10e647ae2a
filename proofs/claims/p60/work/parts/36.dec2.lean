noncomputable def f_X11_stay (l1 : Int32) (σ : j_G) : Option Int32 :=
  if ¬ (f_X2_isTick 1 l1 σ) = 0 then (j_b1 (f_X2_stayIn l1 σ) fun v1 =>
  some v1) else (some (-2 : Int32))
theorem c_X11_stay (l1 : Int32) (σ : j_G) : j_K true 1 118 [.ref 0, .int l1] σ (f_X11_stay l1 σ) (j_Pi σ) := by
  refine j_mkK (M := M_cX11_stay) (L := [some (.ref 0), some (.int l1)]) (m := 0) t_118 rfl (j_rcvO j_a0 rfl) rfl (fun d hd τ => ?_)
  unfold f_X11_stay
  refine j_aload_n (pc' := 1) rfl rfl rfl ?_
  refine j_gfr (pc' := 4) (x := 1) rfl rfl j_a0 rfl rfl ?_
  refine j_iload_n (pc' := 5) rfl rfl rfl ?_
  refine j_callTi (pc' := 8) (ai := 14) (vs := [.ref 1, .int l1]) (rest := []) rfl rfl (fun _ _ => rfl) (c_X2_isTick_1 l1 σ) (j_dd rfl hd) rfl ?_
  refine j_two (pT := 11) (pF := 22) (L1 := [some (.ref 0), some (.int l1)]) (st1 := []) (fun o kT kF => ?_) (fun h1 => ?_) (fun h1 => ?_)
  · refine j_ifeq (t := 22) (pc' := 11) rfl rfl rfl (fun h2 => ?_) (fun h2 => ?_)
    · exact kF (fun z => z h2)
    · exact kT h2
  · refine j_aload_n (pc' := 12) rfl rfl rfl ?_
    refine j_gfr (pc' := 15) (x := 1) rfl rfl j_a0 rfl rfl ?_
    refine j_iload_n (pc' := 16) rfl rfl rfl ?_
    refine j_callPi (pc' := 19) (ai := 21) (vs := [.ref 1, .int l1]) (rest := []) rfl rfl (fun _ _ => rfl) (c_X2_stayIn l1 σ) (j_dd rfl hd) rfl (fun v1 => ?_)
    refine j_goto (t := 24) rfl rfl ?_
    exact j_ret rfl rfl rfl (fun _ h => h)
  · refine j_bipush (pc' := 24) (x := (-2 : Int32)) rfl rfl rfl ?_
    exact j_ret rfl rfl rfl (fun _ h => h)

noncomputable def f_X12_isTick (l1 : Int64) (σ : j_G) : Option Int32 :=
  j_ix (2 : Int32) 116 (
  j_bo (f_X12_in l1 (0 : Int64) (((σ.1 76 ((2 : Int32)).toNatClampNeg) - (1 : Int32))).toInt64) (
  some (f_X12_in l1 (0 : Int64) (((σ.1 76 ((2 : Int32)).toNatClampNeg) - (1 : Int32))).toInt64)))
theorem c_X12_isTick (l1 : Int64) (σ : j_G) : j_K false 1 203 [.ref 75, .long l1] σ (f_X12_isTick l1 σ) (j_Pi σ) := by
  refine j_mkK (M := M_cX12_isTick) (L := [some (.ref 75), some (.long l1), none]) (m := 0) t_203 rfl (j_rcvO j_a75 rfl) rfl (fun d hd τ => ?_)
  unfold f_X12_isTick
  refine j_lload_n (pc' := 1) rfl rfl rfl ?_
  refine j_lconst (pc' := 2) (x := (0 : Int64)) rfl rfl rfl ?_
  refine j_aload_n (pc' := 3) rfl rfl rfl ?_
  refine j_gfr (pc' := 6) (x := 76) rfl rfl j_a75 rfl rfl ?_
  refine j_iconst (pc' := 7) (x := (2 : Int32)) rfl rfl rfl ?_
  refine j_iald (pc' := 8) rfl rfl j_a76 ?_
  refine j_iconst (pc' := 9) (x := (1 : Int32)) rfl rfl rfl ?_
  refine j_isub (pc' := 10) rfl rfl ?_
  refine j_i2l (pc' := 11) rfl rfl ?_
  refine j_callTi (pc' := 14) (ai := 196) (vs := [.long l1, .long (0 : Int64), .long (((σ.1 76 ((2 : Int32)).toNatClampNeg) - (1 : Int32))).toInt64]) (rest := []) rfl rfl (fun _ _ => rfl) (c_X12_in l1 (0 : Int64) (((σ.1 76 ((2 : Int32)).toNatClampNeg) - (1 : Int32))).toInt64 σ) (j_dd rfl hd) rfl ?_
  refine j_boJ (fun h1 => ?_)
  exact j_retb rfl rfl h1 (fun _ h => h)

noncomputable def p_X12_stayIn_8 (l1 : Int32) (σ : j_G) : Nat → Int32 → Int32 → Int32 → Option Int32
  | 0, _, _, _ => none
  | n + 1, l2, l3, l4 =>
    j_ix (4 : Int32) 116 (
    if l4 < (σ.1 76 ((4 : Int32)).toNatClampNeg) then (j_ix ((12 : Int32) + ((2 : Int32) * l4)) 116 (
    j_lt (σ.1 76 (((12 : Int32) + ((2 : Int32) * l4))).toNatClampNeg) fun v1 =>
    j_b2 (if ¬ l1 < v1 then (if v1 < l2 then (some (l2, l3)) else (j_ix (((12 : Int32) + ((2 : Int32) * l4)) + (1 : Int32)) 116 (
    j_lt (σ.1 76 ((((12 : Int32) + ((2 : Int32) * l4)) + (1 : Int32))).toNatClampNeg) fun v4 =>
    some (v1, v4)))) else (some (l2, l3))) fun v2 v3 =>
    p_X12_stayIn_8 l1 σ n v2 v3 (l4 + (1 : Int32)))) else (some l3))

noncomputable def f_X12_stayIn (l1 : Int32) (σ : j_G) : Option Int32 :=
  j_b1 (p_X12_stayIn_8 l1 σ j_F (-1 : Int32) (7 : Int32) (0 : Int32)) fun v1 =>
  some v1
theorem l_X12_stayIn_8 {d : Nat} (hd : 0 ≤ d) (τ : j_G) (l1 : Int32) (σ : j_G) : ∀ (n : Nat) (l2 : Int32) (l3 : Int32) (l4 : Int32), j_J false τ M_cX12_stayIn d 8 [some (.ref 75), some (.int l1), some (.int l2), some (.int l3), some (.int l4), none] [] σ (p_X12_stayIn_8 l1 σ n l2 l3 l4) (fun r Q => j_Tr false τ M_cX12_stayIn d 72 [none, none, none, some (.int r), none, none] [] σ Q) := by
  intro n
  induction n with
  | zero => intro l2 l3 l4; exact j_none
  | succ n ih =>
    intro l2 l3 l4
    unfold p_X12_stayIn_8
    refine j_iload (pc' := 10) rfl rfl rfl ?_
    refine j_aload_n (pc' := 11) rfl rfl rfl ?_
    refine j_gfr (pc' := 14) (x := 76) rfl rfl j_a75 rfl rfl ?_
    refine j_iconst (pc' := 15) (x := (4 : Int32)) rfl rfl rfl ?_
    refine j_iald (pc' := 16) rfl rfl j_a76 ?_
    refine j_two (pT := 19) (pF := 72) (L1 := [some (.ref 75), some (.int l1), some (.int l2), some (.int l3), some (.int l4), none]) (st1 := []) (fun o kT kF => ?_) (fun h5 => ?_) (fun h5 => ?_)
    · refine j_icge (t := 72) (pc' := 19) rfl rfl rfl (fun h6 => ?_) (fun h6 => ?_)
      · exact kF h6
      · exact kT h6
    · refine j_aload_n (pc' := 20) rfl rfl rfl ?_
      refine j_gfr (pc' := 23) (x := 76) rfl rfl j_a75 rfl rfl ?_
      refine j_bipush (pc' := 25) (x := (12 : Int32)) rfl rfl rfl ?_
      refine j_iconst (pc' := 26) (x := (2 : Int32)) rfl rfl rfl ?_
      refine j_iload (pc' := 28) rfl rfl rfl ?_
      refine j_imul (pc' := 29) rfl rfl ?_
      refine j_iadd (pc' := 30) rfl rfl ?_
      refine j_iald (pc' := 31) rfl rfl j_a76 ?_
      refine j_leti (fun v1 => ?_)
      refine j_istore (pc' := 33) (L' := [some (.ref 75), some (.int l1), some (.int l2), some (.int l3), some (.int l4), some (.int v1)]) rfl rfl rfl ?_
      refine j_iload (pc' := 35) rfl rfl rfl ?_
      refine j_iload_n (pc' := 36) rfl rfl rfl ?_
      refine j_q2 (Φl := (fun r Q => j_Tr false τ M_cX12_stayIn d 66 [some (.ref 75), some (.int l1), some (.int r.1), some (.int r.2), some (.int l4), none] [] σ Q)) ?_ (fun v2 v3 => ?_)
      · refine j_two (pT := 39) (pF := 66) (L1 := [some (.ref 75), some (.int l1), some (.int l2), some (.int l3), some (.int l4), some (.int v1)]) (st1 := []) (fun o kT kF => ?_) (fun h3 => ?_) (fun h3 => ?_)
        · refine j_icgt (t := 66) (pc' := 39) rfl rfl rfl (fun h4 => ?_) (fun h4 => ?_)
          · exact kF (fun z => z h4)
          · exact kT h4
        · refine j_iload (pc' := 41) rfl rfl rfl ?_
          refine j_iload_n (pc' := 42) rfl rfl rfl ?_
          refine j_two (pT := 45) (pF := 48) (L1 := [some (.ref 75), some (.int l1), some (.int l2), some (.int l3), some (.int l4), some (.int v1)]) (st1 := []) (fun o kT kF => ?_) (fun h1 => ?_) (fun h1 => ?_)
          · refine j_icge (t := 48) (pc' := 45) rfl rfl rfl (fun h2 => ?_) (fun h2 => ?_)
            · exact kF h2
            · exact kT h2
          · refine j_goto (t := 66) rfl rfl ?_
            refine j_wk [true, true, true, true, true, false] (L' := [some (.ref 75), some (.int l1), some (.int l2), some (.int l3), some (.int l4), none]) rfl ?_
            exact j_end (fun _ h => h)
          · refine j_iload (pc' := 50) rfl rfl rfl ?_
            refine j_istore_n (pc' := 51) (L' := [some (.ref 75), some (.int l1), some (.int v1), some (.int l3), some (.int l4), some (.int v1)]) rfl rfl rfl ?_
            refine j_aload_n (pc' := 52) rfl rfl rfl ?_
            refine j_gfr (pc' := 55) (x := 76) rfl rfl j_a75 rfl rfl ?_
            refine j_bipush (pc' := 57) (x := (12 : Int32)) rfl rfl rfl ?_
            refine j_iconst (pc' := 58) (x := (2 : Int32)) rfl rfl rfl ?_
            refine j_iload (pc' := 60) rfl rfl rfl ?_
            refine j_imul (pc' := 61) rfl rfl ?_
            refine j_iadd (pc' := 62) rfl rfl ?_
            refine j_iconst (pc' := 63) (x := (1 : Int32)) rfl rfl rfl ?_
            refine j_iadd (pc' := 64) rfl rfl ?_
            refine j_iald (pc' := 65) rfl rfl j_a76 ?_
            refine j_leti (fun v4 => ?_)
            refine j_istore_n (pc' := 66) (L' := [some (.ref 75), some (.int l1), some (.int v1), some (.int v4), some (.int l4), some (.int v1)]) rfl rfl rfl ?_
            refine j_wk [true, true, true, true, true, false] (L' := [some (.ref 75), some (.int l1), some (.int v1), some (.int v4), some (.int l4), none]) rfl ?_
            exact j_end (fun _ h => h)
        · refine j_wk [true, true, true, true, true, false] (L' := [some (.ref 75), some (.int l1), some (.int l2), some (.int l3), some (.int l4), none]) rfl ?_
          exact j_end (fun _ h => h)
      show j_J false τ M_cX12_stayIn d 66 [some (.ref 75), some (.int l1), some (.int v2), some (.int v3), some (.int l4), none] [] σ _ _
      refine j_iincx (pc' := 69) (y := (1 : Int32)) (L' := [some (.ref 75), some (.int l1), some (.int v2), some (.int v3), some (.int (l4 + (1 : Int32))), none]) rfl rfl rfl rfl rfl ?_
      refine j_goto (t := 8) rfl rfl ?_
      exact ih v2 v3 (l4 + (1 : Int32))
    · refine j_wk [false, false, false, true, false, true] (L' := [none, none, none, some (.int l3), none, none]) rfl ?_
      exact j_end (fun _ h => h)

theorem c_X12_stayIn (l1 : Int32) (σ : j_G) : j_K false 0 233 [.ref 75, .int l1] σ (f_X12_stayIn l1 σ) (j_Pi σ) := by
  refine j_mkK (M := M_cX12_stayIn) (L := [some (.ref 75), some (.int l1), none, none, none, none]) (m := 4) t_233 rfl (j_rcvO j_a75 rfl) rfl (fun d hd τ => ?_)
  unfold f_X12_stayIn
  refine j_iconst (pc' := 1) (x := (-1 : Int32)) rfl rfl rfl ?_
  refine j_istore_n (pc' := 2) (L' := [some (.ref 75), some (.int l1), some (.int (-1 : Int32)), none, none, none]) rfl rfl rfl ?_
  refine j_bipush (pc' := 4) (x := (7 : Int32)) rfl rfl rfl ?_
  refine j_istore_n (pc' := 5) (L' := [some (.ref 75), some (.int l1), some (.int (-1 : Int32)), some (.int (7 : Int32)), none, none]) rfl rfl rfl ?_
  refine j_iconst (pc' := 6) (x := (0 : Int32)) rfl rfl rfl ?_
  refine j_istore (pc' := 8) (L' := [some (.ref 75), some (.int l1), some (.int (-1 : Int32)), some (.int (7 : Int32)), some (.int (0 : Int32)), none]) rfl rfl rfl ?_
  refine j_q1 (l_X12_stayIn_8 hd τ l1 σ j_F (-1 : Int32) (7 : Int32) (0 : Int32)) (fun v1 => ?_)
  show j_J false τ M_cX12_stayIn d 72 [none, none, none, some (.int v1), none, none] [] σ _ _
  refine j_iload_n (pc' := 73) rfl rfl rfl ?_
  exact j_ret rfl rfl rfl (fun _ h => h)

noncomputable def f_X12_stay (l1 : Int32) (σ : j_G) : Option Int32 :=
  j_b1 (f_X12_isTick (l1).toInt64 σ) fun v1 =>
  if ¬ v1 = 0 then (j_b1 (f_X12_stayIn l1 σ) fun v2 =>
  some v2) else (some (-2 : Int32))
theorem c_X12_stay (l1 : Int32) (σ : j_G) : j_K false 2 241 [.ref 75, .int l1] σ (f_X12_stay l1 σ) (j_Pi σ) := by
  refine j_mkK (M := M_cX12_stay) (L := [some (.ref 75), some (.int l1)]) (m := 0) t_241 rfl (j_rcvO j_a75 rfl) rfl (fun d hd τ => ?_)
  unfold f_X12_stay
  refine j_aload_n (pc' := 1) rfl rfl rfl ?_
  refine j_iload_n (pc' := 2) rfl rfl rfl ?_
  refine j_i2l (pc' := 3) rfl rfl ?_
  refine j_callPi (pc' := 6) (ai := 203) (vs := [.ref 75, .long (l1).toInt64]) (rest := []) rfl rfl (fun _ _ => rfl) (c_X12_isTick (l1).toInt64 σ) (j_dd rfl hd) rfl (fun v1 => ?_)
  refine j_two (pT := 9) (pF := 17) (L1 := [some (.ref 75), some (.int l1)]) (st1 := []) (fun o kT kF => ?_) (fun h1 => ?_) (fun h1 => ?_)
  · refine j_ifeq (t := 17) (pc' := 9) rfl rfl rfl (fun h2 => ?_) (fun h2 => ?_)
    · exact kF (fun z => z h2)
    · exact kT h2
  · refine j_aload_n (pc' := 10) rfl rfl rfl ?_
    refine j_iload_n (pc' := 11) rfl rfl rfl ?_
    refine j_callPi (pc' := 14) (ai := 233) (vs := [.ref 75, .int l1]) (rest := []) rfl rfl (fun _ _ => rfl) (c_X12_stayIn l1 σ) (j_dd rfl hd) rfl (fun v2 => ?_)
    refine j_goto (t := 19) rfl rfl ?_
    exact j_ret rfl rfl rfl (fun _ h => h)
  · refine j_bipush (pc' := 19) (x := (-2 : Int32)) rfl rfl rfl ?_
    exact j_ret rfl rfl rfl (fun _ h => h)

noncomputable def f_X8_isMade (a0 : Nat) (σ : j_G) : Int32 :=
  if ¬ (σ.1 a0 0) < 0 then ((1 : Int32)) else ((0 : Int32))

theorem b_X8_isMade (a0 : Nat) (σ : j_G) : f_X8_isMade a0 σ = 0 ∨ f_X8_isMade a0 σ = 1 := by
  unfold f_X8_isMade
  repeat' split
  all_goals first | exact Or.inl rfl | exact Or.inr rfl
theorem c_X8_isMade_67 (σ : j_G) : j_K true 0 91 [.ref 67] σ (some (f_X8_isMade 67 σ)) (j_Pi σ) := by
  refine j_mkK (M := M_cX8_isMade) (L := [some (.ref 67)]) (m := 0) t_91 rfl (j_rcvO j_a67 rfl) rfl (fun d hd τ => ?_)
  unfold f_X8_isMade
  refine j_aload_n (pc' := 1) rfl rfl rfl ?_
  refine j_gfi (pc' := 4) rfl rfl j_a67 rfl ?_
  refine j_twoT (pT := 7) (pF := 11) (L1 := [some (.ref 67)]) (st1 := []) (fun o kT kF => ?_) (fun h1 => ?_) (fun h1 => ?_)
  · refine j_iflt (t := 11) (pc' := 7) rfl rfl rfl (fun h2 => ?_) (fun h2 => ?_)
    · exact kF (fun z => z h2)
    · exact kT h2
  · refine j_iconst (pc' := 8) (x := (1 : Int32)) rfl rfl rfl ?_
    refine j_goto (t := 12) rfl rfl ?_
    exact j_ret rfl rfl rfl (fun _ h => h)
  · refine j_iconst (pc' := 12) (x := (0 : Int32)) rfl rfl rfl ?_
    exact j_ret rfl rfl rfl (fun _ h => h)

theorem c_X8_isMade_69 (σ : j_G) : j_K true 0 91 [.ref 69] σ (some (f_X8_isMade 69 σ)) (j_Pi σ) := by
  refine j_mkK (M := M_cX8_isMade) (L := [some (.ref 69)]) (m := 0) t_91 rfl (j_rcvO j_a69 rfl) rfl (fun d hd τ => ?_)
  unfold f_X8_isMade
  refine j_aload_n (pc' := 1) rfl rfl rfl ?_
  refine j_gfi (pc' := 4) rfl rfl j_a69 rfl ?_
  refine j_twoT (pT := 7) (pF := 11) (L1 := [some (.ref 69)]) (st1 := []) (fun o kT kF => ?_) (fun h1 => ?_) (fun h1 => ?_)
  · refine j_iflt (t := 11) (pc' := 7) rfl rfl rfl (fun h2 => ?_) (fun h2 => ?_)
    · exact kF (fun z => z h2)
    · exact kT h2
  · refine j_iconst (pc' := 8) (x := (1 : Int32)) rfl rfl rfl ?_
    refine j_goto (t := 12) rfl rfl ?_
    exact j_ret rfl rfl rfl (fun _ h => h)
  · refine j_iconst (pc' := 12) (x := (0 : Int32)) rfl rfl rfl ?_
    exact j_ret rfl rfl rfl (fun _ h => h)

theorem c_X8_isMade_71 (σ : j_G) : j_K true 0 91 [.ref 71] σ (some (f_X8_isMade 71 σ)) (j_Pi σ) := by
  refine j_mkK (M := M_cX8_isMade) (L := [some (.ref 71)]) (m := 0) t_91 rfl (j_rcvO j_a71 rfl) rfl (fun d hd τ => ?_)
  unfold f_X8_isMade
  refine j_aload_n (pc' := 1) rfl rfl rfl ?_
  refine j_gfi (pc' := 4) rfl rfl j_a71 rfl ?_
  refine j_twoT (pT := 7) (pF := 11) (L1 := [some (.ref 71)]) (st1 := []) (fun o kT kF => ?_) (fun h1 => ?_) (fun h1 => ?_)
  · refine j_iflt (t := 11) (pc' := 7) rfl rfl rfl (fun h2 => ?_) (fun h2 => ?_)
    · exact kF (fun z => z h2)
    · exact kT h2
  · refine j_iconst (pc' := 8) (x := (1 : Int32)) rfl rfl rfl ?_
    refine j_goto (t := 12) rfl rfl ?_
    exact j_ret rfl rfl rfl (fun _ h => h)
  · refine j_iconst (pc' := 12) (x := (0 : Int32)) rfl rfl rfl ?_
    exact j_ret rfl rfl rfl (fun _ h => h)

theorem c_X8_isMade_73 (σ : j_G) : j_K true 0 91 [.ref 73] σ (some (f_X8_isMade 73 σ)) (j_Pi σ) := by
  refine j_mkK (M := M_cX8_isMade) (L := [some (.ref 73)]) (m := 0) t_91 rfl (j_rcvO j_a73 rfl) rfl (fun d hd τ => ?_)
  unfold f_X8_isMade
  refine j_aload_n (pc' := 1) rfl rfl rfl ?_
  refine j_gfi (pc' := 4) rfl rfl j_a73 rfl ?_
  refine j_twoT (pT := 7) (pF := 11) (L1 := [some (.ref 73)]) (st1 := []) (fun o kT kF => ?_) (fun h1 => ?_) (fun h1 => ?_)
  · refine j_iflt (t := 11) (pc' := 7) rfl rfl rfl (fun h2 => ?_) (fun h2 => ?_)
    · exact kF (fun z => z h2)
    · exact kT h2
  · refine j_iconst (pc' := 8) (x := (1 : Int32)) rfl rfl rfl ?_
    refine j_goto (t := 12) rfl rfl ?_
    exact j_ret rfl rfl rfl (fun _ h => h)
  · refine j_iconst (pc' := 12) (x := (0 : Int32)) rfl rfl rfl ?_
    exact j_ret rfl rfl rfl (fun _ h => h)

noncomputable def p_X11_rowsKept_4 (σ : j_G) : Nat → Int32 → Int32 → Option Int32
  | 0, _, _ => none
  | n + 1, l1, l2 =>
    if l2 < (4 : Int32) then (if l2 = 0 then (j_lt (if ¬ (f_X8_isMade 67 σ) = 0 then ((l1 + (1 : Int32))) else (l1)) fun v1 =>
    p_X11_rowsKept_4 σ n v1 ((0 : Int32) + (1 : Int32))) else
    if l2 = 1 then (j_lt (if ¬ (f_X8_isMade 69 σ) = 0 then ((l1 + (1 : Int32))) else (l1)) fun v2 =>
    p_X11_rowsKept_4 σ n v2 ((1 : Int32) + (1 : Int32))) else
    if l2 = 2 then (j_lt (if ¬ (f_X8_isMade 71 σ) = 0 then ((l1 + (1 : Int32))) else (l1)) fun v3 =>
    p_X11_rowsKept_4 σ n v3 ((2 : Int32) + (1 : Int32))) else
    if l2 = 3 then (j_lt (if ¬ (f_X8_isMade 73 σ) = 0 then ((l1 + (1 : Int32))) else (l1)) fun v4 =>
    p_X11_rowsKept_4 σ n v4 ((3 : Int32) + (1 : Int32))) else
    none) else (some l1)

noncomputable def f_X11_rowsKept (σ : j_G) : Option Int32 :=
  j_b1 (p_X11_rowsKept_4 σ j_F (0 : Int32) (0 : Int32)) fun v1 =>
  some v1
theorem l_X11_rowsKept_4 {d : Nat} (hd : 1 ≤ d) (τ : j_G) (σ : j_G) : ∀ (n : Nat) (l1 : Int32) (l2 : Int32), j_J true τ M_cX11_rowsKept d 4 [some (.ref 0), some (.int l1), some (.int l2)] [] σ (p_X11_rowsKept_4 σ n l1 l2) (fun r Q => j_Tr true τ M_cX11_rowsKept d 30 [none, some (.int r), none] [] σ Q) := by
  intro n
  induction n with
  | zero => intro l1 l2; exact j_none
  | succ n ih =>
    intro l1 l2
    unfold p_X11_rowsKept_4
    refine j_iload_n (pc' := 5) rfl rfl rfl ?_
    refine j_iconst (pc' := 6) (x := (4 : Int32)) rfl rfl rfl ?_
    refine j_two (pT := 9) (pF := 30) (L1 := [some (.ref 0), some (.int l1), some (.int l2)]) (st1 := []) (fun o kT kF => ?_) (fun h13 => ?_) (fun h13 => ?_)
    · refine j_icge (t := 30) (pc' := 9) rfl rfl rfl (fun h14 => ?_) (fun h14 => ?_)
      · exact kF h14
      · exact kT h14
    · refine j_aload_n (pc' := 10) rfl rfl rfl ?_
      refine j_gfr (pc' := 13) (x := 42) rfl rfl j_a0 rfl rfl ?_
      refine j_iload_n (pc' := 14) rfl rfl rfl ?_
      refine j_spl (k := (0 : Int32)) (fun h1 => ?_) (fun h1 => ?_)
      · subst h1
        refine j_aald (pc' := 15) (r := 67) rfl rfl j_a42 (by decide) rfl ?_
        refine j_callTi (pc' := 18) (ai := 91) (vs := [.ref 67]) (rest := []) rfl rfl (fun _ _ => rfl) (c_X8_isMade_67  σ) (j_dd rfl hd) rfl ?_
        refine j_ql (Φl := (fun r Q => j_Tr true τ M_cX11_rowsKept d 24 [some (.ref 0), some (.int r), some (.int (0 : Int32))] [] σ Q)) ?_ (fun v1 => ?_)
        · refine j_twoT (pT := 21) (pF := 24) (L1 := [some (.ref 0), some (.int l1), some (.int (0 : Int32))]) (st1 := []) (fun o kT kF => ?_) (fun h2 => ?_) (fun h2 => ?_)
          · refine j_ifeq (t := 24) (pc' := 21) rfl rfl rfl (fun h3 => ?_) (fun h3 => ?_)
            · exact kF (fun z => z h3)
            · exact kT h3
          · refine j_iincx (pc' := 24) (y := (1 : Int32)) (L' := [some (.ref 0), some (.int (l1 + (1 : Int32))), some (.int (0 : Int32))]) rfl rfl rfl rfl rfl ?_
            exact j_end (fun _ h => h)
          · exact j_end (fun _ h => h)
        show j_J true τ M_cX11_rowsKept d 24 [some (.ref 0), some (.int v1), some (.int (0 : Int32))] [] σ _ _
        refine j_iincx (pc' := 27) (y := (1 : Int32)) (L' := [some (.ref 0), some (.int v1), some (.int ((0 : Int32) + (1 : Int32)))]) rfl rfl rfl rfl rfl ?_
        refine j_goto (t := 4) rfl rfl ?_
        exact ih v1 ((0 : Int32) + (1 : Int32))
      refine j_spl (k := (1 : Int32)) (fun h4 => ?_) (fun h4 => ?_)
      · subst h4
        refine j_aald (pc' := 15) (r := 69) rfl rfl j_a42 (by decide) rfl ?_
        refine j_callTi (pc' := 18) (ai := 91) (vs := [.ref 69]) (rest := []) rfl rfl (fun _ _ => rfl) (c_X8_isMade_69  σ) (j_dd rfl hd) rfl ?_
        refine j_ql (Φl := (fun r Q => j_Tr true τ M_cX11_rowsKept d 24 [some (.ref 0), some (.int r), some (.int (1 : Int32))] [] σ Q)) ?_ (fun v2 => ?_)
        · refine j_twoT (pT := 21) (pF := 24) (L1 := [some (.ref 0), some (.int l1), some (.int (1 : Int32))]) (st1 := []) (fun o kT kF => ?_) (fun h5 => ?_) (fun h5 => ?_)
          · refine j_ifeq (t := 24) (pc' := 21) rfl rfl rfl (fun h6 => ?_) (fun h6 => ?_)
            · exact kF (fun z => z h6)
            · exact kT h6
          · refine j_iincx (pc' := 24) (y := (1 : Int32)) (L' := [some (.ref 0), some (.int (l1 + (1 : Int32))), some (.int (1 : Int32))]) rfl rfl rfl rfl rfl ?_
            exact j_end (fun _ h => h)
          · exact j_end (fun _ h => h)
        show j_J true τ M_cX11_rowsKept d 24 [some (.ref 0), some (.int v2), some (.int (1 : Int32))] [] σ _ _
        refine j_iincx (pc' := 27) (y := (1 : Int32)) (L' := [some (.ref 0), some (.int v2), some (.int ((1 : Int32) + (1 : Int32)))]) rfl rfl rfl rfl rfl ?_
        refine j_goto (t := 4) rfl rfl ?_
        exact ih v2 ((1 : Int32) + (1 : Int32))
      refine j_spl (k := (2 : Int32)) (fun h7 => ?_) (fun h7 => ?_)
      · subst h7
        refine j_aald (pc' := 15) (r := 71) rfl rfl j_a42 (by decide) rfl ?_
        refine j_callTi (pc' := 18) (ai := 91) (vs := [.ref 71]) (rest := []) rfl rfl (fun _ _ => rfl) (c_X8_isMade_71  σ) (j_dd rfl hd) rfl ?_
        refine j_ql (Φl := (fun r Q => j_Tr true τ M_cX11_rowsKept d 24 [some (.ref 0), some (.int r), some (.int (2 : Int32))] [] σ Q)) ?_ (fun v3 => ?_)
        · refine j_twoT (pT := 21) (pF := 24) (L1 := [some (.ref 0), some (.int l1), some (.int (2 : Int32))]) (st1 := []) (fun o kT kF => ?_) (fun h8 => ?_) (fun h8 => ?_)
          · refine j_ifeq (t := 24) (pc' := 21) rfl rfl rfl (fun h9 => ?_) (fun h9 => ?_)
            · exact kF (fun z => z h9)
            · exact kT h9
          · refine j_iincx (pc' := 24) (y := (1 : Int32)) (L' := [some (.ref 0), some (.int (l1 + (1 : Int32))), some (.int (2 : Int32))]) rfl rfl rfl rfl rfl ?_
            exact j_end (fun _ h => h)
          · exact j_end (fun _ h => h)
        show j_J true τ M_cX11_rowsKept d 24 [some (.ref 0), some (.int v3), some (.int (2 : Int32))] [] σ _ _
        refine j_iincx (pc' := 27) (y := (1 : Int32)) (L' := [some (.ref 0), some (.int v3), some (.int ((2 : Int32) + (1 : Int32)))]) rfl rfl rfl rfl rfl ?_
        refine j_goto (t := 4) rfl rfl ?_
        exact ih v3 ((2 : Int32) + (1 : Int32))
      refine j_spl (k := (3 : Int32)) (fun h10 => ?_) (fun h10 => ?_)
      · subst h10
        refine j_aald (pc' := 15) (r := 73) rfl rfl j_a42 (by decide) rfl ?_
        refine j_callTi (pc' := 18) (ai := 91) (vs := [.ref 73]) (rest := []) rfl rfl (fun _ _ => rfl) (c_X8_isMade_73  σ) (j_dd rfl hd) rfl ?_
        refine j_ql (Φl := (fun r Q => j_Tr true τ M_cX11_rowsKept d 24 [some (.ref 0), some (.int r), some (.int (3 : Int32))] [] σ Q)) ?_ (fun v4 => ?_)
        · refine j_twoT (pT := 21) (pF := 24) (L1 := [some (.ref 0), some (.int l1), some (.int (3 : Int32))]) (st1 := []) (fun o kT kF => ?_) (fun h11 => ?_) (fun h11 => ?_)
          · refine j_ifeq (t := 24) (pc' := 21) rfl rfl rfl (fun h12 => ?_) (fun h12 => ?_)
            · exact kF (fun z => z h12)
            · exact kT h12
          · refine j_iincx (pc' := 24) (y := (1 : Int32)) (L' := [some (.ref 0), some (.int (l1 + (1 : Int32))), some (.int (3 : Int32))]) rfl rfl rfl rfl rfl ?_
            exact j_end (fun _ h => h)
          · exact j_end (fun _ h => h)
        show j_J true τ M_cX11_rowsKept d 24 [some (.ref 0), some (.int v4), some (.int (3 : Int32))] [] σ _ _
        refine j_iincx (pc' := 27) (y := (1 : Int32)) (L' := [some (.ref 0), some (.int v4), some (.int ((3 : Int32) + (1 : Int32)))]) rfl rfl rfl rfl rfl ?_
        refine j_goto (t := 4) rfl rfl ?_
        exact ih v4 ((3 : Int32) + (1 : Int32))
      exact j_none
    · refine j_wk [false, true, false] (L' := [none, some (.int l1), none]) rfl ?_
      exact j_end (fun _ h => h)

theorem c_X11_rowsKept (σ : j_G) : j_K true 1 185 [.ref 0] σ (f_X11_rowsKept σ) (j_Pi σ) := by
  refine j_mkK (M := M_cX11_rowsKept) (L := [some (.ref 0), none, none]) (m := 2) t_185 rfl (j_rcvO j_a0 rfl) rfl (fun d hd τ => ?_)
  unfold f_X11_rowsKept
  refine j_iconst (pc' := 1) (x := (0 : Int32)) rfl rfl rfl ?_
  refine j_istore_n (pc' := 2) (L' := [some (.ref 0), some (.int (0 : Int32)), none]) rfl rfl rfl ?_
  refine j_iconst (pc' := 3) (x := (0 : Int32)) rfl rfl rfl ?_
  refine j_istore_n (pc' := 4) (L' := [some (.ref 0), some (.int (0 : Int32)), some (.int (0 : Int32))]) rfl rfl rfl ?_
  refine j_q1 (l_X11_rowsKept_4 hd τ σ j_F (0 : Int32) (0 : Int32)) (fun v1 => ?_)
  show j_J true τ M_cX11_rowsKept d 30 [none, some (.int v1), none] [] σ _ _
  refine j_iload_n (pc' := 31) rfl rfl rfl ?_
  exact j_ret rfl rfl rfl (fun _ h => h)

noncomputable def f_X11_count (l1 : Int32) (σ : j_G) : Option Int32 :=
  if l1 = 0 then (some (σ.1 1 2)) else
  if l1 = 1 then (some (σ.1 1 3)) else
  if l1 = 2 then (some (σ.1 1 4)) else
  if l1 = 3 then (some (σ.1 1 5)) else
  if l1 = 4 then (some (σ.1 5 0)) else
  if l1 = 5 then (some (σ.1 1 7)) else
  if l1 = 6 then (some (σ.1 1 6)) else
  if l1 = 7 then (some (σ.1 5 1)) else
  if l1 = 8 then (some (σ.1 1 1)) else
  if l1 = 9 then (some (σ.1 19 0)) else
  if l1 = 10 then (j_b1 (f_X11_rowsKept σ) fun v1 =>
  some v1) else
  (some (-1 : Int32))
theorem c_X11_count (l1 : Int32) (σ : j_G) : j_K true 2 119 [.ref 0, .int l1] σ (f_X11_count l1 σ) (j_Pi σ) := by
  refine j_mkK (M := M_cX11_count) (L := [some (.ref 0), some (.int l1)]) (m := 0) t_119 rfl (j_rcvO j_a0 rfl) rfl (fun d hd τ => ?_)
  unfold f_X11_count
  refine j_iload_n (pc' := 1) rfl rfl rfl ?_
  refine j_spl (k := (0 : Int32)) (fun h1 => ?_) (fun h1 => ?_)
  · refine j_sw (t := 60) h1 rfl rfl (fun _ _ => rfl) ?_
    refine j_aload_n (pc' := 61) rfl rfl rfl ?_
    refine j_gfr (pc' := 64) (x := 1) rfl rfl j_a0 rfl rfl ?_
    refine j_gfi (pc' := 67) rfl rfl j_a1 rfl ?_
    exact j_ret rfl rfl rfl (fun _ h => h)
  refine j_spl (k := (1 : Int32)) (fun h2 => ?_) (fun h2 => ?_)
  · refine j_sw (t := 68) h2 rfl rfl (fun _ _ => rfl) ?_
    refine j_aload_n (pc' := 69) rfl rfl rfl ?_
    refine j_gfr (pc' := 72) (x := 1) rfl rfl j_a0 rfl rfl ?_
    refine j_gfi (pc' := 75) rfl rfl j_a1 rfl ?_
    exact j_ret rfl rfl rfl (fun _ h => h)
  refine j_spl (k := (2 : Int32)) (fun h3 => ?_) (fun h3 => ?_)
  · refine j_sw (t := 76) h3 rfl rfl (fun _ _ => rfl) ?_
    refine j_aload_n (pc' := 77) rfl rfl rfl ?_
    refine j_gfr (pc' := 80) (x := 1) rfl rfl j_a0 rfl rfl ?_
    refine j_gfi (pc' := 83) rfl rfl j_a1 rfl ?_
    exact j_ret rfl rfl rfl (fun _ h => h)
  refine j_spl (k := (3 : Int32)) (fun h4 => ?_) (fun h4 => ?_)
  · refine j_sw (t := 84) h4 rfl rfl (fun _ _ => rfl) ?_
    refine j_aload_n (pc' := 85) rfl rfl rfl ?_
    refine j_gfr (pc' := 88) (x := 1) rfl rfl j_a0 rfl rfl ?_
    refine j_gfi (pc' := 91) rfl rfl j_a1 rfl ?_
    exact j_ret rfl rfl rfl (fun _ h => h)
  refine j_spl (k := (4 : Int32)) (fun h5 => ?_) (fun h5 => ?_)
  · refine j_sw (t := 92) h5 rfl rfl (fun _ _ => rfl) ?_
    refine j_aload_n (pc' := 93) rfl rfl rfl ?_
    refine j_gfr (pc' := 96) (x := 1) rfl rfl j_a0 rfl rfl ?_
    refine j_gfr (pc' := 99) (x := 5) rfl rfl j_a1 rfl rfl ?_
    refine j_gfi (pc' := 102) rfl rfl j_a5 rfl ?_
    exact j_ret rfl rfl rfl (fun _ h => h)
  refine j_spl (k := (5 : Int32)) (fun h6 => ?_) (fun h6 => ?_)
  · refine j_sw (t := 103) h6 rfl rfl (fun _ _ => rfl) ?_
    refine j_aload_n (pc' := 104) rfl rfl rfl ?_
    refine j_gfr (pc' := 107) (x := 1) rfl rfl j_a0 rfl rfl ?_
    refine j_gfi (pc' := 110) rfl rfl j_a1 rfl ?_
    exact j_ret rfl rfl rfl (fun _ h => h)
  refine j_spl (k := (6 : Int32)) (fun h7 => ?_) (fun h7 => ?_)
  · refine j_sw (t := 111) h7 rfl rfl (fun _ _ => rfl) ?_
    refine j_aload_n (pc' := 112) rfl rfl rfl ?_
    refine j_gfr (pc' := 115) (x := 1) rfl rfl j_a0 rfl rfl ?_
    refine j_gfi (pc' := 118) rfl rfl j_a1 rfl ?_
    exact j_ret rfl rfl rfl (fun _ h => h)
  refine j_spl (k := (7 : Int32)) (fun h8 => ?_) (fun h8 => ?_)
  · refine j_sw (t := 119) h8 rfl rfl (fun _ _ => rfl) ?_
    refine j_aload_n (pc' := 120) rfl rfl rfl ?_
    refine j_gfr (pc' := 123) (x := 1) rfl rfl j_a0 rfl rfl ?_
    refine j_gfr (pc' := 126) (x := 5) rfl rfl j_a1 rfl rfl ?_
    refine j_gfi (pc' := 129) rfl rfl j_a5 rfl ?_
    exact j_ret rfl rfl rfl (fun _ h => h)
  refine j_spl (k := (8 : Int32)) (fun h9 => ?_) (fun h9 => ?_)
  · refine j_sw (t := 130) h9 rfl rfl (fun _ _ => rfl) ?_
    refine j_aload_n (pc' := 131) rfl rfl rfl ?_
    refine j_gfr (pc' := 134) (x := 1) rfl rfl j_a0 rfl rfl ?_
    refine j_gfi (pc' := 137) rfl rfl j_a1 rfl ?_
    exact j_ret rfl rfl rfl (fun _ h => h)
  refine j_spl (k := (9 : Int32)) (fun h10 => ?_) (fun h10 => ?_)
  · refine j_sw (t := 138) h10 rfl rfl (fun _ _ => rfl) ?_
    refine j_aload_n (pc' := 139) rfl rfl rfl ?_
    refine j_gfr (pc' := 142) (x := 10) rfl rfl j_a0 rfl rfl ?_
    refine j_gfr (pc' := 145) (x := 19) rfl rfl j_a10 rfl rfl ?_
    refine j_gfi (pc' := 148) rfl rfl j_a19 rfl ?_
    exact j_ret rfl rfl rfl (fun _ h => h)
  refine j_spl (k := (10 : Int32)) (fun h11 => ?_) (fun h11 => ?_)
  · refine j_sw (t := 149) h11 rfl rfl (fun _ _ => rfl) ?_
    refine j_aload_n (pc' := 150) rfl rfl rfl ?_
    refine j_callPi (pc' := 153) (ai := 185) (vs := [.ref 0]) (rest := []) rfl rfl (fun _ _ => rfl) (c_X11_rowsKept  σ) (j_dd rfl hd) rfl (fun v1 => ?_)
    exact j_ret rfl rfl rfl (fun _ h => h)
  have eh1 := j_ne (0) (by decide) h1
  have eh2 := j_ne (1) (by decide) h2
  have eh3 := j_ne (2) (by decide) h3
  have eh4 := j_ne (3) (by decide) h4
  have eh5 := j_ne (4) (by decide) h5
  have eh6 := j_ne (5) (by decide) h6
  have eh7 := j_ne (6) (by decide) h7
  have eh8 := j_ne (7) (by decide) h8
  have eh9 := j_ne (8) (by decide) h9
  have eh10 := j_ne (9) (by decide) h10
  have eh11 := j_ne (10) (by decide) h11
  refine j_tsd (t := 154) rfl (by omega) rfl ?_
  refine j_iconst (pc' := 155) (x := (-1 : Int32)) rfl rfl rfl ?_
  exact j_ret rfl rfl rfl (fun _ h => h)

noncomputable def p_X12_count_134 (σ : j_G) : Nat → Int32 → Int32 → Option Int32
  | 0, _, _ => none
  | n + 1, l2, l3 =>
    if l3 < (4 : Int32) then (j_ix l3 4 (
    j_lt (if (σ.1 94 (l3).toNatClampNeg) = (-1 : Int32) then ((0 : Int32)) else ((1 : Int32))) fun v1 =>
    j_lt (l2 + v1) fun v2 =>
    p_X12_count_134 σ n v2 (l3 + (1 : Int32)))) else (some l2)

noncomputable def f_X12_count (l1 : Int32) (σ : j_G) : Option Int32 :=
  if l1 = 0 then (j_ix (0 : Int32) 116 (
  some (σ.1 76 ((0 : Int32)).toNatClampNeg))) else
  if l1 = 1 then (j_ix (1 : Int32) 116 (
  some (σ.1 76 ((1 : Int32)).toNatClampNeg))) else
  if l1 = 2 then (j_ix (2 : Int32) 116 (
  some (σ.1 76 ((2 : Int32)).toNatClampNeg))) else
  if l1 = 3 then (j_ix (3 : Int32) 116 (
  some (σ.1 76 ((3 : Int32)).toNatClampNeg))) else
  if l1 = 4 then (j_ix (5 : Int32) 116 (
  some (σ.1 76 ((5 : Int32)).toNatClampNeg))) else
  if l1 = 5 then (j_ix (6 : Int32) 116 (
  some (σ.1 76 ((6 : Int32)).toNatClampNeg))) else
  if l1 = 6 then (j_ix (7 : Int32) 116 (
  some (σ.1 76 ((7 : Int32)).toNatClampNeg))) else
  if l1 = 7 then (j_ix (8 : Int32) 116 (
  some (σ.1 76 ((8 : Int32)).toNatClampNeg))) else
  if l1 = 8 then (j_ix (9 : Int32) 116 (
  some (σ.1 76 ((9 : Int32)).toNatClampNeg))) else
  if l1 = 9 then (some (σ.1 75 5)) else
  if l1 = 10 then (j_b1 (p_X12_count_134 σ j_F (0 : Int32) (0 : Int32)) fun v1 =>
  some v1) else
  (some (-1 : Int32))
theorem l_X12_count_134 {d : Nat} (hd : 0 ≤ d) (τ : j_G) (σ : j_G) : ∀ (n : Nat) (l2 : Int32) (l3 : Int32), j_J false τ M_cX12_count d 134 [some (.ref 75), none, some (.int l2), some (.int l3)] [] σ (p_X12_count_134 σ n l2 l3) (fun r Q => j_Tr false τ M_cX12_count d 163 [none, none, some (.int r), none] [] σ Q) := by
  intro n
  induction n with
  | zero => intro l2 l3; exact j_none
  | succ n ih =>
    intro l2 l3
    unfold p_X12_count_134
    refine j_iload_n (pc' := 135) rfl rfl rfl ?_
    refine j_iconst (pc' := 136) (x := (4 : Int32)) rfl rfl rfl ?_
    refine j_two (pT := 139) (pF := 163) (L1 := [some (.ref 75), none, some (.int l2), some (.int l3)]) (st1 := []) (fun o kT kF => ?_) (fun h3 => ?_) (fun h3 => ?_)
    · refine j_icge (t := 163) (pc' := 139) rfl rfl rfl (fun h4 => ?_) (fun h4 => ?_)
      · exact kF h4
      · exact kT h4
    · refine j_iload_n (pc' := 140) rfl rfl rfl ?_
      refine j_aload_n (pc' := 141) rfl rfl rfl ?_
      refine j_gfr (pc' := 144) (x := 94) rfl rfl j_a75 rfl rfl ?_
      refine j_iload_n (pc' := 145) rfl rfl rfl ?_
      refine j_iald (pc' := 146) rfl rfl j_a94 ?_
      refine j_iconst (pc' := 147) (x := (-1 : Int32)) rfl rfl rfl ?_
      refine j_ql (Φl := (fun r Q => j_Tr false τ M_cX12_count d 155 [some (.ref 75), none, none, some (.int l3)] [.int r, .int l2] σ Q)) ?_ (fun v1 => ?_)
      · refine j_twoT (pT := 150) (pF := 154) (L1 := [some (.ref 75), none, some (.int l2), some (.int l3)]) (st1 := [.int l2]) (fun o kT kF => ?_) (fun h1 => ?_) (fun h1 => ?_)
        · refine j_icne (t := 154) (pc' := 150) rfl rfl rfl (fun h2 => ?_) (fun h2 => ?_)
          · exact kF h2
          · exact kT h2
        · refine j_iconst (pc' := 151) (x := (0 : Int32)) rfl rfl rfl ?_
          refine j_goto (t := 155) rfl rfl ?_
          refine j_wk [true, true, false, true] (L' := [some (.ref 75), none, none, some (.int l3)]) rfl ?_
          exact j_end (fun _ h => h)
        · refine j_iconst (pc' := 155) (x := (1 : Int32)) rfl rfl rfl ?_
          refine j_wk [true, true, false, true] (L' := [some (.ref 75), none, none, some (.int l3)]) rfl ?_
          exact j_end (fun _ h => h)
      show j_J false τ M_cX12_count d 155 [some (.ref 75), none, none, some (.int l3)] [.int v1, .int l2] σ _ _
      refine j_iadd (pc' := 156) rfl rfl ?_
      refine j_leti (fun v2 => ?_)
      refine j_istore_n (pc' := 157) (L' := [some (.ref 75), none, some (.int v2), some (.int l3)]) rfl rfl rfl ?_
      refine j_iincx (pc' := 160) (y := (1 : Int32)) (L' := [some (.ref 75), none, some (.int v2), some (.int (l3 + (1 : Int32)))]) rfl rfl rfl rfl rfl ?_
      refine j_goto (t := 134) rfl rfl ?_
      exact ih v2 (l3 + (1 : Int32))
    · refine j_wk [false, true, true, false] (L' := [none, none, some (.int l2), none]) rfl ?_
      exact j_end (fun _ h => h)

theorem c_X12_count (l1 : Int32) (σ : j_G) : j_K false 0 350 [.ref 75, .int l1] σ (f_X12_count l1 σ) (j_Pi σ) := by
  refine j_mkK (M := M_cX12_count) (L := [some (.ref 75), some (.int l1), none, none]) (m := 2) t_350 rfl (j_rcvO j_a75 rfl) rfl (fun d hd τ => ?_)
  unfold f_X12_count
  refine j_iconst (pc' := 1) (x := (0 : Int32)) rfl rfl rfl ?_
  refine j_istore_n (pc' := 2) (L' := [some (.ref 75), some (.int l1), some (.int (0 : Int32)), none]) rfl rfl rfl ?_
  refine j_iload_n (pc' := 3) rfl rfl rfl ?_
  refine j_spl (k := (0 : Int32)) (fun h1 => ?_) (fun h1 => ?_)
  · refine j_sw (t := 60) h1 rfl rfl (fun _ _ => rfl) ?_
    refine j_aload_n (pc' := 61) rfl rfl rfl ?_
    refine j_gfr (pc' := 64) (x := 76) rfl rfl j_a75 rfl rfl ?_
    refine j_iconst (pc' := 65) (x := (0 : Int32)) rfl rfl rfl ?_
    refine j_iald (pc' := 66) rfl rfl j_a76 ?_
    exact j_ret rfl rfl rfl (fun _ h => h)
  refine j_spl (k := (1 : Int32)) (fun h2 => ?_) (fun h2 => ?_)
  · refine j_sw (t := 67) h2 rfl rfl (fun _ _ => rfl) ?_
    refine j_aload_n (pc' := 68) rfl rfl rfl ?_
    refine j_gfr (pc' := 71) (x := 76) rfl rfl j_a75 rfl rfl ?_
    refine j_iconst (pc' := 72) (x := (1 : Int32)) rfl rfl rfl ?_
    refine j_iald (pc' := 73) rfl rfl j_a76 ?_
    exact j_ret rfl rfl rfl (fun _ h => h)
  refine j_spl (k := (2 : Int32)) (fun h3 => ?_) (fun h3 => ?_)
  · refine j_sw (t := 74) h3 rfl rfl (fun _ _ => rfl) ?_
    refine j_aload_n (pc' := 75) rfl rfl rfl ?_
    refine j_gfr (pc' := 78) (x := 76) rfl rfl j_a75 rfl rfl ?_
    refine j_iconst (pc' := 79) (x := (2 : Int32)) rfl rfl rfl ?_
    refine j_iald (pc' := 80) rfl rfl j_a76 ?_
    exact j_ret rfl rfl rfl (fun _ h => h)
  refine j_spl (k := (3 : Int32)) (fun h4 => ?_) (fun h4 => ?_)
  · refine j_sw (t := 81) h4 rfl rfl (fun _ _ => rfl) ?_
    refine j_aload_n (pc' := 82) rfl rfl rfl ?_
    refine j_gfr (pc' := 85) (x := 76) rfl rfl j_a75 rfl rfl ?_
    refine j_iconst (pc' := 86) (x := (3 : Int32)) rfl rfl rfl ?_
    refine j_iald (pc' := 87) rfl rfl j_a76 ?_
    exact j_ret rfl rfl rfl (fun _ h => h)
  refine j_spl (k := (4 : Int32)) (fun h5 => ?_) (fun h5 => ?_)
  · refine j_sw (t := 88) h5 rfl rfl (fun _ _ => rfl) ?_
    refine j_aload_n (pc' := 89) rfl rfl rfl ?_
    refine j_gfr (pc' := 92) (x := 76) rfl rfl j_a75 rfl rfl ?_
    refine j_iconst (pc' := 93) (x := (5 : Int32)) rfl rfl rfl ?_
    refine j_iald (pc' := 94) rfl rfl j_a76 ?_
    exact j_ret rfl rfl rfl (fun _ h => h)
  refine j_spl (k := (5 : Int32)) (fun h6 => ?_) (fun h6 => ?_)
  · refine j_sw (t := 95) h6 rfl rfl (fun _ _ => rfl) ?_
    refine j_aload_n (pc' := 96) rfl rfl rfl ?_
    refine j_gfr (pc' := 99) (x := 76) rfl rfl j_a75 rfl rfl ?_
    refine j_bipush (pc' := 101) (x := (6 : Int32)) rfl rfl rfl ?_
    refine j_iald (pc' := 102) rfl rfl j_a76 ?_
    exact j_ret rfl rfl rfl (fun _ h => h)
  refine j_spl (k := (6 : Int32)) (fun h7 => ?_) (fun h7 => ?_)
  · refine j_sw (t := 103) h7 rfl rfl (fun _ _ => rfl) ?_
    refine j_aload_n (pc' := 104) rfl rfl rfl ?_
    refine j_gfr (pc' := 107) (x := 76) rfl rfl j_a75 rfl rfl ?_
    refine j_bipush (pc' := 109) (x := (7 : Int32)) rfl rfl rfl ?_
    refine j_iald (pc' := 110) rfl rfl j_a76 ?_
    exact j_ret rfl rfl rfl (fun _ h => h)
  refine j_spl (k := (7 : Int32)) (fun h8 => ?_) (fun h8 => ?_)
  · refine j_sw (t := 111) h8 rfl rfl (fun _ _ => rfl) ?_
    refine j_aload_n (pc' := 112) rfl rfl rfl ?_
    refine j_gfr (pc' := 115) (x := 76) rfl rfl j_a75 rfl rfl ?_
    refine j_bipush (pc' := 117) (x := (8 : Int32)) rfl rfl rfl ?_
    refine j_iald (pc' := 118) rfl rfl j_a76 ?_
    exact j_ret rfl rfl rfl (fun _ h => h)
  refine j_spl (k := (8 : Int32)) (fun h9 => ?_) (fun h9 => ?_)
  · refine j_sw (t := 119) h9 rfl rfl (fun _ _ => rfl) ?_
    refine j_aload_n (pc' := 120) rfl rfl rfl ?_
    refine j_gfr (pc' := 123) (x := 76) rfl rfl j_a75 rfl rfl ?_
    refine j_bipush (pc' := 125) (x := (9 : Int32)) rfl rfl rfl ?_
    refine j_iald (pc' := 126) rfl rfl j_a76 ?_
    exact j_ret rfl rfl rfl (fun _ h => h)
  refine j_spl (k := (9 : Int32)) (fun h10 => ?_) (fun h10 => ?_)
  · refine j_sw (t := 127) h10 rfl rfl (fun _ _ => rfl) ?_
    refine j_aload_n (pc' := 128) rfl rfl rfl ?_
    refine j_gfi (pc' := 131) rfl rfl j_a75 rfl ?_
    exact j_ret rfl rfl rfl (fun _ h => h)
  refine j_spl (k := (10 : Int32)) (fun h11 => ?_) (fun h11 => ?_)
  · refine j_sw (t := 132) h11 rfl rfl (fun _ _ => rfl) ?_
    refine j_iconst (pc' := 133) (x := (0 : Int32)) rfl rfl rfl ?_
    refine j_istore_n (pc' := 134) (L' := [some (.ref 75), some (.int l1), some (.int (0 : Int32)), some (.int (0 : Int32))]) rfl rfl rfl ?_
    refine j_wk [true, false, true, true] (L' := [some (.ref 75), none, some (.int (0 : Int32)), some (.int (0 : Int32))]) rfl ?_
    refine j_q1 (l_X12_count_134 hd τ σ j_F (0 : Int32) (0 : Int32)) (fun v1 => ?_)
    show j_J false τ M_cX12_count d 163 [none, none, some (.int v1), none] [] σ _ _
    refine j_iload_n (pc' := 164) rfl rfl rfl ?_
    exact j_ret rfl rfl rfl (fun _ h => h)
  have eh1 := j_ne (0) (by decide) h1
  have eh2 := j_ne (1) (by decide) h2
  have eh3 := j_ne (2) (by decide) h3
  have eh4 := j_ne (3) (by decide) h4
  have eh5 := j_ne (4) (by decide) h5
  have eh6 := j_ne (5) (by decide) h6
  have eh7 := j_ne (6) (by decide) h7
  have eh8 := j_ne (7) (by decide) h8
  have eh9 := j_ne (8) (by decide) h9
  have eh10 := j_ne (9) (by decide) h10
  have eh11 := j_ne (10) (by decide) h11
  refine j_tsd (t := 165) rfl (by omega) rfl ?_
  refine j_iconst (pc' := 166) (x := (-1 : Int32)) rfl rfl rfl ?_
  exact j_ret rfl rfl rfl (fun _ h => h)

noncomputable def f_X2_isTold (σ : j_G) : Int32 :=
  if 0 < (σ.1 1 1) then ((1 : Int32)) else ((0 : Int32))

theorem b_X2_isTold (σ : j_G) : f_X2_isTold σ = 0 ∨ f_X2_isTold σ = 1 := by
  unfold f_X2_isTold
  repeat' split
  all_goals first | exact Or.inl rfl | exact Or.inr rfl
theorem c_X2_isTold (σ : j_G) : j_K true 0 11 [.ref 1] σ (some (f_X2_isTold σ)) (j_Pi σ) := by
  refine j_mkK (M := M_cX2_isTold) (L := [some (.ref 1)]) (m := 0) t_11 rfl (j_rcvO j_a1 rfl) rfl (fun d hd τ => ?_)
  unfold f_X2_isTold
  refine j_aload_n (pc' := 1) rfl rfl rfl ?_
  refine j_gfi (pc' := 4) rfl rfl j_a1 rfl ?_
  refine j_twoT (pT := 7) (pF := 11) (L1 := [some (.ref 1)]) (st1 := []) (fun o kT kF => ?_) (fun h1 => ?_) (fun h1 => ?_)
  · refine j_ifle (t := 11) (pc' := 7) rfl rfl rfl (fun h2 => ?_) (fun h2 => ?_)
    · exact kF h2
    · exact kT h2
  · refine j_iconst (pc' := 8) (x := (1 : Int32)) rfl rfl rfl ?_
    refine j_goto (t := 12) rfl rfl ?_
    exact j_ret rfl rfl rfl (fun _ h => h)
  · refine j_iconst (pc' := 12) (x := (0 : Int32)) rfl rfl rfl ?_
    exact j_ret rfl rfl rfl (fun _ h => h)

noncomputable def f_X4_begin (σ : j_G) : Option j_G :=
  j_lt (j_si σ 22 0 (0 : Int32)) fun σ1 =>
  j_lt (j_si σ1 22 6 (0 : Int32)) fun σ2 =>
  some σ2
theorem c_X4_begin (σ : j_G) : j_K true 0 45 [.ref 22] σ (f_X4_begin σ) j_Rv := by
  refine j_mkK (M := M_cX4_begin) (L := [some (.ref 22)]) (m := 0) t_45 rfl (j_rcvO j_a22 rfl) rfl (fun d hd τ => ?_)
  unfold f_X4_begin
  refine j_aload_n (pc' := 1) rfl rfl rfl ?_
  refine j_iconst (pc' := 2) (x := (0 : Int32)) rfl rfl rfl ?_
  refine j_pfi (pc' := 5) rfl rfl j_a22 rfl rfl (fun σ1 => ?_)
  refine j_aload_n (pc' := 6) rfl rfl rfl ?_
  refine j_iconst (pc' := 7) (x := (0 : Int32)) rfl rfl rfl ?_
  refine j_pfi (pc' := 10) rfl rfl j_a22 rfl rfl (fun σ2 => ?_)
  exact j_ret rfl rfl rfl (fun _ h => h)

noncomputable def f_X4_hasRoom (σ : j_G) : Option Int32 :=
  if (σ.1 22 0) < (60 : Int32) then (j_b1 (f_X2_stayIn (σ.1 22 6) σ) fun v1 =>
  if ¬ (f_X2_isTick 1 (((σ.1 22 6) + v1) - (1 : Int32)) σ) = 0 then (some (1 : Int32)) else (some (0 : Int32))) else (some (0 : Int32))
theorem c_X4_hasRoom (σ : j_G) : j_K true 1 46 [.ref 22, .ref 1] σ (f_X4_hasRoom σ) (j_Pi σ) := by
  refine j_mkK (M := M_cX4_hasRoom) (L := [some (.ref 22), some (.ref 1)]) (m := 0) t_46 rfl (j_rcvO j_a22 rfl) rfl (fun d hd τ => ?_)
  unfold f_X4_hasRoom
  refine j_aload_n (pc' := 1) rfl rfl rfl ?_
  refine j_gfi (pc' := 4) rfl rfl j_a22 rfl ?_
  refine j_bipush (pc' := 6) (x := (60 : Int32)) rfl rfl rfl ?_
  refine j_two (pT := 9) (pF := 35) (L1 := [some (.ref 22), some (.ref 1)]) (st1 := []) (fun o kT kF => ?_) (fun h3 => ?_) (fun h3 => ?_)
  · refine j_icge (t := 35) (pc' := 9) rfl rfl rfl (fun h4 => ?_) (fun h4 => ?_)
    · exact kF h4
    · exact kT h4
  · refine j_aload_n (pc' := 10) rfl rfl rfl ?_
    refine j_aload_n (pc' := 11) rfl rfl rfl ?_
    refine j_gfi (pc' := 14) rfl rfl j_a22 rfl ?_
    refine j_aload_n (pc' := 15) rfl rfl rfl ?_
    refine j_aload_n (pc' := 16) rfl rfl rfl ?_
    refine j_gfi (pc' := 19) rfl rfl j_a22 rfl ?_
    refine j_callPi (pc' := 22) (ai := 21) (vs := [.ref 1, .int (σ.1 22 6)]) (rest := [.int (σ.1 22 6), .ref 1]) rfl rfl (fun _ _ => rfl) (c_X2_stayIn (σ.1 22 6) σ) (j_dd rfl hd) rfl (fun v1 => ?_)
    refine j_iadd (pc' := 23) rfl rfl ?_
    refine j_iconst (pc' := 24) (x := (1 : Int32)) rfl rfl rfl ?_
    refine j_isub (pc' := 25) rfl rfl ?_
    refine j_callTi (pc' := 28) (ai := 14) (vs := [.ref 1, .int (((σ.1 22 6) + v1) - (1 : Int32))]) (rest := []) rfl rfl (fun _ _ => rfl) (c_X2_isTick_1 (((σ.1 22 6) + v1) - (1 : Int32)) σ) (j_dd rfl hd) rfl ?_
    refine j_two (pT := 31) (pF := 35) (L1 := [some (.ref 22), some (.ref 1)]) (st1 := []) (fun o kT kF => ?_) (fun h1 => ?_) (fun h1 => ?_)
    · refine j_ifeq (t := 35) (pc' := 31) rfl rfl rfl (fun h2 => ?_) (fun h2 => ?_)
      · exact kF (fun z => z h2)
      · exact kT h2
    · refine j_iconst (pc' := 32) (x := (1 : Int32)) rfl rfl rfl ?_
      refine j_goto (t := 36) rfl rfl ?_
      exact j_ret rfl rfl rfl (fun _ h => h)
    · refine j_iconst (pc' := 36) (x := (0 : Int32)) rfl rfl rfl ?_
      exact j_ret rfl rfl rfl (fun _ h => h)
  · refine j_iconst (pc' := 36) (x := (0 : Int32)) rfl rfl rfl ?_
    exact j_ret rfl rfl rfl (fun _ h => h)

noncomputable def f_X4_add (l2 : Int32) (l3 : Int32) (l4 : Int32) (σ : j_G) : Option j_G :=
  j_ix (σ.1 22 0) 60 (
  j_lt (j_si σ 23 ((σ.1 22 0)).toNatClampNeg l2) fun σ1 =>
  j_ix (σ1.1 22 0) 60 (
  j_lt (j_si σ1 24 ((σ1.1 22 0)).toNatClampNeg l3) fun σ2 =>
  j_ix (σ2.1 22 0) 60 (
  j_lt (j_si σ2 25 ((σ2.1 22 0)).toNatClampNeg l4) fun σ3 =>
  j_ix (σ3.1 22 0) 60 (
  j_lt (j_si σ3 26 ((σ3.1 22 0)).toNatClampNeg (σ3.1 22 6)) fun σ4 =>
  j_b1 (f_X2_stayIn (σ4.1 22 6) σ4) fun v5 =>
  j_ix (σ4.1 22 0) 60 (
  j_lt (j_si σ4 27 ((σ4.1 22 0)).toNatClampNeg (((σ4.1 22 6) + v5) - (1 : Int32))) fun σ6 =>
  j_ix (σ6.1 22 0) 60 (
  j_lt (j_si σ6 22 6 (((σ6.1 27 ((σ6.1 22 0)).toNatClampNeg) + (σ6.1 1 5)) + (1 : Int32))) fun σ7 =>
  j_lt (j_si σ7 22 0 ((σ7.1 22 0) + (1 : Int32))) fun σ8 =>
  some σ8))))))
theorem c_X4_add (l2 : Int32) (l3 : Int32) (l4 : Int32) (σ : j_G) : j_K true 1 47 [.ref 22, .ref 1, .int l2, .int l3, .int l4] σ (f_X4_add l2 l3 l4 σ) j_Rv := by
  refine j_mkK (M := M_cX4_add) (L := [some (.ref 22), some (.ref 1), some (.int l2), some (.int l3), some (.int l4)]) (m := 0) t_47 rfl (j_rcvO j_a22 rfl) rfl (fun d hd τ => ?_)
  unfold f_X4_add
  refine j_aload_n (pc' := 1) rfl rfl rfl ?_
  refine j_gfr (pc' := 4) (x := 23) rfl rfl j_a22 rfl rfl ?_
  refine j_aload_n (pc' := 5) rfl rfl rfl ?_
  refine j_gfi (pc' := 8) rfl rfl j_a22 rfl ?_
  refine j_iload_n (pc' := 9) rfl rfl rfl ?_
  refine j_iast (pc' := 10) rfl rfl j_a23 (fun σ1 => ?_)
  refine j_aload_n (pc' := 11) rfl rfl rfl ?_
  refine j_gfr (pc' := 14) (x := 24) rfl rfl j_a22 rfl rfl ?_
  refine j_aload_n (pc' := 15) rfl rfl rfl ?_
  refine j_gfi (pc' := 18) rfl rfl j_a22 rfl ?_
  refine j_iload_n (pc' := 19) rfl rfl rfl ?_
  refine j_iast (pc' := 20) rfl rfl j_a24 (fun σ2 => ?_)
  refine j_aload_n (pc' := 21) rfl rfl rfl ?_
  refine j_gfr (pc' := 24) (x := 25) rfl rfl j_a22 rfl rfl ?_
  refine j_aload_n (pc' := 25) rfl rfl rfl ?_
  refine j_gfi (pc' := 28) rfl rfl j_a22 rfl ?_
  refine j_iload (pc' := 30) rfl rfl rfl ?_
  refine j_iast (pc' := 31) rfl rfl j_a25 (fun σ3 => ?_)
  refine j_aload_n (pc' := 32) rfl rfl rfl ?_
  refine j_gfr (pc' := 35) (x := 26) rfl rfl j_a22 rfl rfl ?_
  refine j_aload_n (pc' := 36) rfl rfl rfl ?_
  refine j_gfi (pc' := 39) rfl rfl j_a22 rfl ?_
  refine j_aload_n (pc' := 40) rfl rfl rfl ?_
  refine j_gfi (pc' := 43) rfl rfl j_a22 rfl ?_
  refine j_iast (pc' := 44) rfl rfl j_a26 (fun σ4 => ?_)
  refine j_aload_n (pc' := 45) rfl rfl rfl ?_
  refine j_gfr (pc' := 48) (x := 27) rfl rfl j_a22 rfl rfl ?_
  refine j_aload_n (pc' := 49) rfl rfl rfl ?_
  refine j_gfi (pc' := 52) rfl rfl j_a22 rfl ?_
  refine j_aload_n (pc' := 53) rfl rfl rfl ?_
  refine j_gfi (pc' := 56) rfl rfl j_a22 rfl ?_
  refine j_aload_n (pc' := 57) rfl rfl rfl ?_
  refine j_aload_n (pc' := 58) rfl rfl rfl ?_
  refine j_gfi (pc' := 61) rfl rfl j_a22 rfl ?_
  refine j_callPi (pc' := 64) (ai := 21) (vs := [.ref 1, .int (σ4.1 22 6)]) (rest := [.int (σ4.1 22 6), .int (σ4.1 22 0), .ref 27]) rfl rfl (fun _ _ => rfl) (c_X2_stayIn (σ4.1 22 6) σ4) (j_dd rfl hd) rfl (fun v5 => ?_)
  refine j_iadd (pc' := 65) rfl rfl ?_
  refine j_iconst (pc' := 66) (x := (1 : Int32)) rfl rfl rfl ?_
  refine j_isub (pc' := 67) rfl rfl ?_
  refine j_iast (pc' := 68) rfl rfl j_a27 (fun σ6 => ?_)
  refine j_aload_n (pc' := 69) rfl rfl rfl ?_
  refine j_aload_n (pc' := 70) rfl rfl rfl ?_
  refine j_gfr (pc' := 73) (x := 27) rfl rfl j_a22 rfl rfl ?_
  refine j_aload_n (pc' := 74) rfl rfl rfl ?_
  refine j_gfi (pc' := 77) rfl rfl j_a22 rfl ?_
  refine j_iald (pc' := 78) rfl rfl j_a27 ?_
  refine j_aload_n (pc' := 79) rfl rfl rfl ?_
  refine j_gfi (pc' := 82) rfl rfl j_a1 rfl ?_
  refine j_iadd (pc' := 83) rfl rfl ?_
  refine j_iconst (pc' := 84) (x := (1 : Int32)) rfl rfl rfl ?_
  refine j_iadd (pc' := 85) rfl rfl ?_
  refine j_pfi (pc' := 88) rfl rfl j_a22 rfl rfl (fun σ7 => ?_)
  refine j_aload_n (pc' := 89) rfl rfl rfl ?_
  refine j_dup (pc' := 90) rfl rfl rfl ?_
  refine j_gfi (pc' := 93) rfl rfl j_a22 rfl ?_
  refine j_iconst (pc' := 94) (x := (1 : Int32)) rfl rfl rfl ?_
  refine j_iadd (pc' := 95) rfl rfl ?_
  refine j_pfi (pc' := 98) rfl rfl j_a22 rfl rfl (fun σ8 => ?_)
  exact j_ret rfl rfl rfl (fun _ h => h)

noncomputable def p_X4_deal_15 : Nat → Int32 → Int32 → j_G → Option j_G
  | 0, _, _, _ => none
  | n + 1, l4, l5, σ =>
    if (l5 < (60 : Int32)) ∧ (¬ (f_X3_has l4 σ) = 0) then (j_b1 (f_X4_hasRoom σ) fun v1 =>
    if ¬ v1 = 0 then (j_ix l4 24 (
    j_ix l4 24 (
    j_ix l4 24 (
    j_b1 (f_X4_add (σ.1 6 (l4).toNatClampNeg) (σ.1 7 (l4).toNatClampNeg) (σ.1 8 (l4).toNatClampNeg) σ) fun σ2 =>
    j_lt (if (l4 + (1 : Int32)) < (σ2.1 5 0) then ((l4 + (1 : Int32))) else ((0 : Int32))) fun v3 =>
    p_X4_deal_15 n v3 (l5 + (1 : Int32)) σ2)))) else (some σ)) else (some σ)

noncomputable def f_X4_deal (l2 : Int32) (σ : j_G) : Option j_G :=
  j_b1 (f_X4_begin σ) fun σ1 =>
  j_b1 (p_X4_deal_15 j_F l2 (0 : Int32) σ1) fun σ2 =>
  some σ2
theorem l_X4_deal_15 {d : Nat} (hd : 2 ≤ d) (τ : j_G) : ∀ (n : Nat) (l4 : Int32) (l5 : Int32) (σ : j_G), j_J true τ M_cX4_deal d 15 [some (.ref 22), some (.ref 1), none, some (.ref 5), some (.int l4), some (.int l5)] [] σ (p_X4_deal_15 n l4 l5 σ) (fun r Q => j_Tr true τ M_cX4_deal d 92 [none, none, none, none, none, none] [] r Q) := by
  intro n
  induction n with
  | zero => intro l4 l5 σ; exact j_none
  | succ n ih =>
    intro l4 l5 σ
    unfold p_X4_deal_15
    refine j_iload (pc' := 17) rfl rfl rfl ?_
    refine j_bipush (pc' := 19) (x := (60 : Int32)) rfl rfl rfl ?_
    refine j_two (pT := 31) (pF := 92) (L1 := [some (.ref 22), some (.ref 1), none, some (.ref 5), some (.int l4), some (.int l5)]) (st1 := []) (fun o kT kF => ?_) (fun h5 => ?_) (fun h5 => ?_)
    · refine j_icge (t := 92) (pc' := 22) rfl rfl rfl (fun h6 => ?_) (fun h6 => ?_)
      · exact kF (fun z => h6 z.1)
      · refine j_aload_n (pc' := 23) rfl rfl rfl ?_
        refine j_iload (pc' := 25) rfl rfl rfl ?_
        refine j_callTi (pc' := 28) (ai := 31) (vs := [.ref 5, .int l4]) (rest := []) rfl rfl (fun _ _ => rfl) (c_X3_has l4 σ) (j_dd rfl hd) rfl ?_
        refine j_ifeq (t := 92) (pc' := 31) rfl rfl rfl (fun h7 => ?_) (fun h7 => ?_)
        · exact kF (fun z => (fun z => z h7) z.2)
        · exact kT (⟨h6, h7⟩)
    · refine j_aload_n (pc' := 32) rfl rfl rfl ?_
      refine j_aload_n (pc' := 33) rfl rfl rfl ?_
      refine j_callPi (pc' := 36) (ai := 46) (vs := [.ref 22, .ref 1]) (rest := []) rfl rfl (fun _ _ => rfl) (c_X4_hasRoom  σ) (j_dd rfl hd) rfl (fun v1 => ?_)
      refine j_two (pT := 39) (pF := 92) (L1 := [some (.ref 22), some (.ref 1), none, some (.ref 5), some (.int l4), some (.int l5)]) (st1 := []) (fun o kT kF => ?_) (fun h3 => ?_) (fun h3 => ?_)
      · refine j_ifeq (t := 92) (pc' := 39) rfl rfl rfl (fun h4 => ?_) (fun h4 => ?_)
        · exact kF (fun z => z h4)
        · exact kT h4
      · refine j_aload_n (pc' := 40) rfl rfl rfl ?_
        refine j_aload_n (pc' := 41) rfl rfl rfl ?_
        refine j_aload_n (pc' := 42) rfl rfl rfl ?_
        refine j_gfr (pc' := 45) (x := 6) rfl rfl j_a5 rfl rfl ?_
        refine j_iload (pc' := 47) rfl rfl rfl ?_
        refine j_iald (pc' := 48) rfl rfl j_a6 ?_
        refine j_aload_n (pc' := 49) rfl rfl rfl ?_
        refine j_gfr (pc' := 52) (x := 7) rfl rfl j_a5 rfl rfl ?_
        refine j_iload (pc' := 54) rfl rfl rfl ?_
        refine j_iald (pc' := 55) rfl rfl j_a7 ?_
        refine j_aload_n (pc' := 56) rfl rfl rfl ?_
        refine j_gfr (pc' := 59) (x := 8) rfl rfl j_a5 rfl rfl ?_
        refine j_iload (pc' := 61) rfl rfl rfl ?_
        refine j_iald (pc' := 62) rfl rfl j_a8 ?_
        refine j_callRv (pc' := 65) (ai := 47) (vs := [.ref 22, .ref 1, .int (σ.1 6 (l4).toNatClampNeg), .int (σ.1 7 (l4).toNatClampNeg), .int (σ.1 8 (l4).toNatClampNeg)]) (rest := []) rfl rfl (fun _ _ => rfl) (c_X4_add (σ.1 6 (l4).toNatClampNeg) (σ.1 7 (l4).toNatClampNeg) (σ.1 8 (l4).toNatClampNeg) σ) (j_dd rfl hd) rfl (fun σ2 => ?_)
        refine j_iload (pc' := 67) rfl rfl rfl ?_
        refine j_iconst (pc' := 68) (x := (1 : Int32)) rfl rfl rfl ?_
        refine j_iadd (pc' := 69) rfl rfl ?_
        refine j_aload_n (pc' := 70) rfl rfl rfl ?_
        refine j_gfi (pc' := 73) rfl rfl j_a5 rfl ?_
        refine j_ql (Φl := (fun r Q => j_Tr true τ M_cX4_deal d 84 [some (.ref 22), some (.ref 1), none, some (.ref 5), none, some (.int l5)] [.int r] σ2 Q)) ?_ (fun v3 => ?_)
        · refine j_twoT (pT := 76) (pF := 83) (L1 := [some (.ref 22), some (.ref 1), none, some (.ref 5), some (.int l4), some (.int l5)]) (st1 := []) (fun o kT kF => ?_) (fun h1 => ?_) (fun h1 => ?_)
          · refine j_icge (t := 83) (pc' := 76) rfl rfl rfl (fun h2 => ?_) (fun h2 => ?_)
            · exact kF h2
            · exact kT h2
          · refine j_iload (pc' := 78) rfl rfl rfl ?_
            refine j_iconst (pc' := 79) (x := (1 : Int32)) rfl rfl rfl ?_
            refine j_iadd (pc' := 80) rfl rfl ?_
            refine j_goto (t := 84) rfl rfl ?_
            refine j_wk [true, true, true, true, false, true] (L' := [some (.ref 22), some (.ref 1), none, some (.ref 5), none, some (.int l5)]) rfl ?_
            exact j_end (fun _ h => h)
          · refine j_iconst (pc' := 84) (x := (0 : Int32)) rfl rfl rfl ?_
            refine j_wk [true, true, true, true, false, true] (L' := [some (.ref 22), some (.ref 1), none, some (.ref 5), none, some (.int l5)]) rfl ?_
            exact j_end (fun _ h => h)
        show j_J true τ M_cX4_deal d 84 [some (.ref 22), some (.ref 1), none, some (.ref 5), none, some (.int l5)] [.int v3] σ2 _ _
        refine j_istore (pc' := 86) (L' := [some (.ref 22), some (.ref 1), none, some (.ref 5), some (.int v3), some (.int l5)]) rfl rfl rfl ?_
        refine j_iincx (pc' := 89) (y := (1 : Int32)) (L' := [some (.ref 22), some (.ref 1), none, some (.ref 5), some (.int v3), some (.int (l5 + (1 : Int32)))]) rfl rfl rfl rfl rfl ?_
        refine j_goto (t := 15) rfl rfl ?_
        exact ih v3 (l5 + (1 : Int32)) σ2
      · refine j_wk [false, false, true, false, false, false] (L' := [none, none, none, none, none, none]) rfl ?_
        exact j_end (fun _ h => h)
    · refine j_wk [false, false, true, false, false, false] (L' := [none, none, none, none, none, none]) rfl ?_
      exact j_end (fun _ h => h)

theorem c_X4_deal (l2 : Int32) (σ : j_G) : j_K true 2 42 [.ref 22, .ref 1, .int l2] σ (f_X4_deal l2 σ) j_Rv := by
  refine j_mkK (M := M_cX4_deal) (L := [some (.ref 22), some (.ref 1), some (.int l2), none, none, none]) (m := 3) t_42 rfl (j_rcvO j_a22 rfl) rfl (fun d hd τ => ?_)
  unfold f_X4_deal
  refine j_aload_n (pc' := 1) rfl rfl rfl ?_
  refine j_callRv (pc' := 4) (ai := 45) (vs := [.ref 22]) (rest := []) rfl rfl (fun _ _ => rfl) (c_X4_begin  σ) (j_dd rfl hd) rfl (fun σ1 => ?_)
  refine j_aload_n (pc' := 5) rfl rfl rfl ?_
  refine j_gfr (pc' := 8) (x := 5) rfl rfl j_a1 rfl rfl ?_
  refine j_astore_n (pc' := 9) (L' := [some (.ref 22), some (.ref 1), some (.int l2), some (.ref 5), none, none]) rfl rfl rfl ?_
  refine j_iload_n (pc' := 10) rfl rfl rfl ?_
  refine j_istore (pc' := 12) (L' := [some (.ref 22), some (.ref 1), some (.int l2), some (.ref 5), some (.int l2), none]) rfl rfl rfl ?_
  refine j_iconst (pc' := 13) (x := (0 : Int32)) rfl rfl rfl ?_
  refine j_istore (pc' := 15) (L' := [some (.ref 22), some (.ref 1), some (.int l2), some (.ref 5), some (.int l2), some (.int (0 : Int32))]) rfl rfl rfl ?_
  refine j_wk [true, true, false, true, true, true] (L' := [some (.ref 22), some (.ref 1), none, some (.ref 5), some (.int l2), some (.int (0 : Int32))]) rfl ?_
  refine j_q1 (l_X4_deal_15 hd τ j_F l2 (0 : Int32) σ1) (fun σ2 => ?_)
  show j_J true τ M_cX4_deal d 92 [none, none, none, none, none, none] [] σ2 _ _
  exact j_ret rfl rfl rfl (fun _ h => h)

noncomputable def f_X11_comings (σ : j_G) : Option (Int32 × j_G) :=
  if (f_X2_isTold σ) = 0 then (some ((-2 : Int32), σ)) else (j_b1 (f_X4_deal (σ.1 5 1) σ) fun σ1 =>
  some ((σ1.1 22 0), σ1))
theorem c_X11_comings (σ : j_G) : j_K true 3 120 [.ref 0] σ (f_X11_comings σ) j_Ri := by
  refine j_mkK (M := M_cX11_comings) (L := [some (.ref 0)]) (m := 0) t_120 rfl (j_rcvO j_a0 rfl) rfl (fun d hd τ => ?_)
  unfold f_X11_comings
  refine j_aload_n (pc' := 1) rfl rfl rfl ?_
  refine j_gfr (pc' := 4) (x := 1) rfl rfl j_a0 rfl rfl ?_
  refine j_callTi (pc' := 7) (ai := 11) (vs := [.ref 1]) (rest := []) rfl rfl (fun _ _ => rfl) (c_X2_isTold  σ) (j_dd rfl hd) rfl ?_
  refine j_two (pT := 10) (pF := 13) (L1 := [some (.ref 0)]) (st1 := []) (fun o kT kF => ?_) (fun h1 => ?_) (fun h1 => ?_)
  · refine j_ifne (t := 13) (pc' := 10) rfl rfl rfl (fun h2 => ?_) (fun h2 => ?_)
    · exact kF h2
    · exact kT h2
  · refine j_bipush (pc' := 12) (x := (-2 : Int32)) rfl rfl rfl ?_
    exact j_ret rfl rfl rfl (fun _ h => h)
  · refine j_aload_n (pc' := 14) rfl rfl rfl ?_
    refine j_gfr (pc' := 17) (x := 22) rfl rfl j_a0 rfl rfl ?_
    refine j_aload_n (pc' := 18) rfl rfl rfl ?_
    refine j_gfr (pc' := 21) (x := 1) rfl rfl j_a0 rfl rfl ?_
    refine j_aload_n (pc' := 22) rfl rfl rfl ?_
    refine j_gfr (pc' := 25) (x := 1) rfl rfl j_a0 rfl rfl ?_
    refine j_gfr (pc' := 28) (x := 5) rfl rfl j_a1 rfl rfl ?_
    refine j_gfi (pc' := 31) rfl rfl j_a5 rfl ?_
    refine j_callRv (pc' := 34) (ai := 42) (vs := [.ref 22, .ref 1, .int (σ.1 5 1)]) (rest := []) rfl rfl (fun _ _ => rfl) (c_X4_deal (σ.1 5 1) σ) (j_dd rfl hd) rfl (fun σ1 => ?_)
    refine j_aload_n (pc' := 35) rfl rfl rfl ?_
    refine j_gfr (pc' := 38) (x := 22) rfl rfl j_a0 rfl rfl ?_
    refine j_gfi (pc' := 41) rfl rfl j_a22 rfl ?_
    exact j_ret rfl rfl rfl (fun _ h => h)

noncomputable def f_X12_isBoard (σ : j_G) : Option Int32 :=
  j_ix (0 : Int32) 116 (
  if 0 < (σ.1 76 ((0 : Int32)).toNatClampNeg) then (some (1 : Int32)) else (some (0 : Int32)))
theorem c_X12_isBoard (σ : j_G) : j_K false 0 199 [.ref 75] σ (f_X12_isBoard σ) (j_Pi σ) := by
  refine j_mkK (M := M_cX12_isBoard) (L := [some (.ref 75)]) (m := 0) t_199 rfl (j_rcvO j_a75 rfl) rfl (fun d hd τ => ?_)
  unfold f_X12_isBoard
  refine j_aload_n (pc' := 1) rfl rfl rfl ?_
  refine j_gfr (pc' := 4) (x := 76) rfl rfl j_a75 rfl rfl ?_
  refine j_iconst (pc' := 5) (x := (0 : Int32)) rfl rfl rfl ?_
  refine j_iald (pc' := 6) rfl rfl j_a76 ?_
  refine j_two (pT := 9) (pF := 13) (L1 := [some (.ref 75)]) (st1 := []) (fun o kT kF => ?_) (fun h1 => ?_) (fun h1 => ?_)
  · refine j_ifle (t := 13) (pc' := 9) rfl rfl rfl (fun h2 => ?_) (fun h2 => ?_)
    · exact kF h2
    · exact kT h2
  · refine j_iconst (pc' := 10) (x := (1 : Int32)) rfl rfl rfl ?_
    refine j_goto (t := 14) rfl rfl ?_
    exact j_ret rfl rfl rfl (fun _ h => h)
  · refine j_iconst (pc' := 14) (x := (0 : Int32)) rfl rfl rfl ?_
    exact j_ret rfl rfl rfl (fun _ h => h)

noncomputable def f_X12_nextTick (σ : j_G) : Option Int32 :=
  if (σ.1 75 18) = 0 then (some (0 : Int32)) else (j_ix ((σ.1 75 18) - (1 : Int32)) 60 (
  j_ix (3 : Int32) 116 (
  some (((σ.1 84 (((σ.1 75 18) - (1 : Int32))).toNatClampNeg) + (σ.1 76 ((3 : Int32)).toNatClampNeg)) + (1 : Int32)))))
theorem c_X12_nextTick (σ : j_G) : j_K false 0 234 [.ref 75] σ (f_X12_nextTick σ) (j_Pi σ) := by
  refine j_mkK (M := M_cX12_nextTick) (L := [some (.ref 75)]) (m := 0) t_234 rfl (j_rcvO j_a75 rfl) rfl (fun d hd τ => ?_)
  unfold f_X12_nextTick
  refine j_aload_n (pc' := 1) rfl rfl rfl ?_
  refine j_gfi (pc' := 4) rfl rfl j_a75 rfl ?_
  refine j_two (pT := 7) (pF := 11) (L1 := [some (.ref 75)]) (st1 := []) (fun o kT kF => ?_) (fun h1 => ?_) (fun h1 => ?_)
  · refine j_ifne (t := 11) (pc' := 7) rfl rfl rfl (fun h2 => ?_) (fun h2 => ?_)
    · exact kF h2
    · exact kT h2
  · refine j_iconst (pc' := 8) (x := (0 : Int32)) rfl rfl rfl ?_
    refine j_goto (t := 31) rfl rfl ?_
    exact j_ret rfl rfl rfl (fun _ h => h)
  · refine j_aload_n (pc' := 12) rfl rfl rfl ?_
    refine j_gfr (pc' := 15) (x := 84) rfl rfl j_a75 rfl rfl ?_
    refine j_aload_n (pc' := 16) rfl rfl rfl ?_
    refine j_gfi (pc' := 19) rfl rfl j_a75 rfl ?_
    refine j_iconst (pc' := 20) (x := (1 : Int32)) rfl rfl rfl ?_
    refine j_isub (pc' := 21) rfl rfl ?_
    refine j_iald (pc' := 22) rfl rfl j_a84 ?_
    refine j_aload_n (pc' := 23) rfl rfl rfl ?_
    refine j_gfr (pc' := 26) (x := 76) rfl rfl j_a75 rfl rfl ?_
    refine j_iconst (pc' := 27) (x := (3 : Int32)) rfl rfl rfl ?_
    refine j_iald (pc' := 28) rfl rfl j_a76 ?_
    refine j_iadd (pc' := 29) rfl rfl ?_
    refine j_iconst (pc' := 30) (x := (1 : Int32)) rfl rfl rfl ?_
    refine j_iadd (pc' := 31) rfl rfl ?_
    exact j_ret rfl rfl rfl (fun _ h => h)

noncomputable def f_X12_mayCome (σ : j_G) : Option Int32 :=
  j_b1 (f_X12_nextTick σ) fun v1 =>
  if (σ.1 75 18) < (60 : Int32) then (j_b1 (f_X12_stayIn v1 σ) fun v2 =>
  j_ix (2 : Int32) 116 (
  if ¬ ((σ.1 76 ((2 : Int32)).toNatClampNeg) - (1 : Int32)) < ((v1 + v2) - (1 : Int32)) then (some (1 : Int32)) else (some (0 : Int32)))) else (some (0 : Int32))
theorem c_X12_mayCome (σ : j_G) : j_K false 1 235 [.ref 75] σ (f_X12_mayCome σ) (j_Pi σ) := by
  refine j_mkK (M := M_cX12_mayCome) (L := [some (.ref 75), none]) (m := 1) t_235 rfl (j_rcvO j_a75 rfl) rfl (fun d hd τ => ?_)
  unfold f_X12_mayCome
  refine j_aload_n (pc' := 1) rfl rfl rfl ?_
  refine j_callPi (pc' := 4) (ai := 234) (vs := [.ref 75]) (rest := []) rfl rfl (fun _ _ => rfl) (c_X12_nextTick  σ) (j_dd rfl hd) rfl (fun v1 => ?_)
  refine j_istore_n (pc' := 5) (L' := [some (.ref 75), some (.int v1)]) rfl rfl rfl ?_
  refine j_aload_n (pc' := 6) rfl rfl rfl ?_
  refine j_gfi (pc' := 9) rfl rfl j_a75 rfl ?_
  refine j_bipush (pc' := 11) (x := (60 : Int32)) rfl rfl rfl ?_
  refine j_two (pT := 14) (pF := 38) (L1 := [some (.ref 75), some (.int v1)]) (st1 := []) (fun o kT kF => ?_) (fun h3 => ?_) (fun h3 => ?_)
  · refine j_icge (t := 38) (pc' := 14) rfl rfl rfl (fun h4 => ?_) (fun h4 => ?_)
    · exact kF h4
    · exact kT h4
  · refine j_iload_n (pc' := 15) rfl rfl rfl ?_
    refine j_aload_n (pc' := 16) rfl rfl rfl ?_
    refine j_iload_n (pc' := 17) rfl rfl rfl ?_
    refine j_callPi (pc' := 20) (ai := 233) (vs := [.ref 75, .int v1]) (rest := [.int v1]) rfl rfl (fun _ _ => rfl) (c_X12_stayIn v1 σ) (j_dd rfl hd) rfl (fun v2 => ?_)
    refine j_iadd (pc' := 21) rfl rfl ?_
    refine j_iconst (pc' := 22) (x := (1 : Int32)) rfl rfl rfl ?_
    refine j_isub (pc' := 23) rfl rfl ?_
    refine j_aload_n (pc' := 24) rfl rfl rfl ?_
    refine j_gfr (pc' := 27) (x := 76) rfl rfl j_a75 rfl rfl ?_
    refine j_iconst (pc' := 28) (x := (2 : Int32)) rfl rfl rfl ?_
    refine j_iald (pc' := 29) rfl rfl j_a76 ?_
    refine j_iconst (pc' := 30) (x := (1 : Int32)) rfl rfl rfl ?_
    refine j_isub (pc' := 31) rfl rfl ?_
    refine j_two (pT := 34) (pF := 38) (L1 := [some (.ref 75), some (.int v1)]) (st1 := []) (fun o kT kF => ?_) (fun h1 => ?_) (fun h1 => ?_)
    · refine j_icgt (t := 38) (pc' := 34) rfl rfl rfl (fun h2 => ?_) (fun h2 => ?_)
      · exact kF (fun z => z h2)
      · exact kT h2
    · refine j_iconst (pc' := 35) (x := (1 : Int32)) rfl rfl rfl ?_
      refine j_goto (t := 39) rfl rfl ?_
      exact j_ret rfl rfl rfl (fun _ h => h)
    · refine j_iconst (pc' := 39) (x := (0 : Int32)) rfl rfl rfl ?_
      exact j_ret rfl rfl rfl (fun _ h => h)
  · refine j_iconst (pc' := 39) (x := (0 : Int32)) rfl rfl rfl ?_
    exact j_ret rfl rfl rfl (fun _ h => h)

noncomputable def f_X12_come (l1 : Int32) (l2 : Int32) (l3 : Int32) (σ : j_G) : Option j_G :=
  j_b1 (f_X12_nextTick σ) fun v1 =>
  j_ix (((3 : Int32) * (σ.1 75 18)) + (0 : Int32)) 180 (
  j_lt (j_si σ 82 ((((3 : Int32) * (σ.1 75 18)) + (0 : Int32))).toNatClampNeg l1) fun σ2 =>
  j_ix (((3 : Int32) * (σ2.1 75 18)) + (1 : Int32)) 180 (
  j_lt (j_si σ2 82 ((((3 : Int32) * (σ2.1 75 18)) + (1 : Int32))).toNatClampNeg l2) fun σ3 =>
  j_ix (((3 : Int32) * (σ3.1 75 18)) + (2 : Int32)) 180 (
  j_lt (j_si σ3 82 ((((3 : Int32) * (σ3.1 75 18)) + (2 : Int32))).toNatClampNeg l3) fun σ4 =>
  j_ix (σ4.1 75 18) 60 (
  j_lt (j_si σ4 83 ((σ4.1 75 18)).toNatClampNeg v1) fun σ5 =>
  j_b1 (f_X12_stayIn v1 σ5) fun v6 =>
  j_ix (σ5.1 75 18) 60 (
  j_lt (j_si σ5 84 ((σ5.1 75 18)).toNatClampNeg ((v1 + v6) - (1 : Int32))) fun σ7 =>
  j_lt (j_si σ7 75 18 ((σ7.1 75 18) + (1 : Int32))) fun σ8 =>
  some σ8)))))
theorem c_X12_come (l1 : Int32) (l2 : Int32) (l3 : Int32) (σ : j_G) : j_K false 1 236 [.ref 75, .int l1, .int l2, .int l3] σ (f_X12_come l1 l2 l3 σ) j_Rv := by
  refine j_mkK (M := M_cX12_come) (L := [some (.ref 75), some (.int l1), some (.int l2), some (.int l3), none]) (m := 1) t_236 rfl (j_rcvO j_a75 rfl) rfl (fun d hd τ => ?_)
  unfold f_X12_come
  refine j_aload_n (pc' := 1) rfl rfl rfl ?_
  refine j_callPi (pc' := 4) (ai := 234) (vs := [.ref 75]) (rest := []) rfl rfl (fun _ _ => rfl) (c_X12_nextTick  σ) (j_dd rfl hd) rfl (fun v1 => ?_)
  refine j_istore (pc' := 6) (L' := [some (.ref 75), some (.int l1), some (.int l2), some (.int l3), some (.int v1)]) rfl rfl rfl ?_
  refine j_aload_n (pc' := 7) rfl rfl rfl ?_
  refine j_gfr (pc' := 10) (x := 82) rfl rfl j_a75 rfl rfl ?_
  refine j_iconst (pc' := 11) (x := (3 : Int32)) rfl rfl rfl ?_
  refine j_aload_n (pc' := 12) rfl rfl rfl ?_
  refine j_gfi (pc' := 15) rfl rfl j_a75 rfl ?_
  refine j_imul (pc' := 16) rfl rfl ?_
  refine j_iconst (pc' := 17) (x := (0 : Int32)) rfl rfl rfl ?_
  refine j_iadd (pc' := 18) rfl rfl ?_
  refine j_iload_n (pc' := 19) rfl rfl rfl ?_
  refine j_iast (pc' := 20) rfl rfl j_a82 (fun σ2 => ?_)
  refine j_aload_n (pc' := 21) rfl rfl rfl ?_
  refine j_gfr (pc' := 24) (x := 82) rfl rfl j_a75 rfl rfl ?_
  refine j_iconst (pc' := 25) (x := (3 : Int32)) rfl rfl rfl ?_
  refine j_aload_n (pc' := 26) rfl rfl rfl ?_
  refine j_gfi (pc' := 29) rfl rfl j_a75 rfl ?_
  refine j_imul (pc' := 30) rfl rfl ?_
  refine j_iconst (pc' := 31) (x := (1 : Int32)) rfl rfl rfl ?_
  refine j_iadd (pc' := 32) rfl rfl ?_
  refine j_iload_n (pc' := 33) rfl rfl rfl ?_
  refine j_iast (pc' := 34) rfl rfl j_a82 (fun σ3 => ?_)
  refine j_aload_n (pc' := 35) rfl rfl rfl ?_
  refine j_gfr (pc' := 38) (x := 82) rfl rfl j_a75 rfl rfl ?_
  refine j_iconst (pc' := 39) (x := (3 : Int32)) rfl rfl rfl ?_
  refine j_aload_n (pc' := 40) rfl rfl rfl ?_
  refine j_gfi (pc' := 43) rfl rfl j_a75 rfl ?_
  refine j_imul (pc' := 44) rfl rfl ?_
  refine j_iconst (pc' := 45) (x := (2 : Int32)) rfl rfl rfl ?_
  refine j_iadd (pc' := 46) rfl rfl ?_
  refine j_iload_n (pc' := 47) rfl rfl rfl ?_
  refine j_iast (pc' := 48) rfl rfl j_a82 (fun σ4 => ?_)
  refine j_aload_n (pc' := 49) rfl rfl rfl ?_
  refine j_gfr (pc' := 52) (x := 83) rfl rfl j_a75 rfl rfl ?_
  refine j_aload_n (pc' := 53) rfl rfl rfl ?_
  refine j_gfi (pc' := 56) rfl rfl j_a75 rfl ?_
  refine j_iload (pc' := 58) rfl rfl rfl ?_
  refine j_iast (pc' := 59) rfl rfl j_a83 (fun σ5 => ?_)
  refine j_aload_n (pc' := 60) rfl rfl rfl ?_
  refine j_gfr (pc' := 63) (x := 84) rfl rfl j_a75 rfl rfl ?_
  refine j_aload_n (pc' := 64) rfl rfl rfl ?_
  refine j_gfi (pc' := 67) rfl rfl j_a75 rfl ?_
  refine j_iload (pc' := 69) rfl rfl rfl ?_
  refine j_aload_n (pc' := 70) rfl rfl rfl ?_
  refine j_iload (pc' := 72) rfl rfl rfl ?_
  refine j_callPi (pc' := 75) (ai := 233) (vs := [.ref 75, .int v1]) (rest := [.int v1, .int (σ5.1 75 18), .ref 84]) rfl rfl (fun _ _ => rfl) (c_X12_stayIn v1 σ5) (j_dd rfl hd) rfl (fun v6 => ?_)
  refine j_iadd (pc' := 76) rfl rfl ?_
  refine j_iconst (pc' := 77) (x := (1 : Int32)) rfl rfl rfl ?_
  refine j_isub (pc' := 78) rfl rfl ?_
  refine j_iast (pc' := 79) rfl rfl j_a84 (fun σ7 => ?_)
  refine j_aload_n (pc' := 80) rfl rfl rfl ?_
  refine j_dup (pc' := 81) rfl rfl rfl ?_
  refine j_gfi (pc' := 84) rfl rfl j_a75 rfl ?_
  refine j_iconst (pc' := 85) (x := (1 : Int32)) rfl rfl rfl ?_
  refine j_iadd (pc' := 86) rfl rfl ?_
  refine j_pfi (pc' := 89) rfl rfl j_a75 rfl rfl (fun σ8 => ?_)
  exact j_ret rfl rfl rfl (fun _ h => h)

noncomputable def p_X12_lay_5 : Nat → j_G → Option j_G
  | 0, _ => none
  | n + 1, σ =>
    j_ix (5 : Int32) 116 (
    if 0 < (σ.1 76 ((5 : Int32)).toNatClampNeg) then (j_b1 (f_X12_mayCome σ) fun v1 =>
    if ¬ v1 = 0 then (j_ix (8 : Int32) 116 (
    j_ix (5 : Int32) 116 (
    if (σ.1 76 ((5 : Int32)).toNatClampNeg) = 0 then none else (
    j_lt (((σ.1 76 ((8 : Int32)).toNatClampNeg) + (σ.1 75 18)) - ((σ.1 76 ((8 : Int32)).toNatClampNeg) + (σ.1 75 18)) / (σ.1 76 ((5 : Int32)).toNatClampNeg) * (σ.1 76 ((5 : Int32)).toNatClampNeg)) fun v2 =>
    j_b1 (f_X12_ofComing v2 (0 : Int32) σ) fun v3 =>
    j_b1 (f_X12_ofComing v2 (1 : Int32) σ) fun v4 =>
    j_b1 (f_X12_ofComing v2 (2 : Int32) σ) fun v5 =>
    j_b1 (f_X12_come v3 v4 v5 σ) fun σ6 =>
    p_X12_lay_5 n σ6)))) else (some σ)) else (some σ))

noncomputable def f_X12_lay (σ : j_G) : Option j_G :=
  j_lt (j_si σ 75 18 (0 : Int32)) fun σ1 =>
  j_b1 (p_X12_lay_5 j_F σ1) fun σ2 =>
  some σ2
theorem l_X12_lay_5 {d : Nat} (hd : 2 ≤ d) (τ : j_G) : ∀ (n : Nat) (σ : j_G), j_J false τ M_cX12_lay d 5 [some (.ref 75), none] [] σ (p_X12_lay_5 n σ) (fun r Q => j_Tr false τ M_cX12_lay d 66 [none, none] [] r Q) := by
  intro n
  induction n with
  | zero => intro σ; exact j_none
  | succ n ih =>
    intro σ
    unfold p_X12_lay_5
    refine j_aload_n (pc' := 6) rfl rfl rfl ?_
    refine j_gfr (pc' := 9) (x := 76) rfl rfl j_a75 rfl rfl ?_
    refine j_iconst (pc' := 10) (x := (5 : Int32)) rfl rfl rfl ?_
    refine j_iald (pc' := 11) rfl rfl j_a76 ?_
    refine j_two (pT := 14) (pF := 66) (L1 := [some (.ref 75), none]) (st1 := []) (fun o kT kF => ?_) (fun h3 => ?_) (fun h3 => ?_)
    · refine j_ifle (t := 66) (pc' := 14) rfl rfl rfl (fun h4 => ?_) (fun h4 => ?_)
      · exact kF h4
      · exact kT h4
    · refine j_aload_n (pc' := 15) rfl rfl rfl ?_
      refine j_callPi (pc' := 18) (ai := 235) (vs := [.ref 75]) (rest := []) rfl rfl (fun _ _ => rfl) (c_X12_mayCome  σ) (j_dd rfl hd) rfl (fun v1 => ?_)
      refine j_two (pT := 21) (pF := 66) (L1 := [some (.ref 75), none]) (st1 := []) (fun o kT kF => ?_) (fun h1 => ?_) (fun h1 => ?_)
      · refine j_ifeq (t := 66) (pc' := 21) rfl rfl rfl (fun h2 => ?_) (fun h2 => ?_)
        · exact kF (fun z => z h2)
        · exact kT h2
      · refine j_aload_n (pc' := 22) rfl rfl rfl ?_
        refine j_gfr (pc' := 25) (x := 76) rfl rfl j_a75 rfl rfl ?_
        refine j_bipush (pc' := 27) (x := (8 : Int32)) rfl rfl rfl ?_
        refine j_iald (pc' := 28) rfl rfl j_a76 ?_
        refine j_aload_n (pc' := 29) rfl rfl rfl ?_
        refine j_gfi (pc' := 32) rfl rfl j_a75 rfl ?_
        refine j_iadd (pc' := 33) rfl rfl ?_
        refine j_aload_n (pc' := 34) rfl rfl rfl ?_
        refine j_gfr (pc' := 37) (x := 76) rfl rfl j_a75 rfl rfl ?_
        refine j_iconst (pc' := 38) (x := (5 : Int32)) rfl rfl rfl ?_
        refine j_iald (pc' := 39) rfl rfl j_a76 ?_
        refine j_irem (pc' := 40) rfl rfl ?_
        refine j_leti (fun v2 => ?_)
        refine j_istore_n (pc' := 41) (L' := [some (.ref 75), some (.int v2)]) rfl rfl rfl ?_
        refine j_aload_n (pc' := 42) rfl rfl rfl ?_
        refine j_aload_n (pc' := 43) rfl rfl rfl ?_
        refine j_iload_n (pc' := 44) rfl rfl rfl ?_
        refine j_iconst (pc' := 45) (x := (0 : Int32)) rfl rfl rfl ?_
        refine j_callPi (pc' := 48) (ai := 206) (vs := [.ref 75, .int v2, .int (0 : Int32)]) (rest := [.ref 75]) rfl rfl (fun _ _ => rfl) (c_X12_ofComing v2 (0 : Int32) σ) (j_dd rfl hd) rfl (fun v3 => ?_)
        refine j_aload_n (pc' := 49) rfl rfl rfl ?_
        refine j_iload_n (pc' := 50) rfl rfl rfl ?_
        refine j_iconst (pc' := 51) (x := (1 : Int32)) rfl rfl rfl ?_
        refine j_callPi (pc' := 54) (ai := 206) (vs := [.ref 75, .int v2, .int (1 : Int32)]) (rest := [.int v3, .ref 75]) rfl rfl (fun _ _ => rfl) (c_X12_ofComing v2 (1 : Int32) σ) (j_dd rfl hd) rfl (fun v4 => ?_)
        refine j_aload_n (pc' := 55) rfl rfl rfl ?_
        refine j_iload_n (pc' := 56) rfl rfl rfl ?_
        refine j_iconst (pc' := 57) (x := (2 : Int32)) rfl rfl rfl ?_
        refine j_callPi (pc' := 60) (ai := 206) (vs := [.ref 75, .int v2, .int (2 : Int32)]) (rest := [.int v4, .int v3, .ref 75]) rfl rfl (fun _ _ => rfl) (c_X12_ofComing v2 (2 : Int32) σ) (j_dd rfl hd) rfl (fun v5 => ?_)
        refine j_callRv (pc' := 63) (ai := 236) (vs := [.ref 75, .int v3, .int v4, .int v5]) (rest := []) rfl rfl (fun _ _ => rfl) (c_X12_come v3 v4 v5 σ) (j_dd rfl hd) rfl (fun σ6 => ?_)
        refine j_goto (t := 5) rfl rfl ?_
        refine j_wk [true, false] (L' := [some (.ref 75), none]) rfl ?_
        exact ih σ6
      · refine j_wk [false, true] (L' := [none, none]) rfl ?_
        exact j_end (fun _ h => h)
    · refine j_wk [false, true] (L' := [none, none]) rfl ?_
      exact j_end (fun _ h => h)

theorem c_X12_lay (σ : j_G) : j_K false 2 237 [.ref 75] σ (f_X12_lay σ) j_Rv := by
  refine j_mkK (M := M_cX12_lay) (L := [some (.ref 75), none]) (m := 1) t_237 rfl (j_rcvO j_a75 rfl) rfl (fun d hd τ => ?_)
  unfold f_X12_lay
  refine j_aload_n (pc' := 1) rfl rfl rfl ?_
  refine j_iconst (pc' := 2) (x := (0 : Int32)) rfl rfl rfl ?_
  refine j_pfi (pc' := 5) rfl rfl j_a75 rfl rfl (fun σ1 => ?_)
  refine j_q1 (l_X12_lay_5 hd τ j_F σ1) (fun σ2 => ?_)
  show j_J false τ M_cX12_lay d 66 [none, none] [] σ2 _ _
  exact j_ret rfl rfl rfl (fun _ h => h)

noncomputable def f_X12_comings (σ : j_G) : Option (Int32 × j_G) :=
  j_b1 (f_X12_isBoard σ) fun v1 =>
  if v1 = 0 then (some ((-2 : Int32), σ)) else (j_b1 (f_X12_lay σ) fun σ2 =>
  some ((σ2.1 75 18), σ2))
theorem c_X12_comings (σ : j_G) : j_K false 3 242 [.ref 75] σ (f_X12_comings σ) j_Ri := by
  refine j_mkK (M := M_cX12_comings) (L := [some (.ref 75)]) (m := 0) t_242 rfl (j_rcvO j_a75 rfl) rfl (fun d hd τ => ?_)
  unfold f_X12_comings
  refine j_aload_n (pc' := 1) rfl rfl rfl ?_
  refine j_callPi (pc' := 4) (ai := 199) (vs := [.ref 75]) (rest := []) rfl rfl (fun _ _ => rfl) (c_X12_isBoard  σ) (j_dd rfl hd) rfl (fun v1 => ?_)
  refine j_two (pT := 7) (pF := 10) (L1 := [some (.ref 75)]) (st1 := []) (fun o kT kF => ?_) (fun h1 => ?_) (fun h1 => ?_)
  · refine j_ifne (t := 10) (pc' := 7) rfl rfl rfl (fun h2 => ?_) (fun h2 => ?_)
    · exact kF h2
    · exact kT h2
  · refine j_bipush (pc' := 9) (x := (-2 : Int32)) rfl rfl rfl ?_
    exact j_ret rfl rfl rfl (fun _ h => h)
  · refine j_aload_n (pc' := 11) rfl rfl rfl ?_
    refine j_callRv (pc' := 14) (ai := 237) (vs := [.ref 75]) (rest := []) rfl rfl (fun _ _ => rfl) (c_X12_lay  σ) (j_dd rfl hd) rfl (fun σ2 => ?_)
    refine j_aload_n (pc' := 15) rfl rfl rfl ?_
    refine j_gfi (pc' := 18) rfl rfl j_a75 rfl ?_
    exact j_ret rfl rfl rfl (fun _ h => h)

noncomputable def f_X4_has (l1 : Int32) (σ : j_G) : Int32 :=
  if (¬ l1 < 0) ∧ (l1 < (σ.1 22 0)) then ((1 : Int32)) else ((0 : Int32))

theorem b_X4_has (l1 : Int32) (σ : j_G) : f_X4_has l1 σ = 0 ∨ f_X4_has l1 σ = 1 := by
  unfold f_X4_has
  repeat' split
  all_goals first | exact Or.inl rfl | exact Or.inr rfl
theorem c_X4_has (l1 : Int32) (σ : j_G) : j_K true 0 41 [.ref 22, .int l1] σ (some (f_X4_has l1 σ)) (j_Pi σ) := by
  refine j_mkK (M := M_cX4_has) (L := [some (.ref 22), some (.int l1)]) (m := 0) t_41 rfl (j_rcvO j_a22 rfl) rfl (fun d hd τ => ?_)
  unfold f_X4_has
  refine j_iload_n (pc' := 1) rfl rfl rfl ?_
  refine j_twoT (pT := 12) (pF := 16) (L1 := [some (.ref 22), some (.int l1)]) (st1 := []) (fun o kT kF => ?_) (fun h1 => ?_) (fun h1 => ?_)
  · refine j_iflt (t := 16) (pc' := 4) rfl rfl rfl (fun h2 => ?_) (fun h2 => ?_)
    · exact kF (fun z => z.1 h2)
    · refine j_iload_n (pc' := 5) rfl rfl rfl ?_
      refine j_aload_n (pc' := 6) rfl rfl rfl ?_
      refine j_gfi (pc' := 9) rfl rfl j_a22 rfl ?_
      refine j_icge (t := 16) (pc' := 12) rfl rfl rfl (fun h3 => ?_) (fun h3 => ?_)
      · exact kF (fun z => (h3) z.2)
      · exact kT (⟨h2, h3⟩)
  · refine j_iconst (pc' := 13) (x := (1 : Int32)) rfl rfl rfl ?_
    refine j_goto (t := 17) rfl rfl ?_
    exact j_ret rfl rfl rfl (fun _ h => h)
  · refine j_iconst (pc' := 17) (x := (0 : Int32)) rfl rfl rfl ?_
    exact j_ret rfl rfl rfl (fun _ h => h)

noncomputable def f_X11_comes (l1 : Int32) (l2 : Int32) (σ : j_G) : Option (Int32 × j_G) :=
  if ((f_X2_isTold σ) = 0) ∨ ((l2 < 0) ∨ ((4 : Int32) < l2)) then (some ((-2 : Int32), σ)) else (j_b1 (f_X4_deal (σ.1 5 1) σ) fun σ1 =>
  if (f_X4_has l1 σ1) = 0 then (some ((-1 : Int32), σ1)) else (if l2 = 0 then (j_ix l1 60 (
  some ((σ1.1 23 (l1).toNatClampNeg), σ1))) else
  if l2 = 1 then (j_ix l1 60 (
  some ((σ1.1 24 (l1).toNatClampNeg), σ1))) else
  if l2 = 2 then (j_ix l1 60 (
  some ((σ1.1 25 (l1).toNatClampNeg), σ1))) else
  if l2 = 3 then (j_ix l1 60 (
  some ((σ1.1 26 (l1).toNatClampNeg), σ1))) else
  (j_ix l1 60 (
  some ((σ1.1 27 (l1).toNatClampNeg), σ1)))))
theorem c_X11_comes (l1 : Int32) (l2 : Int32) (σ : j_G) : j_K true 3 121 [.ref 0, .int l1, .int l2] σ (f_X11_comes l1 l2 σ) j_Ri := by
  refine j_mkK (M := M_cX11_comes) (L := [some (.ref 0), some (.int l1), some (.int l2)]) (m := 0) t_121 rfl (j_rcvO j_a0 rfl) rfl (fun d hd τ => ?_)
  unfold f_X11_comes
  refine j_aload_n (pc' := 1) rfl rfl rfl ?_
  refine j_gfr (pc' := 4) (x := 1) rfl rfl j_a0 rfl rfl ?_
  refine j_callTi (pc' := 7) (ai := 11) (vs := [.ref 1]) (rest := []) rfl rfl (fun _ _ => rfl) (c_X2_isTold  σ) (j_dd rfl hd) rfl ?_
  refine j_two (pT := 19) (pF := 22) (L1 := [some (.ref 0), some (.int l1), some (.int l2)]) (st1 := []) (fun o kT kF => ?_) (fun h7 => ?_) (fun h7 => ?_)
  · refine j_ifeq (t := 19) (pc' := 10) rfl rfl rfl (fun h8 => ?_) (fun h8 => ?_)
    · exact kT (Or.inl h8)
    · refine j_iload_n (pc' := 11) rfl rfl rfl ?_
      refine j_iflt (t := 19) (pc' := 14) rfl rfl rfl (fun h9 => ?_) (fun h9 => ?_)
      · exact kT (Or.inr (Or.inl h9))
      · refine j_iload_n (pc' := 15) rfl rfl rfl ?_
        refine j_iconst (pc' := 16) (x := (4 : Int32)) rfl rfl rfl ?_
        refine j_icle (t := 22) (pc' := 19) rfl rfl rfl (fun h10 => ?_) (fun h10 => ?_)
        · exact kF (fun z => z.elim h8 (fun z => z.elim h9 (h10)))
        · exact kT (Or.inr (Or.inr (h10)))
  · refine j_bipush (pc' := 21) (x := (-2 : Int32)) rfl rfl rfl ?_
    exact j_ret rfl rfl rfl (fun _ h => h)
  · refine j_aload_n (pc' := 23) rfl rfl rfl ?_
    refine j_gfr (pc' := 26) (x := 22) rfl rfl j_a0 rfl rfl ?_
    refine j_aload_n (pc' := 27) rfl rfl rfl ?_
    refine j_gfr (pc' := 30) (x := 1) rfl rfl j_a0 rfl rfl ?_
    refine j_aload_n (pc' := 31) rfl rfl rfl ?_
    refine j_gfr (pc' := 34) (x := 1) rfl rfl j_a0 rfl rfl ?_
    refine j_gfr (pc' := 37) (x := 5) rfl rfl j_a1 rfl rfl ?_
    refine j_gfi (pc' := 40) rfl rfl j_a5 rfl ?_
    refine j_callRv (pc' := 43) (ai := 42) (vs := [.ref 22, .ref 1, .int (σ.1 5 1)]) (rest := []) rfl rfl (fun _ _ => rfl) (c_X4_deal (σ.1 5 1) σ) (j_dd rfl hd) rfl (fun σ1 => ?_)
    refine j_aload_n (pc' := 44) rfl rfl rfl ?_
    refine j_gfr (pc' := 47) (x := 22) rfl rfl j_a0 rfl rfl ?_
    refine j_iload_n (pc' := 48) rfl rfl rfl ?_
    refine j_callTi (pc' := 51) (ai := 41) (vs := [.ref 22, .int l1]) (rest := []) rfl rfl (fun _ _ => rfl) (c_X4_has l1 σ1) (j_dd rfl hd) rfl ?_
    refine j_two (pT := 54) (pF := 56) (L1 := [some (.ref 0), some (.int l1), some (.int l2)]) (st1 := []) (fun o kT kF => ?_) (fun h5 => ?_) (fun h5 => ?_)
    · refine j_ifne (t := 56) (pc' := 54) rfl rfl rfl (fun h6 => ?_) (fun h6 => ?_)
      · exact kF h6
      · exact kT h6
    · refine j_iconst (pc' := 55) (x := (-1 : Int32)) rfl rfl rfl ?_
      exact j_ret rfl rfl rfl (fun _ h => h)
    · refine j_iload_n (pc' := 57) rfl rfl rfl ?_
      refine j_spl (k := (0 : Int32)) (fun h1 => ?_) (fun h1 => ?_)
      · refine j_sw (t := 88) h1 rfl rfl (fun _ _ => rfl) ?_
        refine j_aload_n (pc' := 89) rfl rfl rfl ?_
        refine j_gfr (pc' := 92) (x := 22) rfl rfl j_a0 rfl rfl ?_
        refine j_gfr (pc' := 95) (x := 23) rfl rfl j_a22 rfl rfl ?_
        refine j_iload_n (pc' := 96) rfl rfl rfl ?_
        refine j_iald (pc' := 97) rfl rfl j_a23 ?_
        exact j_ret rfl rfl rfl (fun _ h => h)
      refine j_spl (k := (1 : Int32)) (fun h2 => ?_) (fun h2 => ?_)
      · refine j_sw (t := 98) h2 rfl rfl (fun _ _ => rfl) ?_
        refine j_aload_n (pc' := 99) rfl rfl rfl ?_
        refine j_gfr (pc' := 102) (x := 22) rfl rfl j_a0 rfl rfl ?_
        refine j_gfr (pc' := 105) (x := 24) rfl rfl j_a22 rfl rfl ?_
        refine j_iload_n (pc' := 106) rfl rfl rfl ?_
        refine j_iald (pc' := 107) rfl rfl j_a24 ?_
        exact j_ret rfl rfl rfl (fun _ h => h)
      refine j_spl (k := (2 : Int32)) (fun h3 => ?_) (fun h3 => ?_)
      · refine j_sw (t := 108) h3 rfl rfl (fun _ _ => rfl) ?_
        refine j_aload_n (pc' := 109) rfl rfl rfl ?_
        refine j_gfr (pc' := 112) (x := 22) rfl rfl j_a0 rfl rfl ?_
        refine j_gfr (pc' := 115) (x := 25) rfl rfl j_a22 rfl rfl ?_
        refine j_iload_n (pc' := 116) rfl rfl rfl ?_
        refine j_iald (pc' := 117) rfl rfl j_a25 ?_
        exact j_ret rfl rfl rfl (fun _ h => h)
      refine j_spl (k := (3 : Int32)) (fun h4 => ?_) (fun h4 => ?_)
      · refine j_sw (t := 118) h4 rfl rfl (fun _ _ => rfl) ?_
        refine j_aload_n (pc' := 119) rfl rfl rfl ?_
        refine j_gfr (pc' := 122) (x := 22) rfl rfl j_a0 rfl rfl ?_
        refine j_gfr (pc' := 125) (x := 26) rfl rfl j_a22 rfl rfl ?_
        refine j_iload_n (pc' := 126) rfl rfl rfl ?_
        refine j_iald (pc' := 127) rfl rfl j_a26 ?_
        exact j_ret rfl rfl rfl (fun _ h => h)
      have eh1 := j_ne (0) (by decide) h1
      have eh2 := j_ne (1) (by decide) h2
      have eh3 := j_ne (2) (by decide) h3
      have eh4 := j_ne (3) (by decide) h4
      refine j_tsd (t := 128) rfl (by omega) rfl ?_
      refine j_aload_n (pc' := 129) rfl rfl rfl ?_
      refine j_gfr (pc' := 132) (x := 22) rfl rfl j_a0 rfl rfl ?_
      refine j_gfr (pc' := 135) (x := 27) rfl rfl j_a22 rfl rfl ?_
      refine j_iload_n (pc' := 136) rfl rfl rfl ?_
      refine j_iald (pc' := 137) rfl rfl j_a27 ?_
      exact j_ret rfl rfl rfl (fun _ h => h)

noncomputable def f_X12_isInGame (l1 : Int32) (σ : j_G) : Int32 :=
  (f_X12_in (l1).toInt64 (0 : Int64) (((σ.1 75 18) - (1 : Int32))).toInt64)

theorem b_X12_isInGame (l1 : Int32) (σ : j_G) : f_X12_isInGame l1 σ = 0 ∨ f_X12_isInGame l1 σ = 1 := by
  unfold f_X12_isInGame
  exact (b_X12_in (l1).toInt64 (0 : Int64) (((σ.1 75 18) - (1 : Int32))).toInt64)
theorem c_X12_isInGame (l1 : Int32) (σ : j_G) : j_K false 1 243 [.ref 75, .int l1] σ (some (f_X12_isInGame l1 σ)) (j_Pi σ) := by
  refine j_mkK (M := M_cX12_isInGame) (L := [some (.ref 75), some (.int l1)]) (m := 0) t_243 rfl (j_rcvO j_a75 rfl) rfl (fun d hd τ => ?_)
  unfold f_X12_isInGame
  refine j_iload_n (pc' := 1) rfl rfl rfl ?_
  refine j_i2l (pc' := 2) rfl rfl ?_
  refine j_lconst (pc' := 3) (x := (0 : Int64)) rfl rfl rfl ?_
  refine j_aload_n (pc' := 4) rfl rfl rfl ?_
  refine j_gfi (pc' := 7) rfl rfl j_a75 rfl ?_
  refine j_iconst (pc' := 8) (x := (1 : Int32)) rfl rfl rfl ?_
  refine j_isub (pc' := 9) rfl rfl ?_
  refine j_i2l (pc' := 10) rfl rfl ?_
  refine j_callTi (pc' := 13) (ai := 196) (vs := [.long (l1).toInt64, .long (0 : Int64), .long (((σ.1 75 18) - (1 : Int32))).toInt64]) (rest := []) rfl rfl (fun _ _ => rfl) (c_X12_in (l1).toInt64 (0 : Int64) (((σ.1 75 18) - (1 : Int32))).toInt64 σ) (j_dd rfl hd) rfl ?_
  exact j_retb rfl rfl (b_X12_in (l1).toInt64 (0 : Int64) (((σ.1 75 18) - (1 : Int32))).toInt64) (fun _ h => h)

noncomputable def f_X12_inGame (l1 : Int32) (l2 : Int32) (σ : j_G) : Option Int32 :=
  j_ix (((3 : Int32) * l1) + l2) 180 (
  some (σ.1 82 ((((3 : Int32) * l1) + l2)).toNatClampNeg))
theorem c_X12_inGame (l1 : Int32) (l2 : Int32) (σ : j_G) : j_K false 0 238 [.ref 75, .int l1, .int l2] σ (f_X12_inGame l1 l2 σ) (j_Pi σ) := by
  refine j_mkK (M := M_cX12_inGame) (L := [some (.ref 75), some (.int l1), some (.int l2)]) (m := 0) t_238 rfl (j_rcvO j_a75 rfl) rfl (fun d hd τ => ?_)
  unfold f_X12_inGame
  refine j_aload_n (pc' := 1) rfl rfl rfl ?_
  refine j_gfr (pc' := 4) (x := 82) rfl rfl j_a75 rfl rfl ?_
  refine j_iconst (pc' := 5) (x := (3 : Int32)) rfl rfl rfl ?_
  refine j_iload_n (pc' := 6) rfl rfl rfl ?_
  refine j_imul (pc' := 7) rfl rfl ?_
  refine j_iload_n (pc' := 8) rfl rfl rfl ?_
  refine j_iadd (pc' := 9) rfl rfl ?_
  refine j_iald (pc' := 10) rfl rfl j_a82 ?_
  exact j_ret rfl rfl rfl (fun _ h => h)

noncomputable def f_X12_comes (l1 : Int32) (l2 : Int32) (σ : j_G) : Option (Int32 × j_G) :=
  j_b1 (f_X12_isBoard σ) fun v1 =>
  if (v1 = 0) ∨ ((f_X12_in (l2).toInt64 (0 : Int64) (4 : Int64)) = 0) then (some ((-2 : Int32), σ)) else (j_b1 (f_X12_lay σ) fun σ2 =>
  if (f_X12_isInGame l1 σ2) = 0 then (some ((-1 : Int32), σ2)) else (if l2 < (3 : Int32) then (j_b1 (f_X12_inGame l1 l2 σ2) fun v3 =>
  some (v3, σ2)) else (if l2 = (3 : Int32) then (j_ix l1 60 (
  some ((σ2.1 83 (l1).toNatClampNeg), σ2))) else (j_ix l1 60 (
  some ((σ2.1 84 (l1).toNatClampNeg), σ2))))))
theorem c_X12_comes (l1 : Int32) (l2 : Int32) (σ : j_G) : j_K false 3 244 [.ref 75, .int l1, .int l2] σ (f_X12_comes l1 l2 σ) j_Ri := by
  refine j_mkK (M := M_cX12_comes) (L := [some (.ref 75), some (.int l1), some (.int l2)]) (m := 0) t_244 rfl (j_rcvO j_a75 rfl) rfl (fun d hd τ => ?_)
  unfold f_X12_comes
  refine j_aload_n (pc' := 1) rfl rfl rfl ?_
  refine j_callPi (pc' := 4) (ai := 199) (vs := [.ref 75]) (rest := []) rfl rfl (fun _ _ => rfl) (c_X12_isBoard  σ) (j_dd rfl hd) rfl (fun v1 => ?_)
  refine j_two (pT := 19) (pF := 22) (L1 := [some (.ref 75), some (.int l1), some (.int l2)]) (st1 := []) (fun o kT kF => ?_) (fun h7 => ?_) (fun h7 => ?_)
  · refine j_ifeq (t := 19) (pc' := 7) rfl rfl rfl (fun h8 => ?_) (fun h8 => ?_)
    · exact kT (Or.inl h8)
    · refine j_iload_n (pc' := 8) rfl rfl rfl ?_
      refine j_i2l (pc' := 9) rfl rfl ?_
      refine j_lconst (pc' := 10) (x := (0 : Int64)) rfl rfl rfl ?_
      refine j_ldc2_w (pc' := 13) (x := (4 : Int64)) rfl rfl rfl ?_
      refine j_callTi (pc' := 16) (ai := 196) (vs := [.long (l2).toInt64, .long (0 : Int64), .long (4 : Int64)]) (rest := []) rfl rfl (fun _ _ => rfl) (c_X12_in (l2).toInt64 (0 : Int64) (4 : Int64) σ) (j_dd rfl hd) rfl ?_
      refine j_ifne (t := 22) (pc' := 19) rfl rfl rfl (fun h9 => ?_) (fun h9 => ?_)
      · exact kF (fun z => z.elim h8 (h9))
      · exact kT (Or.inr (h9))
  · refine j_bipush (pc' := 21) (x := (-2 : Int32)) rfl rfl rfl ?_
    exact j_ret rfl rfl rfl (fun _ h => h)
  · refine j_aload_n (pc' := 23) rfl rfl rfl ?_
    refine j_callRv (pc' := 26) (ai := 237) (vs := [.ref 75]) (rest := []) rfl rfl (fun _ _ => rfl) (c_X12_lay  σ) (j_dd rfl hd) rfl (fun σ2 => ?_)
    refine j_aload_n (pc' := 27) rfl rfl rfl ?_
    refine j_iload_n (pc' := 28) rfl rfl rfl ?_
    refine j_callTi (pc' := 31) (ai := 243) (vs := [.ref 75, .int l1]) (rest := []) rfl rfl (fun _ _ => rfl) (c_X12_isInGame l1 σ2) (j_dd rfl hd) rfl ?_
    refine j_two (pT := 34) (pF := 36) (L1 := [some (.ref 75), some (.int l1), some (.int l2)]) (st1 := []) (fun o kT kF => ?_) (fun h5 => ?_) (fun h5 => ?_)
    · refine j_ifne (t := 36) (pc' := 34) rfl rfl rfl (fun h6 => ?_) (fun h6 => ?_)
      · exact kF h6
      · exact kT h6
    · refine j_iconst (pc' := 35) (x := (-1 : Int32)) rfl rfl rfl ?_
      exact j_ret rfl rfl rfl (fun _ h => h)
    · refine j_iload_n (pc' := 37) rfl rfl rfl ?_
      refine j_iconst (pc' := 38) (x := (3 : Int32)) rfl rfl rfl ?_
      refine j_two (pT := 41) (pF := 50) (L1 := [some (.ref 75), some (.int l1), some (.int l2)]) (st1 := []) (fun o kT kF => ?_) (fun h3 => ?_) (fun h3 => ?_)
      · refine j_icge (t := 50) (pc' := 41) rfl rfl rfl (fun h4 => ?_) (fun h4 => ?_)
        · exact kF h4
        · exact kT h4
      · refine j_aload_n (pc' := 42) rfl rfl rfl ?_
        refine j_iload_n (pc' := 43) rfl rfl rfl ?_
        refine j_iload_n (pc' := 44) rfl rfl rfl ?_
        refine j_callPi (pc' := 47) (ai := 238) (vs := [.ref 75, .int l1, .int l2]) (rest := []) rfl rfl (fun _ _ => rfl) (c_X12_inGame l1 l2 σ2) (j_dd rfl hd) rfl (fun v3 => ?_)
        refine j_goto (t := 70) rfl rfl ?_
        exact j_ret rfl rfl rfl (fun _ h => h)
      · refine j_iload_n (pc' := 51) rfl rfl rfl ?_
        refine j_iconst (pc' := 52) (x := (3 : Int32)) rfl rfl rfl ?_
        refine j_two (pT := 55) (pF := 64) (L1 := [some (.ref 75), some (.int l1), some (.int l2)]) (st1 := []) (fun o kT kF => ?_) (fun h1 => ?_) (fun h1 => ?_)
        · refine j_icne (t := 64) (pc' := 55) rfl rfl rfl (fun h2 => ?_) (fun h2 => ?_)
          · exact kF h2
          · exact kT h2
        · refine j_aload_n (pc' := 56) rfl rfl rfl ?_
          refine j_gfr (pc' := 59) (x := 83) rfl rfl j_a75 rfl rfl ?_
          refine j_iload_n (pc' := 60) rfl rfl rfl ?_
          refine j_iald (pc' := 61) rfl rfl j_a83 ?_
          refine j_goto (t := 70) rfl rfl ?_
          exact j_ret rfl rfl rfl (fun _ h => h)
        · refine j_aload_n (pc' := 65) rfl rfl rfl ?_
          refine j_gfr (pc' := 68) (x := 84) rfl rfl j_a75 rfl rfl ?_
          refine j_iload_n (pc' := 69) rfl rfl rfl ?_
          refine j_iald (pc' := 70) rfl rfl j_a84 ?_
          exact j_ret rfl rfl rfl (fun _ h => h)

noncomputable def p_X4_upIn_2 (l1 : Int32) (σ : j_G) : Nat → Int32 → Option Int32
  | 0, _ => none
  | n + 1, l2 =>
    if l2 < (σ.1 22 0) then (j_ix l2 60 (
    j_lt (p_X4_upIn_2 l1 σ n (l2 + (1 : Int32))) fun (k1 : Option Int32) =>
    if ¬ l1 < (σ.1 26 (l2).toNatClampNeg) then (j_ix l2 60 (
    if ¬ (σ.1 27 (l2).toNatClampNeg) < l1 then (some l2) else (k1))) else (k1))) else (some (-1 : Int32))

noncomputable def f_X4_upIn (l1 : Int32) (σ : j_G) : Option Int32 :=
  p_X4_upIn_2 l1 σ j_F (0 : Int32)
theorem l_X4_upIn_2 {d : Nat} (hd : 0 ≤ d) (τ : j_G) (l1 : Int32) (σ : j_G) : ∀ (n : Nat) (l2 : Int32), j_J true τ M_cX4_upIn d 2 [some (.ref 22), some (.int l1), some (.int l2)] [] σ (p_X4_upIn_2 l1 σ n l2) (j_Pi σ) := by
  intro n
  induction n with
  | zero => intro l2; exact j_none
  | succ n ih =>
    intro l2
    unfold p_X4_upIn_2
    refine j_iload_n (pc' := 3) rfl rfl rfl ?_
    refine j_aload_n (pc' := 4) rfl rfl rfl ?_
    refine j_gfi (pc' := 7) rfl rfl j_a22 rfl ?_
    refine j_two (pT := 10) (pF := 38) (L1 := [some (.ref 22), some (.int l1), some (.int l2)]) (st1 := []) (fun o kT kF => ?_) (fun h5 => ?_) (fun h5 => ?_)
    · refine j_icge (t := 38) (pc' := 10) rfl rfl rfl (fun h6 => ?_) (fun h6 => ?_)
      · exact kF h6
      · exact kT h6
    · refine j_aload_n (pc' := 11) rfl rfl rfl ?_
      refine j_gfr (pc' := 14) (x := 26) rfl rfl j_a22 rfl rfl ?_
      refine j_iload_n (pc' := 15) rfl rfl rfl ?_
      refine j_iald (pc' := 16) rfl rfl j_a26 ?_
      refine j_iload_n (pc' := 17) rfl rfl rfl ?_
      refine j_jn (P := (fun k => j_J true τ M_cX4_upIn d 32 [some (.ref 22), some (.int l1), some (.int l2)] [] σ (k ) (j_Pi σ))) ?_ (fun k1 k1_h => ?_)
      · refine j_iincx (pc' := 35) (y := (1 : Int32)) (L' := [some (.ref 22), some (.int l1), some (.int (l2 + (1 : Int32)))]) rfl rfl rfl rfl rfl ?_
        refine j_goto (t := 2) rfl rfl ?_
        exact ih (l2 + (1 : Int32))
      · refine j_two (pT := 20) (pF := 32) (L1 := [some (.ref 22), some (.int l1), some (.int l2)]) (st1 := []) (fun o kT kF => ?_) (fun h3 => ?_) (fun h3 => ?_)
        · refine j_icgt (t := 32) (pc' := 20) rfl rfl rfl (fun h4 => ?_) (fun h4 => ?_)
          · exact kF (fun z => z h4)
          · exact kT h4
        · refine j_iload_n (pc' := 21) rfl rfl rfl ?_
          refine j_aload_n (pc' := 22) rfl rfl rfl ?_
          refine j_gfr (pc' := 25) (x := 27) rfl rfl j_a22 rfl rfl ?_
          refine j_iload_n (pc' := 26) rfl rfl rfl ?_
          refine j_iald (pc' := 27) rfl rfl j_a27 ?_
          refine j_two (pT := 30) (pF := 32) (L1 := [some (.ref 22), some (.int l1), some (.int l2)]) (st1 := []) (fun o kT kF => ?_) (fun h1 => ?_) (fun h1 => ?_)
          · refine j_icgt (t := 32) (pc' := 30) rfl rfl rfl (fun h2 => ?_) (fun h2 => ?_)
            · exact kF (fun z => z h2)
            · exact kT h2
          · refine j_iload_n (pc' := 31) rfl rfl rfl ?_
            exact j_ret rfl rfl rfl (fun _ h => h)
          · exact k1_h 
        · exact k1_h 
    · refine j_iconst (pc' := 39) (x := (-1 : Int32)) rfl rfl rfl ?_
      exact j_ret rfl rfl rfl (fun _ h => h)

theorem c_X4_upIn (l1 : Int32) (σ : j_G) : j_K true 0 48 [.ref 22, .int l1] σ (f_X4_upIn l1 σ) (j_Pi σ) := by
  refine j_mkK (M := M_cX4_upIn) (L := [some (.ref 22), some (.int l1), none]) (m := 1) t_48 rfl (j_rcvO j_a22 rfl) rfl (fun d hd τ => ?_)
  unfold f_X4_upIn
  refine j_iconst (pc' := 1) (x := (0 : Int32)) rfl rfl rfl ?_
  refine j_istore_n (pc' := 2) (L' := [some (.ref 22), some (.int l1), some (.int (0 : Int32))]) rfl rfl rfl ?_
  exact (l_X4_upIn_2 hd τ l1 σ j_F (0 : Int32))

noncomputable def f_X4_holesOf (l1 : Int32) (σ : j_G) : Option Int32 :=
  if (f_X4_has l1 σ) = 0 then (some (0 : Int32)) else (j_ix l1 60 (
  j_ix l1 60 (
  if (σ.1 24 (l1).toNatClampNeg) = (-1 : Int32) then (some (((1 : Int32) <<< ((σ.1 23 (l1).toNatClampNeg) &&& 31)) ||| (0 : Int32))) else (j_ix l1 60 (
  some (((1 : Int32) <<< ((σ.1 23 (l1).toNatClampNeg) &&& 31)) ||| ((1 : Int32) <<< ((σ.1 24 (l1).toNatClampNeg) &&& 31))))))))
theorem c_X4_holesOf (l1 : Int32) (σ : j_G) : j_K true 1 49 [.ref 22, .int l1] σ (f_X4_holesOf l1 σ) (j_Pi σ) := by
  refine j_mkK (M := M_cX4_holesOf) (L := [some (.ref 22), some (.int l1)]) (m := 0) t_49 rfl (j_rcvO j_a22 rfl) rfl (fun d hd τ => ?_)
  unfold f_X4_holesOf
  refine j_aload_n (pc' := 1) rfl rfl rfl ?_
  refine j_iload_n (pc' := 2) rfl rfl rfl ?_
  refine j_callTi (pc' := 5) (ai := 41) (vs := [.ref 22, .int l1]) (rest := []) rfl rfl (fun _ _ => rfl) (c_X4_has l1 σ) (j_dd rfl hd) rfl ?_
  refine j_two (pT := 8) (pF := 10) (L1 := [some (.ref 22), some (.int l1)]) (st1 := []) (fun o kT kF => ?_) (fun h3 => ?_) (fun h3 => ?_)
  · refine j_ifne (t := 10) (pc' := 8) rfl rfl rfl (fun h4 => ?_) (fun h4 => ?_)
    · exact kF h4
    · exact kT h4
  · refine j_iconst (pc' := 9) (x := (0 : Int32)) rfl rfl rfl ?_
    exact j_ret rfl rfl rfl (fun _ h => h)
  · refine j_iconst (pc' := 11) (x := (1 : Int32)) rfl rfl rfl ?_
    refine j_aload_n (pc' := 12) rfl rfl rfl ?_
    refine j_gfr (pc' := 15) (x := 23) rfl rfl j_a22 rfl rfl ?_
    refine j_iload_n (pc' := 16) rfl rfl rfl ?_
    refine j_iald (pc' := 17) rfl rfl j_a23 ?_
    refine j_ishl (pc' := 18) rfl rfl ?_
    refine j_aload_n (pc' := 19) rfl rfl rfl ?_
    refine j_gfr (pc' := 22) (x := 24) rfl rfl j_a22 rfl rfl ?_
    refine j_iload_n (pc' := 23) rfl rfl rfl ?_
    refine j_iald (pc' := 24) rfl rfl j_a24 ?_
    refine j_iconst (pc' := 25) (x := (-1 : Int32)) rfl rfl rfl ?_
    refine j_two (pT := 28) (pF := 32) (L1 := [some (.ref 22), some (.int l1)]) (st1 := [.int ((1 : Int32) <<< ((σ.1 23 (l1).toNatClampNeg) &&& 31))]) (fun o kT kF => ?_) (fun h1 => ?_) (fun h1 => ?_)
    · refine j_icne (t := 32) (pc' := 28) rfl rfl rfl (fun h2 => ?_) (fun h2 => ?_)
      · exact kF h2
      · exact kT h2
    · refine j_iconst (pc' := 29) (x := (0 : Int32)) rfl rfl rfl ?_
      refine j_goto (t := 40) rfl rfl ?_
      refine j_ior (pc' := 41) rfl rfl ?_
      exact j_ret rfl rfl rfl (fun _ h => h)
    · refine j_iconst (pc' := 33) (x := (1 : Int32)) rfl rfl rfl ?_
      refine j_aload_n (pc' := 34) rfl rfl rfl ?_
      refine j_gfr (pc' := 37) (x := 24) rfl rfl j_a22 rfl rfl ?_
      refine j_iload_n (pc' := 38) rfl rfl rfl ?_
      refine j_iald (pc' := 39) rfl rfl j_a24 ?_
      refine j_ishl (pc' := 40) rfl rfl ?_
      refine j_ior (pc' := 41) rfl rfl ?_
      exact j_ret rfl rfl rfl (fun _ h => h)

noncomputable def f_X11_up (l1 : Int32) (σ : j_G) : Option (Int32 × j_G) :=
  if (f_X2_isTick 1 l1 σ) = 0 then (some ((-2 : Int32), σ)) else (j_b1 (f_X4_deal (σ.1 5 1) σ) fun σ1 =>
  j_b1 (f_X4_upIn l1 σ1) fun v2 =>
  if ¬ (f_X4_has v2 σ1) = 0 then (j_b1 (f_X4_holesOf v2 σ1) fun v3 =>
  some (v3, σ1)) else (some ((0 : Int32), σ1)))
theorem c_X11_up (l1 : Int32) (σ : j_G) : j_K true 3 122 [.ref 0, .int l1] σ (f_X11_up l1 σ) j_Ri := by
  refine j_mkK (M := M_cX11_up) (L := [some (.ref 0), some (.int l1), none]) (m := 1) t_122 rfl (j_rcvO j_a0 rfl) rfl (fun d hd τ => ?_)
  unfold f_X11_up
  refine j_aload_n (pc' := 1) rfl rfl rfl ?_
  refine j_gfr (pc' := 4) (x := 1) rfl rfl j_a0 rfl rfl ?_
  refine j_iload_n (pc' := 5) rfl rfl rfl ?_
  refine j_callTi (pc' := 8) (ai := 14) (vs := [.ref 1, .int l1]) (rest := []) rfl rfl (fun _ _ => rfl) (c_X2_isTick_1 l1 σ) (j_dd rfl hd) rfl ?_
  refine j_two (pT := 11) (pF := 14) (L1 := [some (.ref 0), some (.int l1), none]) (st1 := []) (fun o kT kF => ?_) (fun h3 => ?_) (fun h3 => ?_)
  · refine j_ifne (t := 14) (pc' := 11) rfl rfl rfl (fun h4 => ?_) (fun h4 => ?_)
    · exact kF h4
    · exact kT h4
  · refine j_bipush (pc' := 13) (x := (-2 : Int32)) rfl rfl rfl ?_
    exact j_ret rfl rfl rfl (fun _ h => h)
  · refine j_aload_n (pc' := 15) rfl rfl rfl ?_
    refine j_gfr (pc' := 18) (x := 22) rfl rfl j_a0 rfl rfl ?_
    refine j_aload_n (pc' := 19) rfl rfl rfl ?_
    refine j_gfr (pc' := 22) (x := 1) rfl rfl j_a0 rfl rfl ?_
    refine j_aload_n (pc' := 23) rfl rfl rfl ?_
    refine j_gfr (pc' := 26) (x := 1) rfl rfl j_a0 rfl rfl ?_
    refine j_gfr (pc' := 29) (x := 5) rfl rfl j_a1 rfl rfl ?_
    refine j_gfi (pc' := 32) rfl rfl j_a5 rfl ?_
    refine j_callRv (pc' := 35) (ai := 42) (vs := [.ref 22, .ref 1, .int (σ.1 5 1)]) (rest := []) rfl rfl (fun _ _ => rfl) (c_X4_deal (σ.1 5 1) σ) (j_dd rfl hd) rfl (fun σ1 => ?_)
    refine j_aload_n (pc' := 36) rfl rfl rfl ?_
    refine j_gfr (pc' := 39) (x := 22) rfl rfl j_a0 rfl rfl ?_
    refine j_iload_n (pc' := 40) rfl rfl rfl ?_
    refine j_callPi (pc' := 43) (ai := 48) (vs := [.ref 22, .int l1]) (rest := []) rfl rfl (fun _ _ => rfl) (c_X4_upIn l1 σ1) (j_dd rfl hd) rfl (fun v2 => ?_)
    refine j_istore_n (pc' := 44) (L' := [some (.ref 0), some (.int l1), some (.int v2)]) rfl rfl rfl ?_
    refine j_aload_n (pc' := 45) rfl rfl rfl ?_
    refine j_gfr (pc' := 48) (x := 22) rfl rfl j_a0 rfl rfl ?_
    refine j_iload_n (pc' := 49) rfl rfl rfl ?_
    refine j_callTi (pc' := 52) (ai := 41) (vs := [.ref 22, .int v2]) (rest := []) rfl rfl (fun _ _ => rfl) (c_X4_has v2 σ1) (j_dd rfl hd) rfl ?_
    refine j_two (pT := 55) (pF := 66) (L1 := [some (.ref 0), some (.int l1), some (.int v2)]) (st1 := []) (fun o kT kF => ?_) (fun h1 => ?_) (fun h1 => ?_)
    · refine j_ifeq (t := 66) (pc' := 55) rfl rfl rfl (fun h2 => ?_) (fun h2 => ?_)
      · exact kF (fun z => z h2)
      · exact kT h2
    · refine j_aload_n (pc' := 56) rfl rfl rfl ?_
      refine j_gfr (pc' := 59) (x := 22) rfl rfl j_a0 rfl rfl ?_
      refine j_iload_n (pc' := 60) rfl rfl rfl ?_
      refine j_callPi (pc' := 63) (ai := 49) (vs := [.ref 22, .int v2]) (rest := []) rfl rfl (fun _ _ => rfl) (c_X4_holesOf v2 σ1) (j_dd rfl hd) rfl (fun v3 => ?_)
      refine j_goto (t := 67) rfl rfl ?_
      exact j_ret rfl rfl rfl (fun _ h => h)
    · refine j_iconst (pc' := 67) (x := (0 : Int32)) rfl rfl rfl ?_
      exact j_ret rfl rfl rfl (fun _ h => h)

noncomputable def p_X12_upIn_4 (l1 : Int32) (σ : j_G) : Nat → Int32 → Int32 → Option Int32
  | 0, _, _ => none
  | n + 1, l2, l3 =>
    if l3 < (σ.1 75 18) then (j_ix l3 60 (
    j_ix l3 60 (
    j_b1 (if (f_X12_in (l1).toInt64 ((σ.1 83 (l3).toNatClampNeg)).toInt64 ((σ.1 84 (l3).toNatClampNeg)).toInt64) = 0 then (some l2) else (j_b1 (f_X12_inGame l3 (0 : Int32) σ) fun v2 =>
    j_lt (l2 ||| ((1 : Int32) <<< (v2 &&& 31))) fun v3 =>
    j_b1 (f_X12_inGame l3 (1 : Int32) σ) fun v4 =>
    if ¬ v4 = (-1 : Int32) then (j_b1 (f_X12_inGame l3 (1 : Int32) σ) fun v5 =>
    j_lt (v3 ||| ((1 : Int32) <<< (v5 &&& 31))) fun v6 =>
    some v6) else (some v3))) fun v1 =>
    p_X12_upIn_4 l1 σ n v1 (l3 + (1 : Int32))))) else (some l2)

noncomputable def f_X12_upIn (l1 : Int32) (σ : j_G) : Option Int32 :=
  j_b1 (p_X12_upIn_4 l1 σ j_F (0 : Int32) (0 : Int32)) fun v1 =>
  some v1
theorem l_X12_upIn_4 {d : Nat} (hd : 1 ≤ d) (τ : j_G) (l1 : Int32) (σ : j_G) : ∀ (n : Nat) (l2 : Int32) (l3 : Int32), j_J false τ M_cX12_upIn d 4 [some (.ref 75), some (.int l1), some (.int l2), some (.int l3)] [] σ (p_X12_upIn_4 l1 σ n l2 l3) (fun r Q => j_Tr false τ M_cX12_upIn d 75 [none, none, some (.int r), none] [] σ Q) := by
  intro n
  induction n with
  | zero => intro l2 l3; exact j_none
  | succ n ih =>
    intro l2 l3
    unfold p_X12_upIn_4
    refine j_iload_n (pc' := 5) rfl rfl rfl ?_
    refine j_aload_n (pc' := 6) rfl rfl rfl ?_
    refine j_gfi (pc' := 9) rfl rfl j_a75 rfl ?_
    refine j_two (pT := 12) (pF := 75) (L1 := [some (.ref 75), some (.int l1), some (.int l2), some (.int l3)]) (st1 := []) (fun o kT kF => ?_) (fun h5 => ?_) (fun h5 => ?_)
    · refine j_icge (t := 75) (pc' := 12) rfl rfl rfl (fun h6 => ?_) (fun h6 => ?_)
      · exact kF h6
      · exact kT h6
    · refine j_iload_n (pc' := 13) rfl rfl rfl ?_
      refine j_i2l (pc' := 14) rfl rfl ?_
      refine j_aload_n (pc' := 15) rfl rfl rfl ?_
      refine j_gfr (pc' := 18) (x := 83) rfl rfl j_a75 rfl rfl ?_
      refine j_iload_n (pc' := 19) rfl rfl rfl ?_
      refine j_iald (pc' := 20) rfl rfl j_a83 ?_
      refine j_i2l (pc' := 21) rfl rfl ?_
      refine j_aload_n (pc' := 22) rfl rfl rfl ?_
      refine j_gfr (pc' := 25) (x := 84) rfl rfl j_a75 rfl rfl ?_
      refine j_iload_n (pc' := 26) rfl rfl rfl ?_
      refine j_iald (pc' := 27) rfl rfl j_a84 ?_
      refine j_i2l (pc' := 28) rfl rfl ?_
      refine j_callTi (pc' := 31) (ai := 196) (vs := [.long (l1).toInt64, .long ((σ.1 83 (l3).toNatClampNeg)).toInt64, .long ((σ.1 84 (l3).toNatClampNeg)).toInt64]) (rest := []) rfl rfl (fun _ _ => rfl) (c_X12_in (l1).toInt64 ((σ.1 83 (l3).toNatClampNeg)).toInt64 ((σ.1 84 (l3).toNatClampNeg)).toInt64 σ) (j_dd rfl hd) rfl ?_
      refine j_q1 (Φl := (fun r Q => j_Tr false τ M_cX12_upIn d 69 [some (.ref 75), some (.int l1), some (.int r), some (.int l3)] [] σ Q)) ?_ (fun v1 => ?_)
      · refine j_two (pT := 34) (pF := 37) (L1 := [some (.ref 75), some (.int l1), some (.int l2), some (.int l3)]) (st1 := []) (fun o kT kF => ?_) (fun h3 => ?_) (fun h3 => ?_)
        · refine j_ifne (t := 37) (pc' := 34) rfl rfl rfl (fun h4 => ?_) (fun h4 => ?_)
          · exact kF h4
          · exact kT h4
        · refine j_goto (t := 69) rfl rfl ?_
          exact j_end (fun _ h => h)
        · refine j_iload_n (pc' := 38) rfl rfl rfl ?_
          refine j_iconst (pc' := 39) (x := (1 : Int32)) rfl rfl rfl ?_
          refine j_aload_n (pc' := 40) rfl rfl rfl ?_
          refine j_iload_n (pc' := 41) rfl rfl rfl ?_
          refine j_iconst (pc' := 42) (x := (0 : Int32)) rfl rfl rfl ?_
          refine j_callPi (pc' := 45) (ai := 238) (vs := [.ref 75, .int l3, .int (0 : Int32)]) (rest := [.int (1 : Int32), .int l2]) rfl rfl (fun _ _ => rfl) (c_X12_inGame l3 (0 : Int32) σ) (j_dd rfl hd) rfl (fun v2 => ?_)
          refine j_ishl (pc' := 46) rfl rfl ?_
          refine j_ior (pc' := 47) rfl rfl ?_
          refine j_leti (fun v3 => ?_)
          refine j_istore_n (pc' := 48) (L' := [some (.ref 75), some (.int l1), some (.int v3), some (.int l3)]) rfl rfl rfl ?_
          refine j_aload_n (pc' := 49) rfl rfl rfl ?_
          refine j_iload_n (pc' := 50) rfl rfl rfl ?_
          refine j_iconst (pc' := 51) (x := (1 : Int32)) rfl rfl rfl ?_
          refine j_callPi (pc' := 54) (ai := 238) (vs := [.ref 75, .int l3, .int (1 : Int32)]) (rest := []) rfl rfl (fun _ _ => rfl) (c_X12_inGame l3 (1 : Int32) σ) (j_dd rfl hd) rfl (fun v4 => ?_)
          refine j_iconst (pc' := 55) (x := (-1 : Int32)) rfl rfl rfl ?_
          refine j_two (pT := 58) (pF := 69) (L1 := [some (.ref 75), some (.int l1), some (.int v3), some (.int l3)]) (st1 := []) (fun o kT kF => ?_) (fun h1 => ?_) (fun h1 => ?_)
          · refine j_iceq (t := 69) (pc' := 58) rfl rfl rfl (fun h2 => ?_) (fun h2 => ?_)
            · exact kF (fun z => z h2)
            · exact kT h2
          · refine j_iload_n (pc' := 59) rfl rfl rfl ?_
            refine j_iconst (pc' := 60) (x := (1 : Int32)) rfl rfl rfl ?_
            refine j_aload_n (pc' := 61) rfl rfl rfl ?_
            refine j_iload_n (pc' := 62) rfl rfl rfl ?_
            refine j_iconst (pc' := 63) (x := (1 : Int32)) rfl rfl rfl ?_
            refine j_callPi (pc' := 66) (ai := 238) (vs := [.ref 75, .int l3, .int (1 : Int32)]) (rest := [.int (1 : Int32), .int v3]) rfl rfl (fun _ _ => rfl) (c_X12_inGame l3 (1 : Int32) σ) (j_dd rfl hd) rfl (fun v5 => ?_)
            refine j_ishl (pc' := 67) rfl rfl ?_
            refine j_ior (pc' := 68) rfl rfl ?_
            refine j_leti (fun v6 => ?_)
            refine j_istore_n (pc' := 69) (L' := [some (.ref 75), some (.int l1), some (.int v6), some (.int l3)]) rfl rfl rfl ?_
            exact j_end (fun _ h => h)
          · exact j_end (fun _ h => h)
      show j_J false τ M_cX12_upIn d 69 [some (.ref 75), some (.int l1), some (.int v1), some (.int l3)] [] σ _ _
      refine j_iincx (pc' := 72) (y := (1 : Int32)) (L' := [some (.ref 75), some (.int l1), some (.int v1), some (.int (l3 + (1 : Int32)))]) rfl rfl rfl rfl rfl ?_
      refine j_goto (t := 4) rfl rfl ?_
      exact ih v1 (l3 + (1 : Int32))
    · refine j_wk [false, false, true, false] (L' := [none, none, some (.int l2), none]) rfl ?_
      exact j_end (fun _ h => h)

theorem c_X12_upIn (l1 : Int32) (σ : j_G) : j_K false 1 245 [.ref 75, .int l1] σ (f_X12_upIn l1 σ) (j_Pi σ) := by
  refine j_mkK (M := M_cX12_upIn) (L := [some (.ref 75), some (.int l1), none, none]) (m := 2) t_245 rfl (j_rcvO j_a75 rfl) rfl (fun d hd τ => ?_)
  unfold f_X12_upIn
  refine j_iconst (pc' := 1) (x := (0 : Int32)) rfl rfl rfl ?_
  refine j_istore_n (pc' := 2) (L' := [some (.ref 75), some (.int l1), some (.int (0 : Int32)), none]) rfl rfl rfl ?_
  refine j_iconst (pc' := 3) (x := (0 : Int32)) rfl rfl rfl ?_
  refine j_istore_n (pc' := 4) (L' := [some (.ref 75), some (.int l1), some (.int (0 : Int32)), some (.int (0 : Int32))]) rfl rfl rfl ?_
  refine j_q1 (l_X12_upIn_4 hd τ l1 σ j_F (0 : Int32) (0 : Int32)) (fun v1 => ?_)
  show j_J false τ M_cX12_upIn d 75 [none, none, some (.int v1), none] [] σ _ _
  refine j_iload_n (pc' := 76) rfl rfl rfl ?_
  exact j_ret rfl rfl rfl (fun _ h => h)

noncomputable def f_X12_up (l1 : Int32) (σ : j_G) : Option (Int32 × j_G) :=
  j_b1 (f_X12_isTick (l1).toInt64 σ) fun v1 =>
  if v1 = 0 then (some ((-2 : Int32), σ)) else (j_b1 (f_X12_lay σ) fun σ2 =>
  j_b1 (f_X12_upIn l1 σ2) fun v3 =>
  some (v3, σ2))
theorem c_X12_up (l1 : Int32) (σ : j_G) : j_K false 3 246 [.ref 75, .int l1] σ (f_X12_up l1 σ) j_Ri := by
  refine j_mkK (M := M_cX12_up) (L := [some (.ref 75), some (.int l1)]) (m := 0) t_246 rfl (j_rcvO j_a75 rfl) rfl (fun d hd τ => ?_)
  unfold f_X12_up
  refine j_aload_n (pc' := 1) rfl rfl rfl ?_
  refine j_iload_n (pc' := 2) rfl rfl rfl ?_
  refine j_i2l (pc' := 3) rfl rfl ?_
  refine j_callPi (pc' := 6) (ai := 203) (vs := [.ref 75, .long (l1).toInt64]) (rest := []) rfl rfl (fun _ _ => rfl) (c_X12_isTick (l1).toInt64 σ) (j_dd rfl hd) rfl (fun v1 => ?_)
  refine j_two (pT := 9) (pF := 12) (L1 := [some (.ref 75), some (.int l1)]) (st1 := []) (fun o kT kF => ?_) (fun h1 => ?_) (fun h1 => ?_)
  · refine j_ifne (t := 12) (pc' := 9) rfl rfl rfl (fun h2 => ?_) (fun h2 => ?_)
    · exact kF h2
    · exact kT h2
  · refine j_bipush (pc' := 11) (x := (-2 : Int32)) rfl rfl rfl ?_
    exact j_ret rfl rfl rfl (fun _ h => h)
  · refine j_aload_n (pc' := 13) rfl rfl rfl ?_
    refine j_callRv (pc' := 16) (ai := 237) (vs := [.ref 75]) (rest := []) rfl rfl (fun _ _ => rfl) (c_X12_lay  σ) (j_dd rfl hd) rfl (fun σ2 => ?_)
    refine j_aload_n (pc' := 17) rfl rfl rfl ?_
    refine j_iload_n (pc' := 18) rfl rfl rfl ?_
    refine j_callPi (pc' := 21) (ai := 245) (vs := [.ref 75, .int l1]) (rest := []) rfl rfl (fun _ _ => rfl) (c_X12_upIn l1 σ2) (j_dd rfl hd) rfl (fun v3 => ?_)
    exact j_ret rfl rfl rfl (fun _ h => h)

noncomputable def p_X11_calm_44 (σ : j_G) : Nat → Int32 → Int32 → Option Int32
  | 0, _, _ => none
  | n + 1, l1, l2 =>
    if l2 < (σ.1 22 0) then (j_ix l2 60 (
    j_ix l2 60 (
    j_lt (l1 - (((σ.1 27 (l2).toNatClampNeg) - (σ.1 26 (l2).toNatClampNeg)) + (1 : Int32))) fun v1 =>
    p_X11_calm_44 σ n v1 (l2 + (1 : Int32))))) else (some l1)

noncomputable def f_X11_calm (σ : j_G) : Option (Int32 × j_G) :=
  if (f_X2_isTold σ) = 0 then (some ((-2 : Int32), σ)) else (j_b1 (f_X4_deal (σ.1 5 1) σ) fun σ1 =>
  j_lt (σ1.1 1 4) fun v2 =>
  j_b1 (p_X11_calm_44 σ1 j_F v2 (0 : Int32)) fun v3 =>
  some (v3, σ1))
theorem l_X11_calm_44 {d : Nat} (hd : 3 ≤ d) (τ : j_G) (σ : j_G) : ∀ (n : Nat) (l1 : Int32) (l2 : Int32), j_J true τ M_cX11_calm d 44 [some (.ref 0), some (.int l1), some (.int l2)] [] σ (p_X11_calm_44 σ n l1 l2) (fun r Q => j_Tr true τ M_cX11_calm d 85 [none, some (.int r), none] [] σ Q) := by
  intro n
  induction n with
  | zero => intro l1 l2; exact j_none
  | succ n ih =>
    intro l1 l2
    unfold p_X11_calm_44
    refine j_iload_n (pc' := 45) rfl rfl rfl ?_
    refine j_aload_n (pc' := 46) rfl rfl rfl ?_
    refine j_gfr (pc' := 49) (x := 22) rfl rfl j_a0 rfl rfl ?_
    refine j_gfi (pc' := 52) rfl rfl j_a22 rfl ?_
    refine j_two (pT := 55) (pF := 85) (L1 := [some (.ref 0), some (.int l1), some (.int l2)]) (st1 := []) (fun o kT kF => ?_) (fun h1 => ?_) (fun h1 => ?_)
    · refine j_icge (t := 85) (pc' := 55) rfl rfl rfl (fun h2 => ?_) (fun h2 => ?_)
      · exact kF h2
      · exact kT h2
    · refine j_iload_n (pc' := 56) rfl rfl rfl ?_
      refine j_aload_n (pc' := 57) rfl rfl rfl ?_
      refine j_gfr (pc' := 60) (x := 22) rfl rfl j_a0 rfl rfl ?_
      refine j_gfr (pc' := 63) (x := 27) rfl rfl j_a22 rfl rfl ?_
      refine j_iload_n (pc' := 64) rfl rfl rfl ?_
      refine j_iald (pc' := 65) rfl rfl j_a27 ?_
      refine j_aload_n (pc' := 66) rfl rfl rfl ?_
      refine j_gfr (pc' := 69) (x := 22) rfl rfl j_a0 rfl rfl ?_
      refine j_gfr (pc' := 72) (x := 26) rfl rfl j_a22 rfl rfl ?_
      refine j_iload_n (pc' := 73) rfl rfl rfl ?_
      refine j_iald (pc' := 74) rfl rfl j_a26 ?_
      refine j_isub (pc' := 75) rfl rfl ?_
      refine j_iconst (pc' := 76) (x := (1 : Int32)) rfl rfl rfl ?_
      refine j_iadd (pc' := 77) rfl rfl ?_
      refine j_isub (pc' := 78) rfl rfl ?_
      refine j_leti (fun v1 => ?_)
      refine j_istore_n (pc' := 79) (L' := [some (.ref 0), some (.int v1), some (.int l2)]) rfl rfl rfl ?_
      refine j_iincx (pc' := 82) (y := (1 : Int32)) (L' := [some (.ref 0), some (.int v1), some (.int (l2 + (1 : Int32)))]) rfl rfl rfl rfl rfl ?_
      refine j_goto (t := 44) rfl rfl ?_
      exact ih v1 (l2 + (1 : Int32))
    · refine j_wk [false, true, false] (L' := [none, some (.int l1), none]) rfl ?_
      exact j_end (fun _ h => h)

theorem c_X11_calm (σ : j_G) : j_K true 3 123 [.ref 0] σ (f_X11_calm σ) j_Ri := by
  refine j_mkK (M := M_cX11_calm) (L := [some (.ref 0), none, none]) (m := 2) t_123 rfl (j_rcvO j_a0 rfl) rfl (fun d hd τ => ?_)
  unfold f_X11_calm
  refine j_aload_n (pc' := 1) rfl rfl rfl ?_
  refine j_gfr (pc' := 4) (x := 1) rfl rfl j_a0 rfl rfl ?_
  refine j_callTi (pc' := 7) (ai := 11) (vs := [.ref 1]) (rest := []) rfl rfl (fun _ _ => rfl) (c_X2_isTold  σ) (j_dd rfl hd) rfl ?_
  refine j_two (pT := 10) (pF := 13) (L1 := [some (.ref 0), none, none]) (st1 := []) (fun o kT kF => ?_) (fun h1 => ?_) (fun h1 => ?_)
  · refine j_ifne (t := 13) (pc' := 10) rfl rfl rfl (fun h2 => ?_) (fun h2 => ?_)
    · exact kF h2
    · exact kT h2
  · refine j_bipush (pc' := 12) (x := (-2 : Int32)) rfl rfl rfl ?_
    exact j_ret rfl rfl rfl (fun _ h => h)
  · refine j_aload_n (pc' := 14) rfl rfl rfl ?_
    refine j_gfr (pc' := 17) (x := 22) rfl rfl j_a0 rfl rfl ?_
    refine j_aload_n (pc' := 18) rfl rfl rfl ?_
    refine j_gfr (pc' := 21) (x := 1) rfl rfl j_a0 rfl rfl ?_
    refine j_aload_n (pc' := 22) rfl rfl rfl ?_
    refine j_gfr (pc' := 25) (x := 1) rfl rfl j_a0 rfl rfl ?_
    refine j_gfr (pc' := 28) (x := 5) rfl rfl j_a1 rfl rfl ?_
    refine j_gfi (pc' := 31) rfl rfl j_a5 rfl ?_
    refine j_callRv (pc' := 34) (ai := 42) (vs := [.ref 22, .ref 1, .int (σ.1 5 1)]) (rest := []) rfl rfl (fun _ _ => rfl) (c_X4_deal (σ.1 5 1) σ) (j_dd rfl hd) rfl (fun σ1 => ?_)
    refine j_aload_n (pc' := 35) rfl rfl rfl ?_
    refine j_gfr (pc' := 38) (x := 1) rfl rfl j_a0 rfl rfl ?_
    refine j_gfi (pc' := 41) rfl rfl j_a1 rfl ?_
    refine j_leti (fun v2 => ?_)
    refine j_istore_n (pc' := 42) (L' := [some (.ref 0), some (.int v2), none]) rfl rfl rfl ?_
    refine j_iconst (pc' := 43) (x := (0 : Int32)) rfl rfl rfl ?_
    refine j_istore_n (pc' := 44) (L' := [some (.ref 0), some (.int v2), some (.int (0 : Int32))]) rfl rfl rfl ?_
    refine j_q1 (l_X11_calm_44 hd τ σ1 j_F v2 (0 : Int32)) (fun v3 => ?_)
    show j_J true τ M_cX11_calm d 85 [none, some (.int v3), none] [] σ1 _ _
    refine j_iload_n (pc' := 86) rfl rfl rfl ?_
    exact j_ret rfl rfl rfl (fun _ h => h)

noncomputable def p_X12_calm_18 (σ : j_G) : Nat → Int32 → Int32 → Option Int32
  | 0, _, _ => none
  | n + 1, l1, l2 =>
    j_ix (2 : Int32) 116 (
    if l2 < (σ.1 76 ((2 : Int32)).toNatClampNeg) then (j_b1 (f_X12_upIn l2 σ) fun v1 =>
    j_lt (if v1 = 0 then ((1 : Int32)) else ((0 : Int32))) fun v2 =>
    j_lt (l1 + v2) fun v3 =>
    p_X12_calm_18 σ n v3 (l2 + (1 : Int32))) else (some l1))

noncomputable def f_X12_calm (σ : j_G) : Option (Int32 × j_G) :=
  j_b1 (f_X12_isBoard σ) fun v1 =>
  if v1 = 0 then (some ((-2 : Int32), σ)) else (j_b1 (f_X12_lay σ) fun σ2 =>
  j_b1 (p_X12_calm_18 σ2 j_F (0 : Int32) (0 : Int32)) fun v3 =>
  some (v3, σ2))
theorem l_X12_calm_18 {d : Nat} (hd : 3 ≤ d) (τ : j_G) (σ : j_G) : ∀ (n : Nat) (l1 : Int32) (l2 : Int32), j_J false τ M_cX12_calm d 18 [some (.ref 75), some (.int l1), some (.int l2)] [] σ (p_X12_calm_18 σ n l1 l2) (fun r Q => j_Tr false τ M_cX12_calm d 50 [none, some (.int r), none] [] σ Q) := by
  intro n
  induction n with
  | zero => intro l1 l2; exact j_none
  | succ n ih =>
    intro l1 l2
    unfold p_X12_calm_18
    refine j_iload_n (pc' := 19) rfl rfl rfl ?_
    refine j_aload_n (pc' := 20) rfl rfl rfl ?_
    refine j_gfr (pc' := 23) (x := 76) rfl rfl j_a75 rfl rfl ?_
    refine j_iconst (pc' := 24) (x := (2 : Int32)) rfl rfl rfl ?_
    refine j_iald (pc' := 25) rfl rfl j_a76 ?_
    refine j_two (pT := 28) (pF := 50) (L1 := [some (.ref 75), some (.int l1), some (.int l2)]) (st1 := []) (fun o kT kF => ?_) (fun h3 => ?_) (fun h3 => ?_)
    · refine j_icge (t := 50) (pc' := 28) rfl rfl rfl (fun h4 => ?_) (fun h4 => ?_)
      · exact kF h4
      · exact kT h4
    · refine j_iload_n (pc' := 29) rfl rfl rfl ?_
      refine j_aload_n (pc' := 30) rfl rfl rfl ?_
      refine j_iload_n (pc' := 31) rfl rfl rfl ?_
      refine j_callPi (pc' := 34) (ai := 245) (vs := [.ref 75, .int l2]) (rest := [.int l1]) rfl rfl (fun _ _ => rfl) (c_X12_upIn l2 σ) (j_dd rfl hd) rfl (fun v1 => ?_)
      refine j_ql (Φl := (fun r Q => j_Tr false τ M_cX12_calm d 42 [some (.ref 75), none, some (.int l2)] [.int r, .int l1] σ Q)) ?_ (fun v2 => ?_)
      · refine j_twoT (pT := 37) (pF := 41) (L1 := [some (.ref 75), some (.int l1), some (.int l2)]) (st1 := [.int l1]) (fun o kT kF => ?_) (fun h1 => ?_) (fun h1 => ?_)
        · refine j_ifne (t := 41) (pc' := 37) rfl rfl rfl (fun h2 => ?_) (fun h2 => ?_)
          · exact kF h2
          · exact kT h2
        · refine j_iconst (pc' := 38) (x := (1 : Int32)) rfl rfl rfl ?_
          refine j_goto (t := 42) rfl rfl ?_
          refine j_wk [true, false, true] (L' := [some (.ref 75), none, some (.int l2)]) rfl ?_
          exact j_end (fun _ h => h)
        · refine j_iconst (pc' := 42) (x := (0 : Int32)) rfl rfl rfl ?_
          refine j_wk [true, false, true] (L' := [some (.ref 75), none, some (.int l2)]) rfl ?_
          exact j_end (fun _ h => h)
      show j_J false τ M_cX12_calm d 42 [some (.ref 75), none, some (.int l2)] [.int v2, .int l1] σ _ _
      refine j_iadd (pc' := 43) rfl rfl ?_
      refine j_leti (fun v3 => ?_)
      refine j_istore_n (pc' := 44) (L' := [some (.ref 75), some (.int v3), some (.int l2)]) rfl rfl rfl ?_
      refine j_iincx (pc' := 47) (y := (1 : Int32)) (L' := [some (.ref 75), some (.int v3), some (.int (l2 + (1 : Int32)))]) rfl rfl rfl rfl rfl ?_
      refine j_goto (t := 18) rfl rfl ?_
      exact ih v3 (l2 + (1 : Int32))
    · refine j_wk [false, true, false] (L' := [none, some (.int l1), none]) rfl ?_
      exact j_end (fun _ h => h)

theorem c_X12_calm (σ : j_G) : j_K false 3 247 [.ref 75] σ (f_X12_calm σ) j_Ri := by
  refine j_mkK (M := M_cX12_calm) (L := [some (.ref 75), none, none]) (m := 2) t_247 rfl (j_rcvO j_a75 rfl) rfl (fun d hd τ => ?_)
  unfold f_X12_calm
  refine j_aload_n (pc' := 1) rfl rfl rfl ?_
  refine j_callPi (pc' := 4) (ai := 199) (vs := [.ref 75]) (rest := []) rfl rfl (fun _ _ => rfl) (c_X12_isBoard  σ) (j_dd rfl hd) rfl (fun v1 => ?_)
  refine j_two (pT := 7) (pF := 10) (L1 := [some (.ref 75), none, none]) (st1 := []) (fun o kT kF => ?_) (fun h1 => ?_) (fun h1 => ?_)
  · refine j_ifne (t := 10) (pc' := 7) rfl rfl rfl (fun h2 => ?_) (fun h2 => ?_)
    · exact kF h2
    · exact kT h2
  · refine j_bipush (pc' := 9) (x := (-2 : Int32)) rfl rfl rfl ?_
    exact j_ret rfl rfl rfl (fun _ h => h)
  · refine j_aload_n (pc' := 11) rfl rfl rfl ?_
    refine j_callRv (pc' := 14) (ai := 237) (vs := [.ref 75]) (rest := []) rfl rfl (fun _ _ => rfl) (c_X12_lay  σ) (j_dd rfl hd) rfl (fun σ2 => ?_)
    refine j_iconst (pc' := 15) (x := (0 : Int32)) rfl rfl rfl ?_
    refine j_istore_n (pc' := 16) (L' := [some (.ref 75), some (.int (0 : Int32)), none]) rfl rfl rfl ?_
    refine j_iconst (pc' := 17) (x := (0 : Int32)) rfl rfl rfl ?_
    refine j_istore_n (pc' := 18) (L' := [some (.ref 75), some (.int (0 : Int32)), some (.int (0 : Int32))]) rfl rfl rfl ?_
    refine j_q1 (l_X12_calm_18 hd τ σ2 j_F (0 : Int32) (0 : Int32)) (fun v3 => ?_)
    show j_J false τ M_cX12_calm d 50 [none, some (.int v3), none] [] σ2 _ _
    refine j_iload_n (pc' := 51) rfl rfl rfl ?_
    exact j_ret rfl rfl rfl (fun _ h => h)

theorem c_X2_holes_1 (σ : j_G) : j_K true 0 12 [.ref 1] σ (some (f_X2_holes 1 σ)) (j_Pi σ) := by
  refine j_mkK (M := M_cX2_holes) (L := [some (.ref 1)]) (m := 0) t_12 rfl (j_rcvO j_a1 rfl) rfl (fun d hd τ => ?_)
  unfold f_X2_holes
  refine j_aload_n (pc' := 1) rfl rfl rfl ?_
  refine j_gfi (pc' := 4) rfl rfl j_a1 rfl ?_
  refine j_aload_n (pc' := 5) rfl rfl rfl ?_
  refine j_gfi (pc' := 8) rfl rfl j_a1 rfl ?_
  refine j_imul (pc' := 9) rfl rfl ?_
  exact j_ret rfl rfl rfl (fun _ h => h)

theorem c_X2_isHole_1 (l1 : Int32) (σ : j_G) : j_K true 1 13 [.ref 1, .int l1] σ (some (f_X2_isHole 1 l1 σ)) (j_Pi σ) := by
  refine j_mkK (M := M_cX2_isHole) (L := [some (.ref 1), some (.int l1)]) (m := 0) t_13 rfl (j_rcvO j_a1 rfl) rfl (fun d hd τ => ?_)
  unfold f_X2_isHole
  refine j_iload_n (pc' := 1) rfl rfl rfl ?_
  refine j_twoT (pT := 12) (pF := 16) (L1 := [some (.ref 1), some (.int l1)]) (st1 := []) (fun o kT kF => ?_) (fun h1 => ?_) (fun h1 => ?_)
  · refine j_iflt (t := 16) (pc' := 4) rfl rfl rfl (fun h2 => ?_) (fun h2 => ?_)
    · exact kF (fun z => z.1 h2)
    · refine j_iload_n (pc' := 5) rfl rfl rfl ?_
      refine j_aload_n (pc' := 6) rfl rfl rfl ?_
      refine j_callTi (pc' := 9) (ai := 12) (vs := [.ref 1]) (rest := [.int l1]) rfl rfl (fun _ _ => rfl) (c_X2_holes_1  σ) (j_dd rfl hd) rfl ?_
      refine j_icge (t := 16) (pc' := 12) rfl rfl rfl (fun h3 => ?_) (fun h3 => ?_)
      · exact kF (fun z => (h3) z.2)
      · exact kT (⟨h2, h3⟩)
  · refine j_iconst (pc' := 13) (x := (1 : Int32)) rfl rfl rfl ?_
    refine j_goto (t := 17) rfl rfl ?_
    exact j_ret rfl rfl rfl (fun _ h => h)
  · refine j_iconst (pc' := 17) (x := (0 : Int32)) rfl rfl rfl ?_
    exact j_ret rfl rfl rfl (fun _ h => h)

noncomputable def f_X2_apart (l1 : Int32) (l2 : Int32) (σ : j_G) : Option Int32 :=
  if ¬ 0 < (σ.1 1 2) then (some (0 : Int32)) else (if (σ.1 1 2) = 0 then none else (
  if (σ.1 1 2) = 0 then none else (
  if (σ.1 1 2) = 0 then none else (
  if (σ.1 1 2) = 0 then none else (
  some ((if 0 ≤ ((l1 / (σ.1 1 2)) - (l2 / (σ.1 1 2))) then ((l1 / (σ.1 1 2)) - (l2 / (σ.1 1 2))) else 0 - ((l1 / (σ.1 1 2)) - (l2 / (σ.1 1 2)))) + (if 0 ≤ ((l1 - l1 / (σ.1 1 2) * (σ.1 1 2)) - (l2 - l2 / (σ.1 1 2) * (σ.1 1 2))) then ((l1 - l1 / (σ.1 1 2) * (σ.1 1 2)) - (l2 - l2 / (σ.1 1 2) * (σ.1 1 2))) else 0 - ((l1 - l1 / (σ.1 1 2) * (σ.1 1 2)) - (l2 - l2 / (σ.1 1 2) * (σ.1 1 2))))))))))
theorem c_X2_apart (l1 : Int32) (l2 : Int32) (σ : j_G) : j_K true 0 18 [.ref 1, .int l1, .int l2] σ (f_X2_apart l1 l2 σ) (j_Pi σ) := by
  refine j_mkK (M := M_cX2_apart) (L := [some (.ref 1), some (.int l1), some (.int l2)]) (m := 0) t_18 rfl (j_rcvO j_a1 rfl) rfl (fun d hd τ => ?_)
  unfold f_X2_apart
  refine j_aload_n (pc' := 1) rfl rfl rfl ?_
  refine j_gfi (pc' := 4) rfl rfl j_a1 rfl ?_
  refine j_two (pT := 7) (pF := 9) (L1 := [some (.ref 1), some (.int l1), some (.int l2)]) (st1 := []) (fun o kT kF => ?_) (fun h1 => ?_) (fun h1 => ?_)
  · refine j_ifgt (t := 9) (pc' := 7) rfl rfl rfl (fun h2 => ?_) (fun h2 => ?_)
    · exact kF (fun z => z h2)
    · exact kT h2
  · refine j_iconst (pc' := 8) (x := (0 : Int32)) rfl rfl rfl ?_
    exact j_ret rfl rfl rfl (fun _ h => h)
  · refine j_iload_n (pc' := 10) rfl rfl rfl ?_
    refine j_aload_n (pc' := 11) rfl rfl rfl ?_
    refine j_gfi (pc' := 14) rfl rfl j_a1 rfl ?_
    refine j_idiv (pc' := 15) rfl rfl ?_
    refine j_iload_n (pc' := 16) rfl rfl rfl ?_
    refine j_aload_n (pc' := 17) rfl rfl rfl ?_
    refine j_gfi (pc' := 20) rfl rfl j_a1 rfl ?_
    refine j_idiv (pc' := 21) rfl rfl ?_
    refine j_isub (pc' := 22) rfl rfl ?_
    refine j_abs (pc' := 25) rfl rfl rfl ?_
    refine j_iload_n (pc' := 26) rfl rfl rfl ?_
    refine j_aload_n (pc' := 27) rfl rfl rfl ?_
    refine j_gfi (pc' := 30) rfl rfl j_a1 rfl ?_
    refine j_irem (pc' := 31) rfl rfl ?_
    refine j_iload_n (pc' := 32) rfl rfl rfl ?_
    refine j_aload_n (pc' := 33) rfl rfl rfl ?_
    refine j_gfi (pc' := 36) rfl rfl j_a1 rfl ?_
    refine j_irem (pc' := 37) rfl rfl ?_
    refine j_isub (pc' := 38) rfl rfl ?_
    refine j_abs (pc' := 41) rfl rfl rfl ?_
    refine j_iadd (pc' := 42) rfl rfl ?_
    exact j_ret rfl rfl rfl (fun _ h => h)

noncomputable def f_X11_steps (l1 : Int32) (l2 : Int32) (σ : j_G) : Option Int32 :=
  if (¬ (f_X2_isHole 1 l1 σ) = 0) ∧ (¬ (f_X2_isHole 1 l2 σ) = 0) then (j_b1 (f_X2_apart l1 l2 σ) fun v1 =>
  some v1) else (some (-2 : Int32))
theorem c_X11_steps (l1 : Int32) (l2 : Int32) (σ : j_G) : j_K true 2 124 [.ref 0, .int l1, .int l2] σ (f_X11_steps l1 l2 σ) (j_Pi σ) := by
  refine j_mkK (M := M_cX11_steps) (L := [some (.ref 0), some (.int l1), some (.int l2)]) (m := 0) t_124 rfl (j_rcvO j_a0 rfl) rfl (fun d hd τ => ?_)
  unfold f_X11_steps
  refine j_aload_n (pc' := 1) rfl rfl rfl ?_
  refine j_gfr (pc' := 4) (x := 1) rfl rfl j_a0 rfl rfl ?_
  refine j_iload_n (pc' := 5) rfl rfl rfl ?_
  refine j_callTi (pc' := 8) (ai := 13) (vs := [.ref 1, .int l1]) (rest := []) rfl rfl (fun _ _ => rfl) (c_X2_isHole_1 l1 σ) (j_dd rfl hd) rfl ?_
  refine j_two (pT := 22) (pF := 34) (L1 := [some (.ref 0), some (.int l1), some (.int l2)]) (st1 := []) (fun o kT kF => ?_) (fun h1 => ?_) (fun h1 => ?_)
  · refine j_ifeq (t := 34) (pc' := 11) rfl rfl rfl (fun h2 => ?_) (fun h2 => ?_)
    · exact kF (fun z => z.1 h2)
    · refine j_aload_n (pc' := 12) rfl rfl rfl ?_
      refine j_gfr (pc' := 15) (x := 1) rfl rfl j_a0 rfl rfl ?_
      refine j_iload_n (pc' := 16) rfl rfl rfl ?_
      refine j_callTi (pc' := 19) (ai := 13) (vs := [.ref 1, .int l2]) (rest := []) rfl rfl (fun _ _ => rfl) (c_X2_isHole_1 l2 σ) (j_dd rfl hd) rfl ?_
      refine j_ifeq (t := 34) (pc' := 22) rfl rfl rfl (fun h3 => ?_) (fun h3 => ?_)
      · exact kF (fun z => (fun z => z h3) z.2)
      · exact kT (⟨h2, h3⟩)
  · refine j_aload_n (pc' := 23) rfl rfl rfl ?_
    refine j_gfr (pc' := 26) (x := 1) rfl rfl j_a0 rfl rfl ?_
    refine j_iload_n (pc' := 27) rfl rfl rfl ?_
    refine j_iload_n (pc' := 28) rfl rfl rfl ?_
    refine j_callPi (pc' := 31) (ai := 18) (vs := [.ref 1, .int l1, .int l2]) (rest := []) rfl rfl (fun _ _ => rfl) (c_X2_apart l1 l2 σ) (j_dd rfl hd) rfl (fun v1 => ?_)
    refine j_goto (t := 36) rfl rfl ?_
    exact j_ret rfl rfl rfl (fun _ h => h)
  · refine j_bipush (pc' := 36) (x := (-2 : Int32)) rfl rfl rfl ?_
    exact j_ret rfl rfl rfl (fun _ h => h)

noncomputable def f_X12_holes (σ : j_G) : Option Int32 :=
  j_ix (0 : Int32) 116 (
  j_ix (1 : Int32) 116 (
  some ((σ.1 76 ((0 : Int32)).toNatClampNeg) * (σ.1 76 ((1 : Int32)).toNatClampNeg))))
theorem c_X12_holes (σ : j_G) : j_K false 0 200 [.ref 75] σ (f_X12_holes σ) (j_Pi σ) := by
  refine j_mkK (M := M_cX12_holes) (L := [some (.ref 75)]) (m := 0) t_200 rfl (j_rcvO j_a75 rfl) rfl (fun d hd τ => ?_)
  unfold f_X12_holes
  refine j_aload_n (pc' := 1) rfl rfl rfl ?_
  refine j_gfr (pc' := 4) (x := 76) rfl rfl j_a75 rfl rfl ?_
  refine j_iconst (pc' := 5) (x := (0 : Int32)) rfl rfl rfl ?_
  refine j_iald (pc' := 6) rfl rfl j_a76 ?_
  refine j_aload_n (pc' := 7) rfl rfl rfl ?_
  refine j_gfr (pc' := 10) (x := 76) rfl rfl j_a75 rfl rfl ?_
  refine j_iconst (pc' := 11) (x := (1 : Int32)) rfl rfl rfl ?_
  refine j_iald (pc' := 12) rfl rfl j_a76 ?_
  refine j_imul (pc' := 13) rfl rfl ?_
  exact j_ret rfl rfl rfl (fun _ h => h)

noncomputable def f_X12_isHole (l1 : Int64) (σ : j_G) : Option Int32 :=
  j_b1 (f_X12_holes σ) fun v1 =>
  j_bo (f_X12_in l1 (0 : Int64) ((v1 - (1 : Int32))).toInt64) (
  some (f_X12_in l1 (0 : Int64) ((v1 - (1 : Int32))).toInt64))
theorem c_X12_isHole (l1 : Int64) (σ : j_G) : j_K false 1 201 [.ref 75, .long l1] σ (f_X12_isHole l1 σ) (j_Pi σ) := by
  refine j_mkK (M := M_cX12_isHole) (L := [some (.ref 75), some (.long l1), none]) (m := 0) t_201 rfl (j_rcvO j_a75 rfl) rfl (fun d hd τ => ?_)
  unfold f_X12_isHole
  refine j_lload_n (pc' := 1) rfl rfl rfl ?_
  refine j_lconst (pc' := 2) (x := (0 : Int64)) rfl rfl rfl ?_
  refine j_aload_n (pc' := 3) rfl rfl rfl ?_
  refine j_callPi (pc' := 6) (ai := 200) (vs := [.ref 75]) (rest := [.long (0 : Int64), .long l1]) rfl rfl (fun _ _ => rfl) (c_X12_holes  σ) (j_dd rfl hd) rfl (fun v1 => ?_)
  refine j_iconst (pc' := 7) (x := (1 : Int32)) rfl rfl rfl ?_
  refine j_isub (pc' := 8) rfl rfl ?_
  refine j_i2l (pc' := 9) rfl rfl ?_
  refine j_callTi (pc' := 12) (ai := 196) (vs := [.long l1, .long (0 : Int64), .long ((v1 - (1 : Int32))).toInt64]) (rest := []) rfl rfl (fun _ _ => rfl) (c_X12_in l1 (0 : Int64) ((v1 - (1 : Int32))).toInt64 σ) (j_dd rfl hd) rfl ?_
  refine j_boJ (fun h1 => ?_)
  exact j_retb rfl rfl h1 (fun _ h => h)

noncomputable def f_X12_stepsOf (l1 : Int32) (l2 : Int32) (σ : j_G) : Option Int32 :=
  j_ix (0 : Int32) 116 (
  if (σ.1 76 ((0 : Int32)).toNatClampNeg) = 0 then none else (
  j_ix (0 : Int32) 116 (
  if (σ.1 76 ((0 : Int32)).toNatClampNeg) = 0 then none else (
  j_ix (0 : Int32) 116 (
  if (σ.1 76 ((0 : Int32)).toNatClampNeg) = 0 then none else (
  j_ix (0 : Int32) 116 (
  if (σ.1 76 ((0 : Int32)).toNatClampNeg) = 0 then none else (
  some ((if 0 ≤ ((l1 - l1 / (σ.1 76 ((0 : Int32)).toNatClampNeg) * (σ.1 76 ((0 : Int32)).toNatClampNeg)) - (l2 - l2 / (σ.1 76 ((0 : Int32)).toNatClampNeg) * (σ.1 76 ((0 : Int32)).toNatClampNeg))) then ((l1 - l1 / (σ.1 76 ((0 : Int32)).toNatClampNeg) * (σ.1 76 ((0 : Int32)).toNatClampNeg)) - (l2 - l2 / (σ.1 76 ((0 : Int32)).toNatClampNeg) * (σ.1 76 ((0 : Int32)).toNatClampNeg))) else 0 - ((l1 - l1 / (σ.1 76 ((0 : Int32)).toNatClampNeg) * (σ.1 76 ((0 : Int32)).toNatClampNeg)) - (l2 - l2 / (σ.1 76 ((0 : Int32)).toNatClampNeg) * (σ.1 76 ((0 : Int32)).toNatClampNeg)))) + (if 0 ≤ ((l1 / (σ.1 76 ((0 : Int32)).toNatClampNeg)) - (l2 / (σ.1 76 ((0 : Int32)).toNatClampNeg))) then ((l1 / (σ.1 76 ((0 : Int32)).toNatClampNeg)) - (l2 / (σ.1 76 ((0 : Int32)).toNatClampNeg))) else 0 - ((l1 / (σ.1 76 ((0 : Int32)).toNatClampNeg)) - (l2 / (σ.1 76 ((0 : Int32)).toNatClampNeg)))))))))))))
theorem c_X12_stepsOf (l1 : Int32) (l2 : Int32) (σ : j_G) : j_K false 0 248 [.ref 75, .int l1, .int l2] σ (f_X12_stepsOf l1 l2 σ) (j_Pi σ) := by
  refine j_mkK (M := M_cX12_stepsOf) (L := [some (.ref 75), some (.int l1), some (.int l2)]) (m := 0) t_248 rfl (j_rcvO j_a75 rfl) rfl (fun d hd τ => ?_)
  unfold f_X12_stepsOf
  refine j_iload_n (pc' := 1) rfl rfl rfl ?_
  refine j_aload_n (pc' := 2) rfl rfl rfl ?_
  refine j_gfr (pc' := 5) (x := 76) rfl rfl j_a75 rfl rfl ?_
  refine j_iconst (pc' := 6) (x := (0 : Int32)) rfl rfl rfl ?_
  refine j_iald (pc' := 7) rfl rfl j_a76 ?_
  refine j_irem (pc' := 8) rfl rfl ?_
  refine j_iload_n (pc' := 9) rfl rfl rfl ?_
  refine j_aload_n (pc' := 10) rfl rfl rfl ?_
  refine j_gfr (pc' := 13) (x := 76) rfl rfl j_a75 rfl rfl ?_
  refine j_iconst (pc' := 14) (x := (0 : Int32)) rfl rfl rfl ?_
  refine j_iald (pc' := 15) rfl rfl j_a76 ?_
  refine j_irem (pc' := 16) rfl rfl ?_
  refine j_isub (pc' := 17) rfl rfl ?_
  refine j_abs (pc' := 20) rfl rfl rfl ?_
  refine j_iload_n (pc' := 21) rfl rfl rfl ?_
  refine j_aload_n (pc' := 22) rfl rfl rfl ?_
  refine j_gfr (pc' := 25) (x := 76) rfl rfl j_a75 rfl rfl ?_
  refine j_iconst (pc' := 26) (x := (0 : Int32)) rfl rfl rfl ?_
  refine j_iald (pc' := 27) rfl rfl j_a76 ?_
  refine j_idiv (pc' := 28) rfl rfl ?_
  refine j_iload_n (pc' := 29) rfl rfl rfl ?_
  refine j_aload_n (pc' := 30) rfl rfl rfl ?_
  refine j_gfr (pc' := 33) (x := 76) rfl rfl j_a75 rfl rfl ?_
  refine j_iconst (pc' := 34) (x := (0 : Int32)) rfl rfl rfl ?_
  refine j_iald (pc' := 35) rfl rfl j_a76 ?_
  refine j_idiv (pc' := 36) rfl rfl ?_
  refine j_isub (pc' := 37) rfl rfl ?_
  refine j_abs (pc' := 40) rfl rfl rfl ?_
  refine j_iadd (pc' := 41) rfl rfl ?_
  exact j_ret rfl rfl rfl (fun _ h => h)

noncomputable def f_X12_steps (l1 : Int32) (l2 : Int32) (σ : j_G) : Option Int32 :=
  j_b1 (f_X12_isHole (l1).toInt64 σ) fun v1 =>
  if ¬ v1 = 0 then (j_b1 (f_X12_isHole (l2).toInt64 σ) fun v2 =>
  if ¬ v2 = 0 then (j_b1 (f_X12_stepsOf l1 l2 σ) fun v3 =>
  some v3) else (some (-2 : Int32))) else (some (-2 : Int32))
theorem c_X12_steps (l1 : Int32) (l2 : Int32) (σ : j_G) : j_K false 2 249 [.ref 75, .int l1, .int l2] σ (f_X12_steps l1 l2 σ) (j_Pi σ) := by
  refine j_mkK (M := M_cX12_steps) (L := [some (.ref 75), some (.int l1), some (.int l2)]) (m := 0) t_249 rfl (j_rcvO j_a75 rfl) rfl (fun d hd τ => ?_)
  unfold f_X12_steps
  refine j_aload_n (pc' := 1) rfl rfl rfl ?_
  refine j_iload_n (pc' := 2) rfl rfl rfl ?_
  refine j_i2l (pc' := 3) rfl rfl ?_
  refine j_callPi (pc' := 6) (ai := 201) (vs := [.ref 75, .long (l1).toInt64]) (rest := []) rfl rfl (fun _ _ => rfl) (c_X12_isHole (l1).toInt64 σ) (j_dd rfl hd) rfl (fun v1 => ?_)
  refine j_two (pT := 9) (pF := 27) (L1 := [some (.ref 75), some (.int l1), some (.int l2)]) (st1 := []) (fun o kT kF => ?_) (fun h3 => ?_) (fun h3 => ?_)
  · refine j_ifeq (t := 27) (pc' := 9) rfl rfl rfl (fun h4 => ?_) (fun h4 => ?_)
    · exact kF (fun z => z h4)
    · exact kT h4
  · refine j_aload_n (pc' := 10) rfl rfl rfl ?_
    refine j_iload_n (pc' := 11) rfl rfl rfl ?_
    refine j_i2l (pc' := 12) rfl rfl ?_
    refine j_callPi (pc' := 15) (ai := 201) (vs := [.ref 75, .long (l2).toInt64]) (rest := []) rfl rfl (fun _ _ => rfl) (c_X12_isHole (l2).toInt64 σ) (j_dd rfl hd) rfl (fun v2 => ?_)
    refine j_two (pT := 18) (pF := 27) (L1 := [some (.ref 75), some (.int l1), some (.int l2)]) (st1 := []) (fun o kT kF => ?_) (fun h1 => ?_) (fun h1 => ?_)
    · refine j_ifeq (t := 27) (pc' := 18) rfl rfl rfl (fun h2 => ?_) (fun h2 => ?_)
      · exact kF (fun z => z h2)
      · exact kT h2
    · refine j_aload_n (pc' := 19) rfl rfl rfl ?_
      refine j_iload_n (pc' := 20) rfl rfl rfl ?_
      refine j_iload_n (pc' := 21) rfl rfl rfl ?_
      refine j_callPi (pc' := 24) (ai := 248) (vs := [.ref 75, .int l1, .int l2]) (rest := []) rfl rfl (fun _ _ => rfl) (c_X12_stepsOf l1 l2 σ) (j_dd rfl hd) rfl (fun v3 => ?_)
      refine j_goto (t := 29) rfl rfl ?_
      exact j_ret rfl rfl rfl (fun _ h => h)
    · refine j_bipush (pc' := 29) (x := (-2 : Int32)) rfl rfl rfl ?_
      exact j_ret rfl rfl rfl (fun _ h => h)
  · refine j_bipush (pc' := 29) (x := (-2 : Int32)) rfl rfl rfl ?_
    exact j_ret rfl rfl rfl (fun _ h => h)

noncomputable def f_X6_take (a0 : Nat) (l2 : Int32) (σ : j_G) : Option j_G :=
  j_b1 (f_X2_trait l2 (0 : Int32) σ) fun v1 =>
  j_lt (j_si σ a0 0 v1) fun σ2 =>
  j_b1 (f_X2_trait l2 (1 : Int32) σ2) fun v3 =>
  j_lt (j_si σ2 a0 1 v3) fun σ4 =>
  j_b1 (f_X2_trait l2 (2 : Int32) σ4) fun v5 =>
  j_lt (j_si σ4 a0 2 v5) fun σ6 =>
  j_b1 (f_X2_trait l2 (3 : Int32) σ6) fun v7 =>
  j_lt (j_si σ6 a0 3 v7) fun σ8 =>
  j_b1 (f_X2_trait l2 (4 : Int32) σ8) fun v9 =>
  j_lt (j_si σ8 a0 4 v9) fun σ10 =>
  some σ10
theorem c_X6_take_28_1 (l2 : Int32) (σ : j_G) : j_K true 1 64 [.ref 28, .ref 1, .int l2] σ (f_X6_take 28 l2 σ) j_Rv := by
  refine j_mkK (M := M_cX6_take) (L := [some (.ref 28), some (.ref 1), some (.int l2)]) (m := 0) t_64 rfl (j_rcvO j_a28 rfl) rfl (fun d hd τ => ?_)
  unfold f_X6_take
  refine j_aload_n (pc' := 1) rfl rfl rfl ?_
  refine j_aload_n (pc' := 2) rfl rfl rfl ?_
  refine j_iload_n (pc' := 3) rfl rfl rfl ?_
  refine j_iconst (pc' := 4) (x := (0 : Int32)) rfl rfl rfl ?_
  refine j_callPi (pc' := 7) (ai := 24) (vs := [.ref 1, .int l2, .int (0 : Int32)]) (rest := [.ref 28]) rfl rfl (fun _ _ => rfl) (c_X2_trait l2 (0 : Int32) σ) (j_dd rfl hd) rfl (fun v1 => ?_)
  refine j_pfi (pc' := 10) rfl rfl j_a28 rfl rfl (fun σ2 => ?_)
  refine j_aload_n (pc' := 11) rfl rfl rfl ?_
  refine j_aload_n (pc' := 12) rfl rfl rfl ?_
  refine j_iload_n (pc' := 13) rfl rfl rfl ?_
  refine j_iconst (pc' := 14) (x := (1 : Int32)) rfl rfl rfl ?_
  refine j_callPi (pc' := 17) (ai := 24) (vs := [.ref 1, .int l2, .int (1 : Int32)]) (rest := [.ref 28]) rfl rfl (fun _ _ => rfl) (c_X2_trait l2 (1 : Int32) σ2) (j_dd rfl hd) rfl (fun v3 => ?_)
  refine j_pfi (pc' := 20) rfl rfl j_a28 rfl rfl (fun σ4 => ?_)
  refine j_aload_n (pc' := 21) rfl rfl rfl ?_
  refine j_aload_n (pc' := 22) rfl rfl rfl ?_
  refine j_iload_n (pc' := 23) rfl rfl rfl ?_
  refine j_iconst (pc' := 24) (x := (2 : Int32)) rfl rfl rfl ?_
  refine j_callPi (pc' := 27) (ai := 24) (vs := [.ref 1, .int l2, .int (2 : Int32)]) (rest := [.ref 28]) rfl rfl (fun _ _ => rfl) (c_X2_trait l2 (2 : Int32) σ4) (j_dd rfl hd) rfl (fun v5 => ?_)
  refine j_pfi (pc' := 30) rfl rfl j_a28 rfl rfl (fun σ6 => ?_)
  refine j_aload_n (pc' := 31) rfl rfl rfl ?_
  refine j_aload_n (pc' := 32) rfl rfl rfl ?_
  refine j_iload_n (pc' := 33) rfl rfl rfl ?_
  refine j_iconst (pc' := 34) (x := (3 : Int32)) rfl rfl rfl ?_
  refine j_callPi (pc' := 37) (ai := 24) (vs := [.ref 1, .int l2, .int (3 : Int32)]) (rest := [.ref 28]) rfl rfl (fun _ _ => rfl) (c_X2_trait l2 (3 : Int32) σ6) (j_dd rfl hd) rfl (fun v7 => ?_)
  refine j_pfi (pc' := 40) rfl rfl j_a28 rfl rfl (fun σ8 => ?_)
  refine j_aload_n (pc' := 41) rfl rfl rfl ?_
  refine j_aload_n (pc' := 42) rfl rfl rfl ?_
  refine j_iload_n (pc' := 43) rfl rfl rfl ?_
  refine j_iconst (pc' := 44) (x := (4 : Int32)) rfl rfl rfl ?_
  refine j_callPi (pc' := 47) (ai := 24) (vs := [.ref 1, .int l2, .int (4 : Int32)]) (rest := [.ref 28]) rfl rfl (fun _ _ => rfl) (c_X2_trait l2 (4 : Int32) σ8) (j_dd rfl hd) rfl (fun v9 => ?_)
  refine j_pfi (pc' := 50) rfl rfl j_a28 rfl rfl (fun σ10 => ?_)
  exact j_ret rfl rfl rfl (fun _ h => h)

noncomputable def f_X6_paceIn (a0 : Nat) (l1 : Int32) (σ : j_G) : Option Int32 :=
  if 0 < (σ.1 a0 2) then (if (σ.1 a0 2) = 0 then none else (
  some ((σ.1 a0 0) + (l1 / (σ.1 a0 2))))) else (some (σ.1 a0 0))
theorem c_X6_paceIn_28 (l1 : Int32) (σ : j_G) : j_K true 0 65 [.ref 28, .int l1] σ (f_X6_paceIn 28 l1 σ) (j_Pi σ) := by
  refine j_mkK (M := M_cX6_paceIn) (L := [some (.ref 28), some (.int l1)]) (m := 0) t_65 rfl (j_rcvO j_a28 rfl) rfl (fun d hd τ => ?_)
  unfold f_X6_paceIn
  refine j_aload_n (pc' := 1) rfl rfl rfl ?_
  refine j_gfi (pc' := 4) rfl rfl j_a28 rfl ?_
  refine j_two (pT := 7) (pF := 21) (L1 := [some (.ref 28), some (.int l1)]) (st1 := []) (fun o kT kF => ?_) (fun h1 => ?_) (fun h1 => ?_)
  · refine j_ifle (t := 21) (pc' := 7) rfl rfl rfl (fun h2 => ?_) (fun h2 => ?_)
    · exact kF h2
    · exact kT h2
  · refine j_aload_n (pc' := 8) rfl rfl rfl ?_
    refine j_gfi (pc' := 11) rfl rfl j_a28 rfl ?_
    refine j_iload_n (pc' := 12) rfl rfl rfl ?_
    refine j_aload_n (pc' := 13) rfl rfl rfl ?_
    refine j_gfi (pc' := 16) rfl rfl j_a28 rfl ?_
    refine j_idiv (pc' := 17) rfl rfl ?_
    refine j_iadd (pc' := 18) rfl rfl ?_
    refine j_goto (t := 25) rfl rfl ?_
    exact j_ret rfl rfl rfl (fun _ h => h)
  · refine j_aload_n (pc' := 22) rfl rfl rfl ?_
    refine j_gfi (pc' := 25) rfl rfl j_a28 rfl ?_
    exact j_ret rfl rfl rfl (fun _ h => h)

noncomputable def f_X11_pace (l1 : Int32) (l2 : Int32) (σ : j_G) : Option (Int32 × j_G) :=
  if ((f_X2_isPlayer l1 σ) = 0) ∨ ((f_X2_isTick 1 l2 σ) = 0) then (some ((-2 : Int32), σ)) else (j_b1 (f_X6_take 28 l1 σ) fun σ1 =>
  j_b1 (f_X6_paceIn 28 l2 σ1) fun v2 =>
  some (v2, σ1))
theorem c_X11_pace (l1 : Int32) (l2 : Int32) (σ : j_G) : j_K true 2 125 [.ref 0, .int l1, .int l2] σ (f_X11_pace l1 l2 σ) j_Ri := by
  refine j_mkK (M := M_cX11_pace) (L := [some (.ref 0), some (.int l1), some (.int l2)]) (m := 0) t_125 rfl (j_rcvO j_a0 rfl) rfl (fun d hd τ => ?_)
  unfold f_X11_pace
  refine j_aload_n (pc' := 1) rfl rfl rfl ?_
  refine j_gfr (pc' := 4) (x := 1) rfl rfl j_a0 rfl rfl ?_
  refine j_iload_n (pc' := 5) rfl rfl rfl ?_
  refine j_callTi (pc' := 8) (ai := 15) (vs := [.ref 1, .int l1]) (rest := []) rfl rfl (fun _ _ => rfl) (c_X2_isPlayer l1 σ) (j_dd rfl hd) rfl ?_
  refine j_two (pT := 22) (pF := 25) (L1 := [some (.ref 0), some (.int l1), some (.int l2)]) (st1 := []) (fun o kT kF => ?_) (fun h1 => ?_) (fun h1 => ?_)
  · refine j_ifeq (t := 22) (pc' := 11) rfl rfl rfl (fun h2 => ?_) (fun h2 => ?_)
    · exact kT (Or.inl h2)
    · refine j_aload_n (pc' := 12) rfl rfl rfl ?_
      refine j_gfr (pc' := 15) (x := 1) rfl rfl j_a0 rfl rfl ?_
      refine j_iload_n (pc' := 16) rfl rfl rfl ?_
      refine j_callTi (pc' := 19) (ai := 14) (vs := [.ref 1, .int l2]) (rest := []) rfl rfl (fun _ _ => rfl) (c_X2_isTick_1 l2 σ) (j_dd rfl hd) rfl ?_
      refine j_ifne (t := 25) (pc' := 22) rfl rfl rfl (fun h3 => ?_) (fun h3 => ?_)
      · exact kF (fun z => z.elim h2 (h3))
      · exact kT (Or.inr (h3))
  · refine j_bipush (pc' := 24) (x := (-2 : Int32)) rfl rfl rfl ?_
    exact j_ret rfl rfl rfl (fun _ h => h)
  · refine j_aload_n (pc' := 26) rfl rfl rfl ?_
    refine j_gfr (pc' := 29) (x := 28) rfl rfl j_a0 rfl rfl ?_
    refine j_aload_n (pc' := 30) rfl rfl rfl ?_
    refine j_gfr (pc' := 33) (x := 1) rfl rfl j_a0 rfl rfl ?_
    refine j_iload_n (pc' := 34) rfl rfl rfl ?_
    refine j_callRv (pc' := 37) (ai := 64) (vs := [.ref 28, .ref 1, .int l1]) (rest := []) rfl rfl (fun _ _ => rfl) (c_X6_take_28_1 l1 σ) (j_dd rfl hd) rfl (fun σ1 => ?_)
    refine j_aload_n (pc' := 38) rfl rfl rfl ?_
    refine j_gfr (pc' := 41) (x := 28) rfl rfl j_a0 rfl rfl ?_
    refine j_iload_n (pc' := 42) rfl rfl rfl ?_
    refine j_callPi (pc' := 45) (ai := 65) (vs := [.ref 28, .int l2]) (rest := []) rfl rfl (fun _ _ => rfl) (c_X6_paceIn_28 l2 σ1) (j_dd rfl hd) rfl (fun v2 => ?_)
    exact j_ret rfl rfl rfl (fun _ h => h)

noncomputable def f_X12_paceIn (l1 : Int32) (l2 : Int32) (σ : j_G) : Option Int32 :=
  j_b1 (f_X12_of l1 (0 : Int32) σ) fun v1 =>
  j_b1 (f_X12_of l1 (2 : Int32) σ) fun v2 =>
  if v2 = 0 then (some (v1 + (0 : Int32))) else (j_b1 (f_X12_of l1 (2 : Int32) σ) fun v3 =>
  if v3 = 0 then none else (
  some (v1 + (l2 / v3))))
theorem c_X12_paceIn (l1 : Int32) (l2 : Int32) (σ : j_G) : j_K false 1 250 [.ref 75, .int l1, .int l2] σ (f_X12_paceIn l1 l2 σ) (j_Pi σ) := by
  refine j_mkK (M := M_cX12_paceIn) (L := [some (.ref 75), some (.int l1), some (.int l2)]) (m := 0) t_250 rfl (j_rcvO j_a75 rfl) rfl (fun d hd τ => ?_)
  unfold f_X12_paceIn
  refine j_aload_n (pc' := 1) rfl rfl rfl ?_
  refine j_iload_n (pc' := 2) rfl rfl rfl ?_
  refine j_iconst (pc' := 3) (x := (0 : Int32)) rfl rfl rfl ?_
  refine j_callPi (pc' := 6) (ai := 207) (vs := [.ref 75, .int l1, .int (0 : Int32)]) (rest := []) rfl rfl (fun _ _ => rfl) (c_X12_of l1 (0 : Int32) σ) (j_dd rfl hd) rfl (fun v1 => ?_)
  refine j_aload_n (pc' := 7) rfl rfl rfl ?_
  refine j_iload_n (pc' := 8) rfl rfl rfl ?_
  refine j_iconst (pc' := 9) (x := (2 : Int32)) rfl rfl rfl ?_
  refine j_callPi (pc' := 12) (ai := 207) (vs := [.ref 75, .int l1, .int (2 : Int32)]) (rest := [.int v1]) rfl rfl (fun _ _ => rfl) (c_X12_of l1 (2 : Int32) σ) (j_dd rfl hd) rfl (fun v2 => ?_)
  refine j_two (pT := 15) (pF := 19) (L1 := [some (.ref 75), some (.int l1), some (.int l2)]) (st1 := [.int v1]) (fun o kT kF => ?_) (fun h1 => ?_) (fun h1 => ?_)
  · refine j_ifne (t := 19) (pc' := 15) rfl rfl rfl (fun h2 => ?_) (fun h2 => ?_)
    · exact kF h2
    · exact kT h2
  · refine j_iconst (pc' := 16) (x := (0 : Int32)) rfl rfl rfl ?_
    refine j_goto (t := 27) rfl rfl ?_
    refine j_iadd (pc' := 28) rfl rfl ?_
    exact j_ret rfl rfl rfl (fun _ h => h)
  · refine j_iload_n (pc' := 20) rfl rfl rfl ?_
    refine j_aload_n (pc' := 21) rfl rfl rfl ?_
    refine j_iload_n (pc' := 22) rfl rfl rfl ?_
    refine j_iconst (pc' := 23) (x := (2 : Int32)) rfl rfl rfl ?_
    refine j_callPi (pc' := 26) (ai := 207) (vs := [.ref 75, .int l1, .int (2 : Int32)]) (rest := [.int l2, .int v1]) rfl rfl (fun _ _ => rfl) (c_X12_of l1 (2 : Int32) σ) (j_dd rfl hd) rfl (fun v3 => ?_)
    refine j_idiv (pc' := 27) rfl rfl ?_
    refine j_iadd (pc' := 28) rfl rfl ?_
    exact j_ret rfl rfl rfl (fun _ h => h)

noncomputable def f_X12_pace (l1 : Int32) (l2 : Int32) (σ : j_G) : Option Int32 :=
  j_b1 (f_X12_isPlayer l1 σ) fun v1 =>
  if ¬ v1 = 0 then (j_b1 (f_X12_isTick (l2).toInt64 σ) fun v2 =>
  if ¬ v2 = 0 then (j_b1 (f_X12_paceIn l1 l2 σ) fun v3 =>
  some v3) else (some (-2 : Int32))) else (some (-2 : Int32))
theorem c_X12_pace (l1 : Int32) (l2 : Int32) (σ : j_G) : j_K false 2 251 [.ref 75, .int l1, .int l2] σ (f_X12_pace l1 l2 σ) (j_Pi σ) := by
  refine j_mkK (M := M_cX12_pace) (L := [some (.ref 75), some (.int l1), some (.int l2)]) (m := 0) t_251 rfl (j_rcvO j_a75 rfl) rfl (fun d hd τ => ?_)
  unfold f_X12_pace
  refine j_aload_n (pc' := 1) rfl rfl rfl ?_
  refine j_iload_n (pc' := 2) rfl rfl rfl ?_
  refine j_callPi (pc' := 5) (ai := 205) (vs := [.ref 75, .int l1]) (rest := []) rfl rfl (fun _ _ => rfl) (c_X12_isPlayer l1 σ) (j_dd rfl hd) rfl (fun v1 => ?_)
  refine j_two (pT := 8) (pF := 26) (L1 := [some (.ref 75), some (.int l1), some (.int l2)]) (st1 := []) (fun o kT kF => ?_) (fun h3 => ?_) (fun h3 => ?_)
  · refine j_ifeq (t := 26) (pc' := 8) rfl rfl rfl (fun h4 => ?_) (fun h4 => ?_)
    · exact kF (fun z => z h4)
    · exact kT h4
  · refine j_aload_n (pc' := 9) rfl rfl rfl ?_
    refine j_iload_n (pc' := 10) rfl rfl rfl ?_
    refine j_i2l (pc' := 11) rfl rfl ?_
    refine j_callPi (pc' := 14) (ai := 203) (vs := [.ref 75, .long (l2).toInt64]) (rest := []) rfl rfl (fun _ _ => rfl) (c_X12_isTick (l2).toInt64 σ) (j_dd rfl hd) rfl (fun v2 => ?_)
    refine j_two (pT := 17) (pF := 26) (L1 := [some (.ref 75), some (.int l1), some (.int l2)]) (st1 := []) (fun o kT kF => ?_) (fun h1 => ?_) (fun h1 => ?_)
    · refine j_ifeq (t := 26) (pc' := 17) rfl rfl rfl (fun h2 => ?_) (fun h2 => ?_)
      · exact kF (fun z => z h2)
      · exact kT h2
    · refine j_aload_n (pc' := 18) rfl rfl rfl ?_
      refine j_iload_n (pc' := 19) rfl rfl rfl ?_
      refine j_iload_n (pc' := 20) rfl rfl rfl ?_
      refine j_callPi (pc' := 23) (ai := 250) (vs := [.ref 75, .int l1, .int l2]) (rest := []) rfl rfl (fun _ _ => rfl) (c_X12_paceIn l1 l2 σ) (j_dd rfl hd) rfl (fun v3 => ?_)
      refine j_goto (t := 28) rfl rfl ?_
      exact j_ret rfl rfl rfl (fun _ h => h)
    · refine j_bipush (pc' := 28) (x := (-2 : Int32)) rfl rfl rfl ?_
      exact j_ret rfl rfl rfl (fun _ h => h)
  · refine j_bipush (pc' := 28) (x := (-2 : Int32)) rfl rfl rfl ?_
    exact j_ret rfl rfl rfl (fun _ h => h)

noncomputable def f_X11_makeReady (l1 : Int32) (σ : j_G) : Option (Int32 × j_G) :=
  if (f_X2_isPlayer l1 σ) = 0 then (some ((0 : Int32), σ)) else (j_b1 (f_X4_deal (σ.1 5 1) σ) fun σ1 =>
  j_b1 (f_X6_take 28 l1 σ1) fun σ2 =>
  some ((1 : Int32), σ2))
theorem c_X11_makeReady (l1 : Int32) (σ : j_G) : j_K true 3 186 [.ref 0, .int l1] σ (f_X11_makeReady l1 σ) j_Ri := by
  refine j_mkK (M := M_cX11_makeReady) (L := [some (.ref 0), some (.int l1)]) (m := 0) t_186 rfl (j_rcvO j_a0 rfl) rfl (fun d hd τ => ?_)
  unfold f_X11_makeReady
  refine j_aload_n (pc' := 1) rfl rfl rfl ?_
  refine j_gfr (pc' := 4) (x := 1) rfl rfl j_a0 rfl rfl ?_
  refine j_iload_n (pc' := 5) rfl rfl rfl ?_
  refine j_callTi (pc' := 8) (ai := 15) (vs := [.ref 1, .int l1]) (rest := []) rfl rfl (fun _ _ => rfl) (c_X2_isPlayer l1 σ) (j_dd rfl hd) rfl ?_
  refine j_two (pT := 11) (pF := 13) (L1 := [some (.ref 0), some (.int l1)]) (st1 := []) (fun o kT kF => ?_) (fun h1 => ?_) (fun h1 => ?_)
  · refine j_ifne (t := 13) (pc' := 11) rfl rfl rfl (fun h2 => ?_) (fun h2 => ?_)
    · exact kF h2
    · exact kT h2
  · refine j_iconst (pc' := 12) (x := (0 : Int32)) rfl rfl rfl ?_
    exact j_ret rfl rfl rfl (fun _ h => h)
  · refine j_aload_n (pc' := 14) rfl rfl rfl ?_
    refine j_gfr (pc' := 17) (x := 22) rfl rfl j_a0 rfl rfl ?_
    refine j_aload_n (pc' := 18) rfl rfl rfl ?_
    refine j_gfr (pc' := 21) (x := 1) rfl rfl j_a0 rfl rfl ?_
    refine j_aload_n (pc' := 22) rfl rfl rfl ?_
    refine j_gfr (pc' := 25) (x := 1) rfl rfl j_a0 rfl rfl ?_
    refine j_gfr (pc' := 28) (x := 5) rfl rfl j_a1 rfl rfl ?_
    refine j_gfi (pc' := 31) rfl rfl j_a5 rfl ?_
    refine j_callRv (pc' := 34) (ai := 42) (vs := [.ref 22, .ref 1, .int (σ.1 5 1)]) (rest := []) rfl rfl (fun _ _ => rfl) (c_X4_deal (σ.1 5 1) σ) (j_dd rfl hd) rfl (fun σ1 => ?_)
    refine j_aload_n (pc' := 35) rfl rfl rfl ?_
    refine j_gfr (pc' := 38) (x := 28) rfl rfl j_a0 rfl rfl ?_
    refine j_aload_n (pc' := 39) rfl rfl rfl ?_
    refine j_gfr (pc' := 42) (x := 1) rfl rfl j_a0 rfl rfl ?_
    refine j_iload_n (pc' := 43) rfl rfl rfl ?_
    refine j_callRv (pc' := 46) (ai := 64) (vs := [.ref 28, .ref 1, .int l1]) (rest := []) rfl rfl (fun _ _ => rfl) (c_X6_take_28_1 l1 σ1) (j_dd rfl hd) rfl (fun σ2 => ?_)
    refine j_iconst (pc' := 47) (x := (1 : Int32)) rfl rfl rfl ?_
    exact j_ret rfl rfl rfl (fun _ h => h)

noncomputable def f_X6_awareOf (a1_4 : Nat) (a0 : Nat) (l2 : Int32) (σ : j_G) : Option Int32 :=
  if (f_X4_has l2 σ) = 0 then (some (-1 : Int32)) else (j_ix l2 60 (
  j_lt ((σ.1 a1_4 (l2).toNatClampNeg) + (σ.1 a0 1)) fun v1 =>
  if ¬ 0 < (σ.1 a0 3) then (some v1) else (j_b1 (if ¬ (f_X4_has (l2 - (σ.1 a0 3)) σ) = 0 then (j_ix (l2 - (σ.1 a0 3)) 60 (
  some (σ.1 a1_4 ((l2 - (σ.1 a0 3))).toNatClampNeg))) else (some (0 : Int32))) fun v2 =>
  some (if v2 < v1 then v2 else v1))))
theorem c_X6_awareOf_28_22 (l2 : Int32) (σ : j_G) : j_K true 1 66 [.ref 28, .ref 22, .int l2] σ (f_X6_awareOf 26 28 l2 σ) (j_Pi σ) := by
  refine j_mkK (M := M_cX6_awareOf) (L := [some (.ref 28), some (.ref 22), some (.int l2), none]) (m := 1) t_66 rfl (j_rcvO j_a28 rfl) rfl (fun d hd τ => ?_)
  unfold f_X6_awareOf
  refine j_aload_n (pc' := 1) rfl rfl rfl ?_
  refine j_iload_n (pc' := 2) rfl rfl rfl ?_
  refine j_callTi (pc' := 5) (ai := 41) (vs := [.ref 22, .int l2]) (rest := []) rfl rfl (fun _ _ => rfl) (c_X4_has l2 σ) (j_dd rfl hd) rfl ?_
  refine j_two (pT := 8) (pF := 10) (L1 := [some (.ref 28), some (.ref 22), some (.int l2), none]) (st1 := []) (fun o kT kF => ?_) (fun h5 => ?_) (fun h5 => ?_)
  · refine j_ifne (t := 10) (pc' := 8) rfl rfl rfl (fun h6 => ?_) (fun h6 => ?_)
    · exact kF h6
    · exact kT h6
  · refine j_iconst (pc' := 9) (x := (-1 : Int32)) rfl rfl rfl ?_
    exact j_ret rfl rfl rfl (fun _ h => h)
  · refine j_aload_n (pc' := 11) rfl rfl rfl ?_
    refine j_gfr (pc' := 14) (x := 26) rfl rfl j_a22 rfl rfl ?_
    refine j_iload_n (pc' := 15) rfl rfl rfl ?_
    refine j_iald (pc' := 16) rfl rfl j_a26 ?_
    refine j_aload_n (pc' := 17) rfl rfl rfl ?_
    refine j_gfi (pc' := 20) rfl rfl j_a28 rfl ?_
    refine j_iadd (pc' := 21) rfl rfl ?_
    refine j_leti (fun v1 => ?_)
    refine j_istore_n (pc' := 22) (L' := [some (.ref 28), some (.ref 22), some (.int l2), some (.int v1)]) rfl rfl rfl ?_
    refine j_aload_n (pc' := 23) rfl rfl rfl ?_
    refine j_gfi (pc' := 26) rfl rfl j_a28 rfl ?_
    refine j_two (pT := 29) (pF := 31) (L1 := [some (.ref 28), some (.ref 22), some (.int l2), some (.int v1)]) (st1 := []) (fun o kT kF => ?_) (fun h3 => ?_) (fun h3 => ?_)
    · refine j_ifgt (t := 31) (pc' := 29) rfl rfl rfl (fun h4 => ?_) (fun h4 => ?_)
      · exact kF (fun z => z h4)
      · exact kT h4
    · refine j_iload_n (pc' := 30) rfl rfl rfl ?_
      exact j_ret rfl rfl rfl (fun _ h => h)
    · refine j_iload_n (pc' := 32) rfl rfl rfl ?_
      refine j_aload_n (pc' := 33) rfl rfl rfl ?_
      refine j_iload_n (pc' := 34) rfl rfl rfl ?_
      refine j_aload_n (pc' := 35) rfl rfl rfl ?_
      refine j_gfi (pc' := 38) rfl rfl j_a28 rfl ?_
      refine j_isub (pc' := 39) rfl rfl ?_
      refine j_callTi (pc' := 42) (ai := 41) (vs := [.ref 22, .int (l2 - (σ.1 28 3))]) (rest := [.int v1]) rfl rfl (fun _ _ => rfl) (c_X4_has (l2 - (σ.1 28 3)) σ) (j_dd rfl hd) rfl ?_
      refine j_q1 (Φl := (fun r Q => j_Tr true τ M_cX6_awareOf d 60 [none, none, none, none] [.int r, .int v1] σ Q)) ?_ (fun v2 => ?_)
      · refine j_two (pT := 45) (pF := 59) (L1 := [some (.ref 28), some (.ref 22), some (.int l2), some (.int v1)]) (st1 := [.int v1]) (fun o kT kF => ?_) (fun h1 => ?_) (fun h1 => ?_)
        · refine j_ifeq (t := 59) (pc' := 45) rfl rfl rfl (fun h2 => ?_) (fun h2 => ?_)
          · exact kF (fun z => z h2)
          · exact kT h2
        · refine j_aload_n (pc' := 46) rfl rfl rfl ?_
          refine j_gfr (pc' := 49) (x := 26) rfl rfl j_a22 rfl rfl ?_
          refine j_iload_n (pc' := 50) rfl rfl rfl ?_
          refine j_aload_n (pc' := 51) rfl rfl rfl ?_
          refine j_gfi (pc' := 54) rfl rfl j_a28 rfl ?_
          refine j_isub (pc' := 55) rfl rfl ?_
          refine j_iald (pc' := 56) rfl rfl j_a26 ?_
          refine j_goto (t := 60) rfl rfl ?_
          refine j_wk [false, false, false, false] (L' := [none, none, none, none]) rfl ?_
          exact j_end (fun _ h => h)
        · refine j_iconst (pc' := 60) (x := (0 : Int32)) rfl rfl rfl ?_
          refine j_wk [false, false, false, false] (L' := [none, none, none, none]) rfl ?_
          exact j_end (fun _ h => h)
      show j_J true τ M_cX6_awareOf d 60 [none, none, none, none] [.int v2, .int v1] σ _ _
      refine j_min (pc' := 63) rfl rfl rfl ?_
      exact j_ret rfl rfl rfl (fun _ h => h)

noncomputable def f_X11_aware (l1 : Int32) (l2 : Int32) (σ : j_G) : Option (Int32 × j_G) :=
  j_b2 (f_X11_makeReady l1 σ) fun v2 σ1 =>
  if v2 = 0 then (some ((-2 : Int32), σ1)) else (if ¬ (f_X4_has l2 σ1) = 0 then (j_b1 (f_X6_awareOf 26 28 l2 σ1) fun v3 =>
  some (v3, σ1)) else (some ((-1 : Int32), σ1)))
theorem c_X11_aware (l1 : Int32) (l2 : Int32) (σ : j_G) : j_K true 4 126 [.ref 0, .int l1, .int l2] σ (f_X11_aware l1 l2 σ) j_Ri := by
  refine j_mkK (M := M_cX11_aware) (L := [some (.ref 0), some (.int l1), some (.int l2)]) (m := 0) t_126 rfl (j_rcvO j_a0 rfl) rfl (fun d hd τ => ?_)
  unfold f_X11_aware
  refine j_aload_n (pc' := 1) rfl rfl rfl ?_
  refine j_iload_n (pc' := 2) rfl rfl rfl ?_
  refine j_callRi (pc' := 5) (ai := 186) (vs := [.ref 0, .int l1]) (rest := []) rfl rfl (fun _ _ => rfl) (c_X11_makeReady l1 σ) (j_dd rfl hd) rfl (fun v2 σ1 => ?_)
  refine j_two (pT := 8) (pF := 11) (L1 := [some (.ref 0), some (.int l1), some (.int l2)]) (st1 := []) (fun o kT kF => ?_) (fun h3 => ?_) (fun h3 => ?_)
  · refine j_ifne (t := 11) (pc' := 8) rfl rfl rfl (fun h4 => ?_) (fun h4 => ?_)
    · exact kF h4
    · exact kT h4
  · refine j_bipush (pc' := 10) (x := (-2 : Int32)) rfl rfl rfl ?_
    exact j_ret rfl rfl rfl (fun _ h => h)
  · refine j_aload_n (pc' := 12) rfl rfl rfl ?_
    refine j_gfr (pc' := 15) (x := 22) rfl rfl j_a0 rfl rfl ?_
    refine j_iload_n (pc' := 16) rfl rfl rfl ?_
    refine j_callTi (pc' := 19) (ai := 41) (vs := [.ref 22, .int l2]) (rest := []) rfl rfl (fun _ _ => rfl) (c_X4_has l2 σ1) (j_dd rfl hd) rfl ?_
    refine j_two (pT := 22) (pF := 37) (L1 := [some (.ref 0), some (.int l1), some (.int l2)]) (st1 := []) (fun o kT kF => ?_) (fun h1 => ?_) (fun h1 => ?_)
    · refine j_ifeq (t := 37) (pc' := 22) rfl rfl rfl (fun h2 => ?_) (fun h2 => ?_)
      · exact kF (fun z => z h2)
      · exact kT h2
    · refine j_aload_n (pc' := 23) rfl rfl rfl ?_
      refine j_gfr (pc' := 26) (x := 28) rfl rfl j_a0 rfl rfl ?_
      refine j_aload_n (pc' := 27) rfl rfl rfl ?_
      refine j_gfr (pc' := 30) (x := 22) rfl rfl j_a0 rfl rfl ?_
      refine j_iload_n (pc' := 31) rfl rfl rfl ?_
      refine j_callPi (pc' := 34) (ai := 66) (vs := [.ref 28, .ref 22, .int l2]) (rest := []) rfl rfl (fun _ _ => rfl) (c_X6_awareOf_28_22 l2 σ1) (j_dd rfl hd) rfl (fun v3 => ?_)
      refine j_goto (t := 38) rfl rfl ?_
      exact j_ret rfl rfl rfl (fun _ h => h)
    · refine j_iconst (pc' := 38) (x := (-1 : Int32)) rfl rfl rfl ?_
      exact j_ret rfl rfl rfl (fun _ h => h)

noncomputable def f_X12_asTold (l1 : Int32) (σ : j_G) : Option j_G :=
  j_lt (j_si σ 75 19 l1) fun σ1 =>
  j_b1 (f_X12_of l1 (1 : Int32) σ1) fun v2 =>
  j_lt (j_si σ1 75 20 v2) fun σ3 =>
  j_b1 (f_X12_of l1 (3 : Int32) σ3) fun v4 =>
  j_lt (j_si σ3 75 21 v4) fun σ5 =>
  j_b1 (f_X12_of l1 (4 : Int32) σ5) fun v6 =>
  j_lt (j_si σ5 75 22 v6) fun σ7 =>
  j_lt (j_si σ7 75 23 (4095 : Int32)) fun σ8 =>
  j_lt (j_si σ8 75 24 (0 : Int32)) fun σ9 =>
  some σ9
theorem c_X12_asTold (l1 : Int32) (σ : j_G) : j_K false 1 252 [.ref 75, .int l1] σ (f_X12_asTold l1 σ) j_Rv := by
  refine j_mkK (M := M_cX12_asTold) (L := [some (.ref 75), some (.int l1)]) (m := 0) t_252 rfl (j_rcvO j_a75 rfl) rfl (fun d hd τ => ?_)
  unfold f_X12_asTold
  refine j_aload_n (pc' := 1) rfl rfl rfl ?_
  refine j_iload_n (pc' := 2) rfl rfl rfl ?_
  refine j_pfi (pc' := 5) rfl rfl j_a75 rfl rfl (fun σ1 => ?_)
  refine j_aload_n (pc' := 6) rfl rfl rfl ?_
  refine j_aload_n (pc' := 7) rfl rfl rfl ?_
  refine j_iload_n (pc' := 8) rfl rfl rfl ?_
  refine j_iconst (pc' := 9) (x := (1 : Int32)) rfl rfl rfl ?_
  refine j_callPi (pc' := 12) (ai := 207) (vs := [.ref 75, .int l1, .int (1 : Int32)]) (rest := [.ref 75]) rfl rfl (fun _ _ => rfl) (c_X12_of l1 (1 : Int32) σ1) (j_dd rfl hd) rfl (fun v2 => ?_)
  refine j_pfi (pc' := 15) rfl rfl j_a75 rfl rfl (fun σ3 => ?_)
  refine j_aload_n (pc' := 16) rfl rfl rfl ?_
  refine j_aload_n (pc' := 17) rfl rfl rfl ?_
  refine j_iload_n (pc' := 18) rfl rfl rfl ?_
  refine j_iconst (pc' := 19) (x := (3 : Int32)) rfl rfl rfl ?_
  refine j_callPi (pc' := 22) (ai := 207) (vs := [.ref 75, .int l1, .int (3 : Int32)]) (rest := [.ref 75]) rfl rfl (fun _ _ => rfl) (c_X12_of l1 (3 : Int32) σ3) (j_dd rfl hd) rfl (fun v4 => ?_)
  refine j_pfi (pc' := 25) rfl rfl j_a75 rfl rfl (fun σ5 => ?_)
  refine j_aload_n (pc' := 26) rfl rfl rfl ?_
  refine j_aload_n (pc' := 27) rfl rfl rfl ?_
  refine j_iload_n (pc' := 28) rfl rfl rfl ?_
  refine j_iconst (pc' := 29) (x := (4 : Int32)) rfl rfl rfl ?_
  refine j_callPi (pc' := 32) (ai := 207) (vs := [.ref 75, .int l1, .int (4 : Int32)]) (rest := [.ref 75]) rfl rfl (fun _ _ => rfl) (c_X12_of l1 (4 : Int32) σ5) (j_dd rfl hd) rfl (fun v6 => ?_)
  refine j_pfi (pc' := 35) rfl rfl j_a75 rfl rfl (fun σ7 => ?_)
  refine j_aload_n (pc' := 36) rfl rfl rfl ?_
  refine j_sipush (pc' := 39) (x := (4095 : Int32)) rfl rfl rfl ?_
  refine j_pfi (pc' := 42) rfl rfl j_a75 rfl rfl (fun σ8 => ?_)
  refine j_aload_n (pc' := 43) rfl rfl rfl ?_
  refine j_iconst (pc' := 44) (x := (0 : Int32)) rfl rfl rfl ?_
  refine j_pfi (pc' := 47) rfl rfl j_a75 rfl rfl (fun σ9 => ?_)
  exact j_ret rfl rfl rfl (fun _ h => h)

noncomputable def f_X12_awareOf (l1 : Int32) (σ : j_G) : Option Int32 :=
  j_ix l1 60 (
  j_lt ((σ.1 83 (l1).toNatClampNeg) + (σ.1 75 20)) fun v1 =>
  if (σ.1 75 21) = 0 then (some v1) else (j_b1 (if l1 < (σ.1 75 21) then (some (0 : Int32)) else (j_ix (l1 - (σ.1 75 21)) 60 (
  some (σ.1 83 ((l1 - (σ.1 75 21))).toNatClampNeg)))) fun v2 =>
  some (if v2 < v1 then v2 else v1)))
theorem c_X12_awareOf (l1 : Int32) (σ : j_G) : j_K false 0 253 [.ref 75, .int l1] σ (f_X12_awareOf l1 σ) (j_Pi σ) := by
  refine j_mkK (M := M_cX12_awareOf) (L := [some (.ref 75), some (.int l1), none]) (m := 1) t_253 rfl (j_rcvO j_a75 rfl) rfl (fun d hd τ => ?_)
  unfold f_X12_awareOf
  refine j_aload_n (pc' := 1) rfl rfl rfl ?_
  refine j_gfr (pc' := 4) (x := 83) rfl rfl j_a75 rfl rfl ?_
  refine j_iload_n (pc' := 5) rfl rfl rfl ?_
  refine j_iald (pc' := 6) rfl rfl j_a83 ?_
  refine j_aload_n (pc' := 7) rfl rfl rfl ?_
  refine j_gfi (pc' := 10) rfl rfl j_a75 rfl ?_
  refine j_iadd (pc' := 11) rfl rfl ?_
  refine j_leti (fun v1 => ?_)
  refine j_istore_n (pc' := 12) (L' := [some (.ref 75), some (.int l1), some (.int v1)]) rfl rfl rfl ?_
  refine j_aload_n (pc' := 13) rfl rfl rfl ?_
  refine j_gfi (pc' := 16) rfl rfl j_a75 rfl ?_
  refine j_two (pT := 19) (pF := 21) (L1 := [some (.ref 75), some (.int l1), some (.int v1)]) (st1 := []) (fun o kT kF => ?_) (fun h3 => ?_) (fun h3 => ?_)
  · refine j_ifne (t := 21) (pc' := 19) rfl rfl rfl (fun h4 => ?_) (fun h4 => ?_)
    · exact kF h4
    · exact kT h4
  · refine j_iload_n (pc' := 20) rfl rfl rfl ?_
    exact j_ret rfl rfl rfl (fun _ h => h)
  · refine j_iload_n (pc' := 22) rfl rfl rfl ?_
    refine j_iload_n (pc' := 23) rfl rfl rfl ?_
    refine j_aload_n (pc' := 24) rfl rfl rfl ?_
    refine j_gfi (pc' := 27) rfl rfl j_a75 rfl ?_
    refine j_q1 (Φl := (fun r Q => j_Tr false τ M_cX12_awareOf d 45 [none, none, none] [.int r, .int v1] σ Q)) ?_ (fun v2 => ?_)
    · refine j_two (pT := 30) (pF := 34) (L1 := [some (.ref 75), some (.int l1), some (.int v1)]) (st1 := [.int v1]) (fun o kT kF => ?_) (fun h1 => ?_) (fun h1 => ?_)
      · refine j_icge (t := 34) (pc' := 30) rfl rfl rfl (fun h2 => ?_) (fun h2 => ?_)
        · exact kF h2
        · exact kT h2
      · refine j_iconst (pc' := 31) (x := (0 : Int32)) rfl rfl rfl ?_
        refine j_goto (t := 45) rfl rfl ?_
        refine j_wk [false, false, false] (L' := [none, none, none]) rfl ?_
        exact j_end (fun _ h => h)
      · refine j_aload_n (pc' := 35) rfl rfl rfl ?_
        refine j_gfr (pc' := 38) (x := 83) rfl rfl j_a75 rfl rfl ?_
        refine j_iload_n (pc' := 39) rfl rfl rfl ?_
        refine j_aload_n (pc' := 40) rfl rfl rfl ?_
        refine j_gfi (pc' := 43) rfl rfl j_a75 rfl ?_
        refine j_isub (pc' := 44) rfl rfl ?_
        refine j_iald (pc' := 45) rfl rfl j_a83 ?_
        refine j_wk [false, false, false] (L' := [none, none, none]) rfl ?_
        exact j_end (fun _ h => h)
    show j_J false τ M_cX12_awareOf d 45 [none, none, none] [.int v2, .int v1] σ _ _
    refine j_min (pc' := 48) rfl rfl rfl ?_
    exact j_ret rfl rfl rfl (fun _ h => h)

noncomputable def f_X12_aware (l1 : Int32) (l2 : Int32) (σ : j_G) : Option (Int32 × j_G) :=
  j_b1 (f_X12_isPlayer l1 σ) fun v1 =>
  if v1 = 0 then (some ((-2 : Int32), σ)) else (j_b1 (f_X12_lay σ) fun σ2 =>
  j_b1 (f_X12_asTold l1 σ2) fun σ3 =>
  if ¬ (f_X12_isInGame l2 σ3) = 0 then (j_b1 (f_X12_awareOf l2 σ3) fun v4 =>
  some (v4, σ3)) else (some ((-1 : Int32), σ3)))
theorem c_X12_aware (l1 : Int32) (l2 : Int32) (σ : j_G) : j_K false 3 254 [.ref 75, .int l1, .int l2] σ (f_X12_aware l1 l2 σ) j_Ri := by
  refine j_mkK (M := M_cX12_aware) (L := [some (.ref 75), some (.int l1), some (.int l2)]) (m := 0) t_254 rfl (j_rcvO j_a75 rfl) rfl (fun d hd τ => ?_)
  unfold f_X12_aware
  refine j_aload_n (pc' := 1) rfl rfl rfl ?_
  refine j_iload_n (pc' := 2) rfl rfl rfl ?_
  refine j_callPi (pc' := 5) (ai := 205) (vs := [.ref 75, .int l1]) (rest := []) rfl rfl (fun _ _ => rfl) (c_X12_isPlayer l1 σ) (j_dd rfl hd) rfl (fun v1 => ?_)
  refine j_two (pT := 8) (pF := 11) (L1 := [some (.ref 75), some (.int l1), some (.int l2)]) (st1 := []) (fun o kT kF => ?_) (fun h3 => ?_) (fun h3 => ?_)
  · refine j_ifne (t := 11) (pc' := 8) rfl rfl rfl (fun h4 => ?_) (fun h4 => ?_)
    · exact kF h4
    · exact kT h4
  · refine j_bipush (pc' := 10) (x := (-2 : Int32)) rfl rfl rfl ?_
    exact j_ret rfl rfl rfl (fun _ h => h)
  · refine j_aload_n (pc' := 12) rfl rfl rfl ?_
    refine j_callRv (pc' := 15) (ai := 237) (vs := [.ref 75]) (rest := []) rfl rfl (fun _ _ => rfl) (c_X12_lay  σ) (j_dd rfl hd) rfl (fun σ2 => ?_)
    refine j_aload_n (pc' := 16) rfl rfl rfl ?_
    refine j_iload_n (pc' := 17) rfl rfl rfl ?_
    refine j_callRv (pc' := 20) (ai := 252) (vs := [.ref 75, .int l1]) (rest := []) rfl rfl (fun _ _ => rfl) (c_X12_asTold l1 σ2) (j_dd rfl hd) rfl (fun σ3 => ?_)
    refine j_aload_n (pc' := 21) rfl rfl rfl ?_
    refine j_iload_n (pc' := 22) rfl rfl rfl ?_
    refine j_callTi (pc' := 25) (ai := 243) (vs := [.ref 75, .int l2]) (rest := []) rfl rfl (fun _ _ => rfl) (c_X12_isInGame l2 σ3) (j_dd rfl hd) rfl ?_
    refine j_two (pT := 28) (pF := 36) (L1 := [some (.ref 75), some (.int l1), some (.int l2)]) (st1 := []) (fun o kT kF => ?_) (fun h1 => ?_) (fun h1 => ?_)
    · refine j_ifeq (t := 36) (pc' := 28) rfl rfl rfl (fun h2 => ?_) (fun h2 => ?_)
      · exact kF (fun z => z h2)
      · exact kT h2
    · refine j_aload_n (pc' := 29) rfl rfl rfl ?_
      refine j_iload_n (pc' := 30) rfl rfl rfl ?_
      refine j_callPi (pc' := 33) (ai := 253) (vs := [.ref 75, .int l2]) (rest := []) rfl rfl (fun _ _ => rfl) (c_X12_awareOf l2 σ3) (j_dd rfl hd) rfl (fun v4 => ?_)
      refine j_goto (t := 37) rfl rfl ?_
      exact j_ret rfl rfl rfl (fun _ h => h)
    · refine j_iconst (pc' := 37) (x := (-1 : Int32)) rfl rfl rfl ?_
      exact j_ret rfl rfl rfl (fun _ h => h)

noncomputable def p_X9_begin_30 (a1 : Nat) (a0_2 : Nat) (a0_3 : Nat) : Nat → Int32 → j_G → Option j_G
  | 0, _, _ => none
  | n + 1, l3, σ =>
    if l3 < (σ.1 a1 0) then (j_ix l3 60 (
    j_lt (j_si σ a0_2 (l3).toNatClampNeg (-1 : Int32)) fun σ1 =>
    j_ix l3 60 (
    j_lt (j_si σ1 a0_3 (l3).toNatClampNeg (0 : Int32)) fun σ2 =>
    p_X9_begin_30 a1 a0_2 a0_3 n (l3 + (1 : Int32)) σ2))) else (some σ)

noncomputable def f_X9_begin (a0 : Nat) (a2 : Nat) (a1 : Nat) (a0_2 : Nat) (a0_3 : Nat) (σ : j_G) : Option j_G :=
  j_lt (j_si σ a0 0 (0 : Int32)) fun σ1 =>
  j_lt (j_si σ1 a0 4 (0 : Int32)) fun σ2 =>
  j_lt (j_si σ2 a0 1 (0 : Int32)) fun σ3 =>
  j_lt (j_si σ3 a0 8 (0 : Int32)) fun σ4 =>
  j_lt (j_si σ4 a0 7 (σ4.1 a2 4)) fun σ5 =>
  j_b1 (p_X9_begin_30 a1 a0_2 a0_3 j_F (0 : Int32) σ5) fun σ6 =>
  some σ6
theorem l_X9_begin_30_30_22_28 {d : Nat} (hd : 0 ≤ d) (τ : j_G) : ∀ (n : Nat) (l3 : Int32) (σ : j_G), j_J true τ M_cX9_begin d 30 [some (.ref 30), some (.ref 22), none, some (.int l3)] [] σ (p_X9_begin_30 22 31 32 n l3 σ) (fun r Q => j_Tr true τ M_cX9_begin d 58 [none, none, none, none] [] r Q) := by
  intro n
  induction n with
  | zero => intro l3 σ; exact j_none
  | succ n ih =>
    intro l3 σ
    unfold p_X9_begin_30
    refine j_iload_n (pc' := 31) rfl rfl rfl ?_
    refine j_aload_n (pc' := 32) rfl rfl rfl ?_
    refine j_gfi (pc' := 35) rfl rfl j_a22 rfl ?_
    refine j_two (pT := 38) (pF := 58) (L1 := [some (.ref 30), some (.ref 22), none, some (.int l3)]) (st1 := []) (fun o kT kF => ?_) (fun h1 => ?_) (fun h1 => ?_)
    · refine j_icge (t := 58) (pc' := 38) rfl rfl rfl (fun h2 => ?_) (fun h2 => ?_)
      · exact kF h2
      · exact kT h2
    · refine j_aload_n (pc' := 39) rfl rfl rfl ?_
      refine j_gfr (pc' := 42) (x := 31) rfl rfl j_a30 rfl rfl ?_
      refine j_iload_n (pc' := 43) rfl rfl rfl ?_
      refine j_iconst (pc' := 44) (x := (-1 : Int32)) rfl rfl rfl ?_
      refine j_iast (pc' := 45) rfl rfl j_a31 (fun σ1 => ?_)
      refine j_aload_n (pc' := 46) rfl rfl rfl ?_
      refine j_gfr (pc' := 49) (x := 32) rfl rfl j_a30 rfl rfl ?_
      refine j_iload_n (pc' := 50) rfl rfl rfl ?_
      refine j_iconst (pc' := 51) (x := (0 : Int32)) rfl rfl rfl ?_
      refine j_iast (pc' := 52) rfl rfl j_a32 (fun σ2 => ?_)
      refine j_iincx (pc' := 55) (y := (1 : Int32)) (L' := [some (.ref 30), some (.ref 22), none, some (.int (l3 + (1 : Int32)))]) rfl rfl rfl rfl rfl ?_
      refine j_goto (t := 30) rfl rfl ?_
      exact ih (l3 + (1 : Int32)) σ2
    · refine j_wk [false, false, true, false] (L' := [none, none, none, none]) rfl ?_
      exact j_end (fun _ h => h)

theorem c_X9_begin_30_22_28 (σ : j_G) : j_K true 0 102 [.ref 30, .ref 22, .ref 28] σ (f_X9_begin 30 28 22 31 32 σ) j_Rv := by
  refine j_mkK (M := M_cX9_begin) (L := [some (.ref 30), some (.ref 22), some (.ref 28), none]) (m := 1) t_102 rfl (j_rcvO j_a30 rfl) rfl (fun d hd τ => ?_)
  unfold f_X9_begin
  refine j_aload_n (pc' := 1) rfl rfl rfl ?_
  refine j_iconst (pc' := 2) (x := (0 : Int32)) rfl rfl rfl ?_
  refine j_pfi (pc' := 5) rfl rfl j_a30 rfl rfl (fun σ1 => ?_)
  refine j_aload_n (pc' := 6) rfl rfl rfl ?_
  refine j_iconst (pc' := 7) (x := (0 : Int32)) rfl rfl rfl ?_
  refine j_pfi (pc' := 10) rfl rfl j_a30 rfl rfl (fun σ2 => ?_)
  refine j_aload_n (pc' := 11) rfl rfl rfl ?_
  refine j_iconst (pc' := 12) (x := (0 : Int32)) rfl rfl rfl ?_
  refine j_pfi (pc' := 15) rfl rfl j_a30 rfl rfl (fun σ3 => ?_)
  refine j_aload_n (pc' := 16) rfl rfl rfl ?_
  refine j_iconst (pc' := 17) (x := (0 : Int32)) rfl rfl rfl ?_
  refine j_pfi (pc' := 20) rfl rfl j_a30 rfl rfl (fun σ4 => ?_)
  refine j_aload_n (pc' := 21) rfl rfl rfl ?_
  refine j_aload_n (pc' := 22) rfl rfl rfl ?_
  refine j_gfi (pc' := 25) rfl rfl j_a28 rfl ?_
  refine j_pfi (pc' := 28) rfl rfl j_a30 rfl rfl (fun σ5 => ?_)
  refine j_iconst (pc' := 29) (x := (0 : Int32)) rfl rfl rfl ?_
  refine j_istore_n (pc' := 30) (L' := [some (.ref 30), some (.ref 22), some (.ref 28), some (.int (0 : Int32))]) rfl rfl rfl ?_
  refine j_wk [true, true, false, true] (L' := [some (.ref 30), some (.ref 22), none, some (.int (0 : Int32))]) rfl ?_
  refine j_q1 (l_X9_begin_30_30_22_28 hd τ j_F (0 : Int32) σ5) (fun σ6 => ?_)
  show j_J true τ M_cX9_begin d 58 [none, none, none, none] [] σ6 _ _
  exact j_ret rfl rfl rfl (fun _ h => h)

noncomputable def f_X9_among (l0 : Int32) (l1 : Int32) : Int32 :=
  if (¬ l0 = (-1 : Int32)) ∧ (¬ ((l1 >>> (l0 &&& 31)) &&& (1 : Int32)) = 0) then (l0) else ((-1 : Int32))
theorem c_X9_among (l0 : Int32) (l1 : Int32) (σ : j_G) : j_K true 0 104 [.int l0, .int l1] σ (some (f_X9_among l0 l1)) (j_Pi σ) := by
  refine j_mkK (M := M_cX9_among) (L := [some (.int l0), some (.int l1)]) (m := 0) t_104 rfl (j_rcvS rfl) rfl (fun d hd τ => ?_)
  unfold f_X9_among
  refine j_iload_n (pc' := 1) rfl rfl rfl ?_
  refine j_iconst (pc' := 2) (x := (-1 : Int32)) rfl rfl rfl ?_
  refine j_twoT (pT := 13) (pF := 17) (L1 := [some (.int l0), some (.int l1)]) (st1 := []) (fun o kT kF => ?_) (fun h1 => ?_) (fun h1 => ?_)
  · refine j_iceq (t := 17) (pc' := 5) rfl rfl rfl (fun h2 => ?_) (fun h2 => ?_)
    · exact kF (fun z => z.1 h2)
    · refine j_iload_n (pc' := 6) rfl rfl rfl ?_
      refine j_iload_n (pc' := 7) rfl rfl rfl ?_
      refine j_ishr (pc' := 8) rfl rfl ?_
      refine j_iconst (pc' := 9) (x := (1 : Int32)) rfl rfl rfl ?_
      refine j_iand (pc' := 10) rfl rfl ?_
      refine j_ifeq (t := 17) (pc' := 13) rfl rfl rfl (fun h3 => ?_) (fun h3 => ?_)
      · exact kF (fun z => (fun z => z h3) z.2)
      · exact kT (⟨h2, h3⟩)
  · refine j_iload_n (pc' := 14) rfl rfl rfl ?_
    refine j_goto (t := 18) rfl rfl ?_
    exact j_ret rfl rfl rfl (fun _ h => h)
  · refine j_iconst (pc' := 18) (x := (-1 : Int32)) rfl rfl rfl ?_
    exact j_ret rfl rfl rfl (fun _ h => h)

noncomputable def f_X6_there (a0 : Nat) (l2 : Int32) (l3 : Int32) (l4 : Int32) (σ : j_G) : Option Int32 :=
  j_b1 (f_X2_apart l2 l3 σ) fun v1 =>
  j_b1 (f_X6_paceIn a0 l4 σ) fun v2 =>
  some (l4 + (v1 * v2))
theorem c_X6_there_28_1 (l2 : Int32) (l3 : Int32) (l4 : Int32) (σ : j_G) : j_K true 1 67 [.ref 28, .ref 1, .int l2, .int l3, .int l4] σ (f_X6_there 28 l2 l3 l4 σ) (j_Pi σ) := by
  refine j_mkK (M := M_cX6_there) (L := [some (.ref 28), some (.ref 1), some (.int l2), some (.int l3), some (.int l4)]) (m := 0) t_67 rfl (j_rcvO j_a28 rfl) rfl (fun d hd τ => ?_)
  unfold f_X6_there
  refine j_iload (pc' := 2) rfl rfl rfl ?_
  refine j_aload_n (pc' := 3) rfl rfl rfl ?_
  refine j_iload_n (pc' := 4) rfl rfl rfl ?_
  refine j_iload_n (pc' := 5) rfl rfl rfl ?_
  refine j_callPi (pc' := 8) (ai := 18) (vs := [.ref 1, .int l2, .int l3]) (rest := [.int l4]) rfl rfl (fun _ _ => rfl) (c_X2_apart l2 l3 σ) (j_dd rfl hd) rfl (fun v1 => ?_)
  refine j_aload_n (pc' := 9) rfl rfl rfl ?_
  refine j_iload (pc' := 11) rfl rfl rfl ?_
  refine j_callPi (pc' := 14) (ai := 65) (vs := [.ref 28, .int l4]) (rest := [.int v1, .int l4]) rfl rfl (fun _ _ => rfl) (c_X6_paceIn_28 l4 σ) (j_dd rfl hd) rfl (fun v2 => ?_)
  refine j_imul (pc' := 15) rfl rfl ?_
  refine j_iadd (pc' := 16) rfl rfl ?_
  exact j_ret rfl rfl rfl (fun _ h => h)

noncomputable def f_X4_strike (l1 : Int32) (l2 : Int32) (σ : j_G) : Option Int32 :=
  if (f_X4_has l1 σ) = 0 then (some (-1 : Int32)) else (j_ix l1 60 (
  j_lt (if l2 < (σ.1 26 (l1).toNatClampNeg) then (σ.1 26 (l1).toNatClampNeg) else l2) fun v1 =>
  j_ix l1 60 (
  if ¬ (σ.1 27 (l1).toNatClampNeg) < v1 then (some v1) else (some (-1 : Int32)))))
theorem c_X4_strike (l1 : Int32) (l2 : Int32) (σ : j_G) : j_K true 1 52 [.ref 22, .int l1, .int l2] σ (f_X4_strike l1 l2 σ) (j_Pi σ) := by
  refine j_mkK (M := M_cX4_strike) (L := [some (.ref 22), some (.int l1), some (.int l2), none]) (m := 1) t_52 rfl (j_rcvO j_a22 rfl) rfl (fun d hd τ => ?_)
  unfold f_X4_strike
  refine j_aload_n (pc' := 1) rfl rfl rfl ?_
  refine j_iload_n (pc' := 2) rfl rfl rfl ?_
  refine j_callTi (pc' := 5) (ai := 41) (vs := [.ref 22, .int l1]) (rest := []) rfl rfl (fun _ _ => rfl) (c_X4_has l1 σ) (j_dd rfl hd) rfl ?_
  refine j_two (pT := 8) (pF := 10) (L1 := [some (.ref 22), some (.int l1), some (.int l2), none]) (st1 := []) (fun o kT kF => ?_) (fun h3 => ?_) (fun h3 => ?_)
  · refine j_ifne (t := 10) (pc' := 8) rfl rfl rfl (fun h4 => ?_) (fun h4 => ?_)
    · exact kF h4
    · exact kT h4
  · refine j_iconst (pc' := 9) (x := (-1 : Int32)) rfl rfl rfl ?_
    exact j_ret rfl rfl rfl (fun _ h => h)
  · refine j_iload_n (pc' := 11) rfl rfl rfl ?_
    refine j_aload_n (pc' := 12) rfl rfl rfl ?_
    refine j_gfr (pc' := 15) (x := 26) rfl rfl j_a22 rfl rfl ?_
    refine j_iload_n (pc' := 16) rfl rfl rfl ?_
    refine j_iald (pc' := 17) rfl rfl j_a26 ?_
    refine j_max (pc' := 20) rfl rfl rfl ?_
    refine j_leti (fun v1 => ?_)
    refine j_istore_n (pc' := 21) (L' := [some (.ref 22), some (.int l1), some (.int l2), some (.int v1)]) rfl rfl rfl ?_
    refine j_iload_n (pc' := 22) rfl rfl rfl ?_
    refine j_aload_n (pc' := 23) rfl rfl rfl ?_
    refine j_gfr (pc' := 26) (x := 27) rfl rfl j_a22 rfl rfl ?_
    refine j_iload_n (pc' := 27) rfl rfl rfl ?_
    refine j_iald (pc' := 28) rfl rfl j_a27 ?_
    refine j_two (pT := 31) (pF := 35) (L1 := [some (.ref 22), some (.int l1), some (.int l2), some (.int v1)]) (st1 := []) (fun o kT kF => ?_) (fun h1 => ?_) (fun h1 => ?_)
    · refine j_icgt (t := 35) (pc' := 31) rfl rfl rfl (fun h2 => ?_) (fun h2 => ?_)
      · exact kF (fun z => z h2)
      · exact kT h2
    · refine j_iload_n (pc' := 32) rfl rfl rfl ?_
      refine j_goto (t := 36) rfl rfl ?_
      exact j_ret rfl rfl rfl (fun _ h => h)
    · refine j_iconst (pc' := 36) (x := (-1 : Int32)) rfl rfl rfl ?_
      exact j_ret rfl rfl rfl (fun _ h => h)

noncomputable def f_X9_strike (a0 : Nat) (a2_4 : Nat) (a3 : Nat) (a0_5 : Nat) (a0_6 : Nat) (a0_2 : Nat) (a0_3 : Nat) (l4 : Int32) (l5 : Int32) (σ : j_G) : Option (Int32 × j_G) :=
  j_b1 (f_X6_awareOf a2_4 a3 l4 σ) fun v1 =>
  j_lt (if (σ.1 a0 8) < v1 then v1 else (σ.1 a0 8)) fun v2 =>
  j_b1 (f_X6_there a3 (σ.1 a0 7) l5 v2 σ) fun v3 =>
  j_b1 (f_X4_strike l4 v3 σ) fun v4 =>
  if (v4 = (-1 : Int32)) ∨ (¬ (σ.1 a0 0) < (120 : Int32)) then (some ((0 : Int32), σ)) else (j_ix (σ.1 a0 0) 120 (
  j_lt (j_si σ a0_5 ((σ.1 a0 0)).toNatClampNeg v4) fun σ5 =>
  j_ix (σ5.1 a0 0) 120 (
  j_lt (j_si σ5 a0_6 ((σ5.1 a0 0)).toNatClampNeg l5) fun σ6 =>
  j_lt (j_si σ6 a0 0 ((σ6.1 a0 0) + (1 : Int32))) fun σ7 =>
  j_ix l4 60 (
  j_lt (j_si σ7 a0_2 (l4).toNatClampNeg v4) fun σ8 =>
  j_ix l4 60 (
  j_ix l4 60 (
  j_lt (j_si σ8 a0_3 (l4).toNatClampNeg ((σ8.1 a0_3 (l4).toNatClampNeg) + (1 : Int32))) fun σ9 =>
  j_b1 (f_X2_apart (σ9.1 a0 7) l5 σ9) fun v10 =>
  j_lt (j_si σ9 a0 1 ((σ9.1 a0 1) + v10)) fun σ11 =>
  j_lt (j_si σ11 a0 7 l5) fun σ12 =>
  j_lt (j_si σ12 a0 8 (v4 + (1 : Int32))) fun σ13 =>
  some ((1 : Int32), σ13)))))))
theorem c_X9_strike_30_1_22_28 (l4 : Int32) (l5 : Int32) (σ : j_G) : j_K true 2 105 [.ref 30, .ref 1, .ref 22, .ref 28, .int l4, .int l5] σ (f_X9_strike 30 26 28 33 34 31 32 l4 l5 σ) j_Ri := by
  refine j_mkK (M := M_cX9_strike) (L := [some (.ref 30), some (.ref 1), some (.ref 22), some (.ref 28), some (.int l4), some (.int l5), none, none]) (m := 2) t_105 rfl (j_rcvO j_a30 rfl) rfl (fun d hd τ => ?_)
  unfold f_X9_strike
  refine j_aload_n (pc' := 1) rfl rfl rfl ?_
  refine j_gfi (pc' := 4) rfl rfl j_a30 rfl ?_
  refine j_aload_n (pc' := 5) rfl rfl rfl ?_
  refine j_aload_n (pc' := 6) rfl rfl rfl ?_
  refine j_iload (pc' := 8) rfl rfl rfl ?_
  refine j_callPi (pc' := 11) (ai := 66) (vs := [.ref 28, .ref 22, .int l4]) (rest := [.int (σ.1 30 8)]) rfl rfl (fun _ _ => rfl) (c_X6_awareOf_28_22 l4 σ) (j_dd rfl hd) rfl (fun v1 => ?_)
  refine j_max (pc' := 14) rfl rfl rfl ?_
  refine j_leti (fun v2 => ?_)
  refine j_istore (pc' := 16) (L' := [some (.ref 30), some (.ref 1), some (.ref 22), some (.ref 28), some (.int l4), some (.int l5), some (.int v2), none]) rfl rfl rfl ?_
  refine j_aload_n (pc' := 17) rfl rfl rfl ?_
  refine j_iload (pc' := 19) rfl rfl rfl ?_
  refine j_aload_n (pc' := 20) rfl rfl rfl ?_
  refine j_aload_n (pc' := 21) rfl rfl rfl ?_
  refine j_aload_n (pc' := 22) rfl rfl rfl ?_
  refine j_gfi (pc' := 25) rfl rfl j_a30 rfl ?_
  refine j_iload (pc' := 27) rfl rfl rfl ?_
  refine j_iload (pc' := 29) rfl rfl rfl ?_
  refine j_callPi (pc' := 32) (ai := 67) (vs := [.ref 28, .ref 1, .int (σ.1 30 7), .int l5, .int v2]) (rest := [.int l4, .ref 22]) rfl rfl (fun _ _ => rfl) (c_X6_there_28_1 (σ.1 30 7) l5 v2 σ) (j_dd rfl hd) rfl (fun v3 => ?_)
  refine j_callPi (pc' := 35) (ai := 52) (vs := [.ref 22, .int l4, .int v3]) (rest := []) rfl rfl (fun _ _ => rfl) (c_X4_strike l4 v3 σ) (j_dd rfl hd) rfl (fun v4 => ?_)
  refine j_istore (pc' := 37) (L' := [some (.ref 30), some (.ref 1), some (.ref 22), some (.ref 28), some (.int l4), some (.int l5), some (.int v2), some (.int v4)]) rfl rfl rfl ?_
  refine j_iload (pc' := 39) rfl rfl rfl ?_
  refine j_iconst (pc' := 40) (x := (-1 : Int32)) rfl rfl rfl ?_
  refine j_two (pT := 55) (pF := 57) (L1 := [some (.ref 30), some (.ref 1), some (.ref 22), some (.ref 28), some (.int l4), some (.int l5), some (.int v2), some (.int v4)]) (st1 := []) (fun o kT kF => ?_) (fun h1 => ?_) (fun h1 => ?_)
  · refine j_iceq (t := 55) (pc' := 43) rfl rfl rfl (fun h2 => ?_) (fun h2 => ?_)
    · exact kT (Or.inl h2)
    · refine j_aload_n (pc' := 44) rfl rfl rfl ?_
      refine j_gfi (pc' := 47) rfl rfl j_a30 rfl ?_
      refine j_aload_n (pc' := 48) rfl rfl rfl ?_
      refine j_gfr (pc' := 51) (x := 33) rfl rfl j_a30 rfl rfl ?_
      refine j_alen (pc' := 52) (v := (120 : Int32)) rfl rfl j_a33 rfl ?_
      refine j_iclt (t := 57) (pc' := 55) rfl rfl rfl (fun h3 => ?_) (fun h3 => ?_)
      · exact kF (fun z => z.elim h2 (fun z => z h3))
      · exact kT (Or.inr (h3))
  · refine j_iconst (pc' := 56) (x := (0 : Int32)) rfl rfl rfl ?_
    exact j_ret rfl rfl rfl (fun _ h => h)
  · refine j_aload_n (pc' := 58) rfl rfl rfl ?_
    refine j_gfr (pc' := 61) (x := 33) rfl rfl j_a30 rfl rfl ?_
    refine j_aload_n (pc' := 62) rfl rfl rfl ?_
    refine j_gfi (pc' := 65) rfl rfl j_a30 rfl ?_
    refine j_iload (pc' := 67) rfl rfl rfl ?_
    refine j_iast (pc' := 68) rfl rfl j_a33 (fun σ5 => ?_)
    refine j_aload_n (pc' := 69) rfl rfl rfl ?_
    refine j_gfr (pc' := 72) (x := 34) rfl rfl j_a30 rfl rfl ?_
    refine j_aload_n (pc' := 73) rfl rfl rfl ?_
    refine j_gfi (pc' := 76) rfl rfl j_a30 rfl ?_
    refine j_iload (pc' := 78) rfl rfl rfl ?_
    refine j_iast (pc' := 79) rfl rfl j_a34 (fun σ6 => ?_)
    refine j_aload_n (pc' := 80) rfl rfl rfl ?_
    refine j_dup (pc' := 81) rfl rfl rfl ?_
    refine j_gfi (pc' := 84) rfl rfl j_a30 rfl ?_
    refine j_iconst (pc' := 85) (x := (1 : Int32)) rfl rfl rfl ?_
    refine j_iadd (pc' := 86) rfl rfl ?_
    refine j_pfi (pc' := 89) rfl rfl j_a30 rfl rfl (fun σ7 => ?_)
    refine j_aload_n (pc' := 90) rfl rfl rfl ?_
    refine j_gfr (pc' := 93) (x := 31) rfl rfl j_a30 rfl rfl ?_
    refine j_iload (pc' := 95) rfl rfl rfl ?_
    refine j_iload (pc' := 97) rfl rfl rfl ?_
    refine j_iast (pc' := 98) rfl rfl j_a31 (fun σ8 => ?_)
    refine j_aload_n (pc' := 99) rfl rfl rfl ?_
    refine j_gfr (pc' := 102) (x := 32) rfl rfl j_a30 rfl rfl ?_
    refine j_iload (pc' := 104) rfl rfl rfl ?_
    refine j_dup2 (pc' := 105) rfl rfl rfl rfl ?_
    refine j_iald (pc' := 106) rfl rfl j_a32 ?_
    refine j_iconst (pc' := 107) (x := (1 : Int32)) rfl rfl rfl ?_
    refine j_iadd (pc' := 108) rfl rfl ?_
    refine j_iast (pc' := 109) rfl rfl j_a32 (fun σ9 => ?_)
    refine j_aload_n (pc' := 110) rfl rfl rfl ?_
    refine j_dup (pc' := 111) rfl rfl rfl ?_
    refine j_gfi (pc' := 114) rfl rfl j_a30 rfl ?_
    refine j_aload_n (pc' := 115) rfl rfl rfl ?_
    refine j_aload_n (pc' := 116) rfl rfl rfl ?_
    refine j_gfi (pc' := 119) rfl rfl j_a30 rfl ?_
    refine j_iload (pc' := 121) rfl rfl rfl ?_
    refine j_callPi (pc' := 124) (ai := 18) (vs := [.ref 1, .int (σ9.1 30 7), .int l5]) (rest := [.int (σ9.1 30 1), .ref 30]) rfl rfl (fun _ _ => rfl) (c_X2_apart (σ9.1 30 7) l5 σ9) (j_dd rfl hd) rfl (fun v10 => ?_)
    refine j_iadd (pc' := 125) rfl rfl ?_
    refine j_pfi (pc' := 128) rfl rfl j_a30 rfl rfl (fun σ11 => ?_)
    refine j_aload_n (pc' := 129) rfl rfl rfl ?_
    refine j_iload (pc' := 131) rfl rfl rfl ?_
    refine j_pfi (pc' := 134) rfl rfl j_a30 rfl rfl (fun σ12 => ?_)
    refine j_aload_n (pc' := 135) rfl rfl rfl ?_
    refine j_iload (pc' := 137) rfl rfl rfl ?_
    refine j_iconst (pc' := 138) (x := (1 : Int32)) rfl rfl rfl ?_
    refine j_iadd (pc' := 139) rfl rfl ?_
    refine j_pfi (pc' := 142) rfl rfl j_a30 rfl rfl (fun σ13 => ?_)
    refine j_iconst (pc' := 143) (x := (1 : Int32)) rfl rfl rfl ?_
    exact j_ret rfl rfl rfl (fun _ h => h)

noncomputable def f_X9_goFor (a2_1 : Nat) (a2_2 : Nat) (a0 : Nat) (a2_4 : Nat) (a3 : Nat) (a0_5 : Nat) (a0_6 : Nat) (a0_2 : Nat) (a0_3 : Nat) (l4 : Int32) (l5 : Int32) (σ : j_G) : Option j_G :=
  j_ix l4 60 (
  j_lt (f_X9_among (σ.1 a2_1 (l4).toNatClampNeg) l5) fun v1 =>
  j_ix l4 60 (
  j_lt (f_X9_among (σ.1 a2_2 (l4).toNatClampNeg) l5) fun v2 =>
  j_b1 (if ¬ v1 = (-1 : Int32) then (j_lt (some (0 : Int32)) fun (k4 : Option Int32) =>
  if ¬ v2 = (-1 : Int32) then (j_b1 (f_X2_apart (σ.1 a0 7) v2 σ) fun v5 =>
  j_b1 (f_X2_apart (σ.1 a0 7) v1 σ) fun v6 =>
  if v5 < v6 then (some (1 : Int32)) else (k4)) else (k4)) else (some (1 : Int32))) fun v3 =>
  j_lt (if ¬ v3 = 0 then (v2) else (v1)) fun v7 =>
  j_lt (if ¬ v3 = 0 then (v1) else (v2)) fun v8 =>
  if ¬ v7 = (-1 : Int32) then (j_b2 (f_X9_strike a0 a2_4 a3 a0_5 a0_6 a0_2 a0_3 l4 v7 σ) fun v10 σ9 =>
  if (¬ v10 = 0) ∧ (¬ v8 = (-1 : Int32)) then (j_b2 (f_X9_strike a0 a2_4 a3 a0_5 a0_6 a0_2 a0_3 l4 v8 σ9) fun v12 σ11 =>
  some σ11) else (some σ9)) else (some σ)))
theorem c_X9_goFor_30_1_22_28 (l4 : Int32) (l5 : Int32) (σ : j_G) : j_K true 3 103 [.ref 30, .ref 1, .ref 22, .ref 28, .int l4, .int l5] σ (f_X9_goFor 23 24 30 26 28 33 34 31 32 l4 l5 σ) j_Rv := by
  refine j_mkK (M := M_cX9_goFor) (L := [some (.ref 30), some (.ref 1), some (.ref 22), some (.ref 28), some (.int l4), some (.int l5), none, none, none, none, none]) (m := 5) t_103 rfl (j_rcvO j_a30 rfl) rfl (fun d hd τ => ?_)
  unfold f_X9_goFor
  refine j_aload_n (pc' := 1) rfl rfl rfl ?_
  refine j_gfr (pc' := 4) (x := 23) rfl rfl j_a22 rfl rfl ?_
  refine j_iload (pc' := 6) rfl rfl rfl ?_
  refine j_iald (pc' := 7) rfl rfl j_a23 ?_
  refine j_iload (pc' := 9) rfl rfl rfl ?_
  refine j_callTi (pc' := 12) (ai := 104) (vs := [.int (σ.1 23 (l4).toNatClampNeg), .int l5]) (rest := []) rfl rfl (fun _ _ => rfl) (c_X9_among (σ.1 23 (l4).toNatClampNeg) l5 σ) (j_dd rfl hd) rfl ?_
  refine j_leti (fun v1 => ?_)
  refine j_istore (pc' := 14) (L' := [some (.ref 30), some (.ref 1), some (.ref 22), some (.ref 28), some (.int l4), some (.int l5), some (.int v1), none, none, none, none]) rfl rfl rfl ?_
  refine j_aload_n (pc' := 15) rfl rfl rfl ?_
  refine j_gfr (pc' := 18) (x := 24) rfl rfl j_a22 rfl rfl ?_
  refine j_iload (pc' := 20) rfl rfl rfl ?_
  refine j_iald (pc' := 21) rfl rfl j_a24 ?_
  refine j_iload (pc' := 23) rfl rfl rfl ?_
  refine j_callTi (pc' := 26) (ai := 104) (vs := [.int (σ.1 24 (l4).toNatClampNeg), .int l5]) (rest := []) rfl rfl (fun _ _ => rfl) (c_X9_among (σ.1 24 (l4).toNatClampNeg) l5 σ) (j_dd rfl hd) rfl ?_
  refine j_leti (fun v2 => ?_)
  refine j_istore (pc' := 28) (L' := [some (.ref 30), some (.ref 1), some (.ref 22), some (.ref 28), some (.int l4), some (.int l5), some (.int v1), some (.int v2), none, none, none]) rfl rfl rfl ?_
  refine j_iload (pc' := 30) rfl rfl rfl ?_
  refine j_iconst (pc' := 31) (x := (-1 : Int32)) rfl rfl rfl ?_
  refine j_q1 (Φl := (fun r Q => j_Tr true τ M_cX9_goFor d 68 [some (.ref 30), some (.ref 1), some (.ref 22), some (.ref 28), some (.int l4), none, some (.int v1), some (.int v2), none, none, none] [.int r] σ Q)) ?_ (fun v3 => ?_)
  · refine j_two (pT := 34) (pF := 63) (L1 := [some (.ref 30), some (.ref 1), some (.ref 22), some (.ref 28), some (.int l4), some (.int l5), some (.int v1), some (.int v2), none, none, none]) (st1 := []) (fun o kT kF => ?_) (fun h5 => ?_) (fun h5 => ?_)
    · refine j_iceq (t := 63) (pc' := 34) rfl rfl rfl (fun h6 => ?_) (fun h6 => ?_)
      · exact kF (fun z => z h6)
      · exact kT h6
    · refine j_iload (pc' := 36) rfl rfl rfl ?_
      refine j_iconst (pc' := 37) (x := (-1 : Int32)) rfl rfl rfl ?_
      refine j_jn (P := (fun k => j_J true τ M_cX9_goFor d 67 [some (.ref 30), some (.ref 1), some (.ref 22), some (.ref 28), some (.int l4), none, some (.int v1), some (.int v2), none, none, none] [] σ (k ) (fun r Q => j_Tr true τ M_cX9_goFor d 68 [some (.ref 30), some (.ref 1), some (.ref 22), some (.ref 28), some (.int l4), none, some (.int v1), some (.int v2), none, none, none] [.int r] σ Q))) ?_ (fun k4 k4_h => ?_)
      · refine j_iconst (pc' := 68) (x := (0 : Int32)) rfl rfl rfl ?_
        exact j_end (fun _ h => h)
      · refine j_two (pT := 40) (pF := 67) (L1 := [some (.ref 30), some (.ref 1), some (.ref 22), some (.ref 28), some (.int l4), some (.int l5), some (.int v1), some (.int v2), none, none, none]) (st1 := []) (fun o kT kF => ?_) (fun h3 => ?_) (fun h3 => ?_)
        · refine j_iceq (t := 67) (pc' := 40) rfl rfl rfl (fun h4 => ?_) (fun h4 => ?_)
          · exact kF (fun z => z h4)
          · exact kT h4
        · refine j_aload_n (pc' := 41) rfl rfl rfl ?_
          refine j_aload_n (pc' := 42) rfl rfl rfl ?_
          refine j_gfi (pc' := 45) rfl rfl j_a30 rfl ?_
          refine j_iload (pc' := 47) rfl rfl rfl ?_
          refine j_callPi (pc' := 50) (ai := 18) (vs := [.ref 1, .int (σ.1 30 7), .int v2]) (rest := []) rfl rfl (fun _ _ => rfl) (c_X2_apart (σ.1 30 7) v2 σ) (j_dd rfl hd) rfl (fun v5 => ?_)
          refine j_aload_n (pc' := 51) rfl rfl rfl ?_
          refine j_aload_n (pc' := 52) rfl rfl rfl ?_
          refine j_gfi (pc' := 55) rfl rfl j_a30 rfl ?_
          refine j_iload (pc' := 57) rfl rfl rfl ?_
          refine j_callPi (pc' := 60) (ai := 18) (vs := [.ref 1, .int (σ.1 30 7), .int v1]) (rest := [.int v5]) rfl rfl (fun _ _ => rfl) (c_X2_apart (σ.1 30 7) v1 σ) (j_dd rfl hd) rfl (fun v6 => ?_)
          refine j_two (pT := 63) (pF := 67) (L1 := [some (.ref 30), some (.ref 1), some (.ref 22), some (.ref 28), some (.int l4), some (.int l5), some (.int v1), some (.int v2), none, none, none]) (st1 := []) (fun o kT kF => ?_) (fun h1 => ?_) (fun h1 => ?_)
          · refine j_icge (t := 67) (pc' := 63) rfl rfl rfl (fun h2 => ?_) (fun h2 => ?_)
            · exact kF h2
            · exact kT h2
          · refine j_iconst (pc' := 64) (x := (1 : Int32)) rfl rfl rfl ?_
            refine j_goto (t := 68) rfl rfl ?_
            refine j_wk [true, true, true, true, true, false, true, true, true, true, true] (L' := [some (.ref 30), some (.ref 1), some (.ref 22), some (.ref 28), some (.int l4), none, some (.int v1), some (.int v2), none, none, none]) rfl ?_
            exact j_end (fun _ h => h)
          · refine j_wk [true, true, true, true, true, false, true, true, true, true, true] (L' := [some (.ref 30), some (.ref 1), some (.ref 22), some (.ref 28), some (.int l4), none, some (.int v1), some (.int v2), none, none, none]) rfl ?_
            exact k4_h 
        · refine j_wk [true, true, true, true, true, false, true, true, true, true, true] (L' := [some (.ref 30), some (.ref 1), some (.ref 22), some (.ref 28), some (.int l4), none, some (.int v1), some (.int v2), none, none, none]) rfl ?_
          exact k4_h 
    · refine j_iconst (pc' := 64) (x := (1 : Int32)) rfl rfl rfl ?_
      refine j_goto (t := 68) rfl rfl ?_
      refine j_wk [true, true, true, true, true, false, true, true, true, true, true] (L' := [some (.ref 30), some (.ref 1), some (.ref 22), some (.ref 28), some (.int l4), none, some (.int v1), some (.int v2), none, none, none]) rfl ?_
      exact j_end (fun _ h => h)
  show j_J true τ M_cX9_goFor d 68 [some (.ref 30), some (.ref 1), some (.ref 22), some (.ref 28), some (.int l4), none, some (.int v1), some (.int v2), none, none, none] [.int v3] σ _ _
  refine j_istore (pc' := 70) (L' := [some (.ref 30), some (.ref 1), some (.ref 22), some (.ref 28), some (.int l4), none, some (.int v1), some (.int v2), some (.int v3), none, none]) rfl rfl rfl ?_
  refine j_iload (pc' := 72) rfl rfl rfl ?_
  refine j_ql (Φl := (fun r Q => j_Tr true τ M_cX9_goFor d 82 [some (.ref 30), some (.ref 1), some (.ref 22), some (.ref 28), some (.int l4), none, some (.int v1), some (.int v2), some (.int v3), none, none] [.int r] σ Q)) ?_ (fun v7 => ?_)
  · refine j_twoT (pT := 75) (pF := 80) (L1 := [some (.ref 30), some (.ref 1), some (.ref 22), some (.ref 28), some (.int l4), none, some (.int v1), some (.int v2), some (.int v3), none, none]) (st1 := []) (fun o kT kF => ?_) (fun h7 => ?_) (fun h7 => ?_)
    · refine j_ifeq (t := 80) (pc' := 75) rfl rfl rfl (fun h8 => ?_) (fun h8 => ?_)
      · exact kF (fun z => z h8)
      · exact kT h8
    · refine j_iload (pc' := 77) rfl rfl rfl ?_
      refine j_goto (t := 82) rfl rfl ?_
      exact j_end (fun _ h => h)
    · refine j_iload (pc' := 82) rfl rfl rfl ?_
      exact j_end (fun _ h => h)
  show j_J true τ M_cX9_goFor d 82 [some (.ref 30), some (.ref 1), some (.ref 22), some (.ref 28), some (.int l4), none, some (.int v1), some (.int v2), some (.int v3), none, none] [.int v7] σ _ _
  refine j_istore (pc' := 84) (L' := [some (.ref 30), some (.ref 1), some (.ref 22), some (.ref 28), some (.int l4), none, some (.int v1), some (.int v2), some (.int v3), some (.int v7), none]) rfl rfl rfl ?_
  refine j_iload (pc' := 86) rfl rfl rfl ?_
  refine j_ql (Φl := (fun r Q => j_Tr true τ M_cX9_goFor d 96 [some (.ref 30), some (.ref 1), some (.ref 22), some (.ref 28), some (.int l4), none, none, none, none, some (.int v7), none] [.int r] σ Q)) ?_ (fun v8 => ?_)
  · refine j_twoT (pT := 89) (pF := 94) (L1 := [some (.ref 30), some (.ref 1), some (.ref 22), some (.ref 28), some (.int l4), none, some (.int v1), some (.int v2), some (.int v3), some (.int v7), none]) (st1 := []) (fun o kT kF => ?_) (fun h9 => ?_) (fun h9 => ?_)
    · refine j_ifeq (t := 94) (pc' := 89) rfl rfl rfl (fun h10 => ?_) (fun h10 => ?_)
      · exact kF (fun z => z h10)
      · exact kT h10
    · refine j_iload (pc' := 91) rfl rfl rfl ?_
      refine j_goto (t := 96) rfl rfl ?_
      refine j_wk [true, true, true, true, true, true, false, false, false, true, true] (L' := [some (.ref 30), some (.ref 1), some (.ref 22), some (.ref 28), some (.int l4), none, none, none, none, some (.int v7), none]) rfl ?_
      exact j_end (fun _ h => h)
    · refine j_iload (pc' := 96) rfl rfl rfl ?_
      refine j_wk [true, true, true, true, true, true, false, false, false, true, true] (L' := [some (.ref 30), some (.ref 1), some (.ref 22), some (.ref 28), some (.int l4), none, none, none, none, some (.int v7), none]) rfl ?_
      exact j_end (fun _ h => h)
  show j_J true τ M_cX9_goFor d 96 [some (.ref 30), some (.ref 1), some (.ref 22), some (.ref 28), some (.int l4), none, none, none, none, some (.int v7), none] [.int v8] σ _ _
  refine j_istore (pc' := 98) (L' := [some (.ref 30), some (.ref 1), some (.ref 22), some (.ref 28), some (.int l4), none, none, none, none, some (.int v7), some (.int v8)]) rfl rfl rfl ?_
  refine j_iload (pc' := 100) rfl rfl rfl ?_
  refine j_iconst (pc' := 101) (x := (-1 : Int32)) rfl rfl rfl ?_
  refine j_two (pT := 104) (pF := 136) (L1 := [some (.ref 30), some (.ref 1), some (.ref 22), some (.ref 28), some (.int l4), none, none, none, none, some (.int v7), some (.int v8)]) (st1 := []) (fun o kT kF => ?_) (fun h14 => ?_) (fun h14 => ?_)
  · refine j_iceq (t := 136) (pc' := 104) rfl rfl rfl (fun h15 => ?_) (fun h15 => ?_)
    · exact kF (fun z => z h15)
    · exact kT h15
  · refine j_aload_n (pc' := 105) rfl rfl rfl ?_
    refine j_aload_n (pc' := 106) rfl rfl rfl ?_
    refine j_aload_n (pc' := 107) rfl rfl rfl ?_
    refine j_aload_n (pc' := 108) rfl rfl rfl ?_
    refine j_iload (pc' := 110) rfl rfl rfl ?_
    refine j_iload (pc' := 112) rfl rfl rfl ?_
    refine j_callRi (pc' := 115) (ai := 105) (vs := [.ref 30, .ref 1, .ref 22, .ref 28, .int l4, .int v7]) (rest := []) rfl rfl (fun _ _ => rfl) (c_X9_strike_30_1_22_28 l4 v7 σ) (j_dd rfl hd) rfl (fun v10 σ9 => ?_)
    refine j_two (pT := 124) (pF := 136) (L1 := [some (.ref 30), some (.ref 1), some (.ref 22), some (.ref 28), some (.int l4), none, none, none, none, some (.int v7), some (.int v8)]) (st1 := []) (fun o kT kF => ?_) (fun h11 => ?_) (fun h11 => ?_)
    · refine j_ifeq (t := 136) (pc' := 118) rfl rfl rfl (fun h12 => ?_) (fun h12 => ?_)
      · exact kF (fun z => z.1 h12)
      · refine j_iload (pc' := 120) rfl rfl rfl ?_
        refine j_iconst (pc' := 121) (x := (-1 : Int32)) rfl rfl rfl ?_
        refine j_iceq (t := 136) (pc' := 124) rfl rfl rfl (fun h13 => ?_) (fun h13 => ?_)
        · exact kF (fun z => (fun z => z h13) z.2)
        · exact kT (⟨h12, h13⟩)
    · refine j_aload_n (pc' := 125) rfl rfl rfl ?_
      refine j_aload_n (pc' := 126) rfl rfl rfl ?_
      refine j_aload_n (pc' := 127) rfl rfl rfl ?_
      refine j_aload_n (pc' := 128) rfl rfl rfl ?_
      refine j_iload (pc' := 130) rfl rfl rfl ?_
      refine j_iload (pc' := 132) rfl rfl rfl ?_
      refine j_callRi (pc' := 135) (ai := 105) (vs := [.ref 30, .ref 1, .ref 22, .ref 28, .int l4, .int v8]) (rest := []) rfl rfl (fun _ _ => rfl) (c_X9_strike_30_1_22_28 l4 v8 σ9) (j_dd rfl hd) rfl (fun v12 σ11 => ?_)
      refine j_pop (pc' := 136) rfl rfl rfl ?_
      exact j_ret rfl rfl rfl (fun _ h => h)
    · exact j_ret rfl rfl rfl (fun _ h => h)
  · exact j_ret rfl rfl rfl (fun _ h => h)

noncomputable def p_X9_good_9 (a2 : Nat) (a2_3 : Nat) (a2_1 : Nat) (a2_2 : Nat) (a0 : Nat) (a2_4 : Nat) (a3 : Nat) (a0_5 : Nat) (a0_6 : Nat) (a0_2 : Nat) (a0_3 : Nat) (l4 : Int32) : Nat → Int32 → j_G → Option j_G
  | 0, _, _ => none
  | n + 1, l5, σ =>
    if l5 < (σ.1 a2 0) then (j_ix l5 60 (
    j_b1 (if (σ.1 a2_3 (l5).toNatClampNeg) = 0 then (j_b1 (f_X9_goFor a2_1 a2_2 a0 a2_4 a3 a0_5 a0_6 a0_2 a0_3 l5 l4 σ) fun σ2 =>
    some σ2) else (some σ)) fun σ1 =>
    p_X9_good_9 a2 a2_3 a2_1 a2_2 a0 a2_4 a3 a0_5 a0_6 a0_2 a0_3 l4 n (l5 + (1 : Int32)) σ1)) else (some σ)

noncomputable def f_X9_good (a0 : Nat) (a3 : Nat) (a2 : Nat) (a0_2 : Nat) (a0_3 : Nat) (a2_3 : Nat) (a2_1 : Nat) (a2_2 : Nat) (a2_4 : Nat) (a0_5 : Nat) (a0_6 : Nat) (l4 : Int32) (σ : j_G) : Option (Int32 × j_G) :=
  j_b1 (f_X9_begin a0 a3 a2 a0_2 a0_3 σ) fun σ1 =>
  j_b1 (p_X9_good_9 a2 a2_3 a2_1 a2_2 a0 a2_4 a3 a0_5 a0_6 a0_2 a0_3 l4 j_F (0 : Int32) σ1) fun σ2 =>
  some ((σ2.1 a0 0), σ2)
theorem l_X9_good_9_30_1_22_28 {d : Nat} (hd : 4 ≤ d) (τ : j_G) (l4 : Int32) : ∀ (n : Nat) (l5 : Int32) (σ : j_G), j_J true τ M_cX9_good d 9 [some (.ref 30), some (.ref 1), some (.ref 22), some (.ref 28), some (.int l4), some (.int l5)] [] σ (p_X9_good_9 22 25 23 24 30 26 28 33 34 31 32 l4 n l5 σ) (fun r Q => j_Tr true τ M_cX9_good d 45 [some (.ref 30), none, none, none, none, none] [] r Q) := by
  intro n
  induction n with
  | zero => intro l5 σ; exact j_none
  | succ n ih =>
    intro l5 σ
    unfold p_X9_good_9
    refine j_iload (pc' := 11) rfl rfl rfl ?_
    refine j_aload_n (pc' := 12) rfl rfl rfl ?_
    refine j_gfi (pc' := 15) rfl rfl j_a22 rfl ?_
    refine j_two (pT := 18) (pF := 45) (L1 := [some (.ref 30), some (.ref 1), some (.ref 22), some (.ref 28), some (.int l4), some (.int l5)]) (st1 := []) (fun o kT kF => ?_) (fun h3 => ?_) (fun h3 => ?_)
    · refine j_icge (t := 45) (pc' := 18) rfl rfl rfl (fun h4 => ?_) (fun h4 => ?_)
      · exact kF h4
      · exact kT h4
    · refine j_aload_n (pc' := 19) rfl rfl rfl ?_
      refine j_gfr (pc' := 22) (x := 25) rfl rfl j_a22 rfl rfl ?_
      refine j_iload (pc' := 24) rfl rfl rfl ?_
      refine j_iald (pc' := 25) rfl rfl j_a25 ?_
      refine j_q1 (Φl := (fun r Q => j_Tr true τ M_cX9_good d 39 [some (.ref 30), some (.ref 1), some (.ref 22), some (.ref 28), some (.int l4), some (.int l5)] [] r Q)) ?_ (fun σ1 => ?_)
      · refine j_two (pT := 28) (pF := 39) (L1 := [some (.ref 30), some (.ref 1), some (.ref 22), some (.ref 28), some (.int l4), some (.int l5)]) (st1 := []) (fun o kT kF => ?_) (fun h1 => ?_) (fun h1 => ?_)
        · refine j_ifne (t := 39) (pc' := 28) rfl rfl rfl (fun h2 => ?_) (fun h2 => ?_)
          · exact kF h2
          · exact kT h2
        · refine j_aload_n (pc' := 29) rfl rfl rfl ?_
          refine j_aload_n (pc' := 30) rfl rfl rfl ?_
          refine j_aload_n (pc' := 31) rfl rfl rfl ?_
          refine j_aload_n (pc' := 32) rfl rfl rfl ?_
          refine j_iload (pc' := 34) rfl rfl rfl ?_
          refine j_iload (pc' := 36) rfl rfl rfl ?_
          refine j_callRv (pc' := 39) (ai := 103) (vs := [.ref 30, .ref 1, .ref 22, .ref 28, .int l5, .int l4]) (rest := []) rfl rfl (fun _ _ => rfl) (c_X9_goFor_30_1_22_28 l5 l4 σ) (j_dd rfl hd) rfl (fun σ2 => ?_)
          exact j_end (fun _ h => h)
        · exact j_end (fun _ h => h)
      show j_J true τ M_cX9_good d 39 [some (.ref 30), some (.ref 1), some (.ref 22), some (.ref 28), some (.int l4), some (.int l5)] [] σ1 _ _
      refine j_iincx (pc' := 42) (y := (1 : Int32)) (L' := [some (.ref 30), some (.ref 1), some (.ref 22), some (.ref 28), some (.int l4), some (.int (l5 + (1 : Int32)))]) rfl rfl rfl rfl rfl ?_
      refine j_goto (t := 9) rfl rfl ?_
      exact ih (l5 + (1 : Int32)) σ1
    · refine j_wk [true, false, false, false, false, false] (L' := [some (.ref 30), none, none, none, none, none]) rfl ?_
      exact j_end (fun _ h => h)

theorem c_X9_good_30_1_22_28 (l4 : Int32) (σ : j_G) : j_K true 4 100 [.ref 30, .ref 1, .ref 22, .ref 28, .int l4] σ (f_X9_good 30 28 22 31 32 25 23 24 26 33 34 l4 σ) j_Ri := by
  refine j_mkK (M := M_cX9_good) (L := [some (.ref 30), some (.ref 1), some (.ref 22), some (.ref 28), some (.int l4), none]) (m := 1) t_100 rfl (j_rcvO j_a30 rfl) rfl (fun d hd τ => ?_)
  unfold f_X9_good
  refine j_aload_n (pc' := 1) rfl rfl rfl ?_
  refine j_aload_n (pc' := 2) rfl rfl rfl ?_
  refine j_aload_n (pc' := 3) rfl rfl rfl ?_
  refine j_callRv (pc' := 6) (ai := 102) (vs := [.ref 30, .ref 22, .ref 28]) (rest := []) rfl rfl (fun _ _ => rfl) (c_X9_begin_30_22_28  σ) (j_dd rfl hd) rfl (fun σ1 => ?_)
  refine j_iconst (pc' := 7) (x := (0 : Int32)) rfl rfl rfl ?_
  refine j_istore (pc' := 9) (L' := [some (.ref 30), some (.ref 1), some (.ref 22), some (.ref 28), some (.int l4), some (.int (0 : Int32))]) rfl rfl rfl ?_
  refine j_q1 (l_X9_good_9_30_1_22_28 hd τ l4 j_F (0 : Int32) σ1) (fun σ2 => ?_)
  show j_J true τ M_cX9_good d 45 [some (.ref 30), none, none, none, none, none] [] σ2 _ _
  refine j_aload_n (pc' := 46) rfl rfl rfl ?_
  refine j_gfi (pc' := 49) rfl rfl j_a30 rfl ?_
  exact j_ret rfl rfl rfl (fun _ h => h)

noncomputable def f_X11_runOf (l1 : Int32) (σ : j_G) : Option (Int32 × j_G) :=
  j_b2 (f_X11_makeReady l1 σ) fun v2 σ1 =>
  if v2 = 0 then (some ((0 : Int32), σ1)) else (j_b2 (f_X9_good 30 28 22 31 32 25 23 24 26 33 34 (-1 : Int32) σ1) fun v4 σ3 =>
  some ((1 : Int32), σ3))
theorem c_X11_runOf (l1 : Int32) (σ : j_G) : j_K true 5 187 [.ref 0, .int l1] σ (f_X11_runOf l1 σ) j_Ri := by
  refine j_mkK (M := M_cX11_runOf) (L := [some (.ref 0), some (.int l1)]) (m := 0) t_187 rfl (j_rcvO j_a0 rfl) rfl (fun d hd τ => ?_)
  unfold f_X11_runOf
  refine j_aload_n (pc' := 1) rfl rfl rfl ?_
  refine j_iload_n (pc' := 2) rfl rfl rfl ?_
  refine j_callRi (pc' := 5) (ai := 186) (vs := [.ref 0, .int l1]) (rest := []) rfl rfl (fun _ _ => rfl) (c_X11_makeReady l1 σ) (j_dd rfl hd) rfl (fun v2 σ1 => ?_)
  refine j_two (pT := 8) (pF := 10) (L1 := [some (.ref 0), some (.int l1)]) (st1 := []) (fun o kT kF => ?_) (fun h1 => ?_) (fun h1 => ?_)
  · refine j_ifne (t := 10) (pc' := 8) rfl rfl rfl (fun h2 => ?_) (fun h2 => ?_)
    · exact kF h2
    · exact kT h2
  · refine j_iconst (pc' := 9) (x := (0 : Int32)) rfl rfl rfl ?_
    exact j_ret rfl rfl rfl (fun _ h => h)
  · refine j_aload_n (pc' := 11) rfl rfl rfl ?_
    refine j_gfr (pc' := 14) (x := 30) rfl rfl j_a0 rfl rfl ?_
    refine j_aload_n (pc' := 15) rfl rfl rfl ?_
    refine j_gfr (pc' := 18) (x := 1) rfl rfl j_a0 rfl rfl ?_
    refine j_aload_n (pc' := 19) rfl rfl rfl ?_
    refine j_gfr (pc' := 22) (x := 22) rfl rfl j_a0 rfl rfl ?_
    refine j_aload_n (pc' := 23) rfl rfl rfl ?_
    refine j_gfr (pc' := 26) (x := 28) rfl rfl j_a0 rfl rfl ?_
    refine j_iconst (pc' := 27) (x := (-1 : Int32)) rfl rfl rfl ?_
    refine j_callRi (pc' := 30) (ai := 100) (vs := [.ref 30, .ref 1, .ref 22, .ref 28, .int (-1 : Int32)]) (rest := []) rfl rfl (fun _ _ => rfl) (c_X9_good_30_1_22_28 (-1 : Int32) σ1) (j_dd rfl hd) rfl (fun v4 σ3 => ?_)
    refine j_pop (pc' := 31) rfl rfl rfl ?_
    refine j_iconst (pc' := 32) (x := (1 : Int32)) rfl rfl rfl ?_
    exact j_ret rfl rfl rfl (fun _ h => h)

noncomputable def f_X11_hits (l1 : Int32) (σ : j_G) : Option (Int32 × j_G) :=
  j_b2 (f_X11_runOf l1 σ) fun v2 σ1 =>
  if ¬ v2 = 0 then (some ((σ1.1 30 0), σ1)) else (some ((-2 : Int32), σ1))
theorem c_X11_hits (l1 : Int32) (σ : j_G) : j_K true 6 127 [.ref 0, .int l1] σ (f_X11_hits l1 σ) j_Ri := by
  refine j_mkK (M := M_cX11_hits) (L := [some (.ref 0), some (.int l1)]) (m := 0) t_127 rfl (j_rcvO j_a0 rfl) rfl (fun d hd τ => ?_)
  unfold f_X11_hits
  refine j_aload_n (pc' := 1) rfl rfl rfl ?_
  refine j_iload_n (pc' := 2) rfl rfl rfl ?_
  refine j_callRi (pc' := 5) (ai := 187) (vs := [.ref 0, .int l1]) (rest := []) rfl rfl (fun _ _ => rfl) (c_X11_runOf l1 σ) (j_dd rfl hd) rfl (fun v2 σ1 => ?_)
  refine j_two (pT := 8) (pF := 18) (L1 := [some (.ref 0), some (.int l1)]) (st1 := []) (fun o kT kF => ?_) (fun h1 => ?_) (fun h1 => ?_)
  · refine j_ifeq (t := 18) (pc' := 8) rfl rfl rfl (fun h2 => ?_) (fun h2 => ?_)
    · exact kF (fun z => z h2)
    · exact kT h2
  · refine j_aload_n (pc' := 9) rfl rfl rfl ?_
    refine j_gfr (pc' := 12) (x := 30) rfl rfl j_a0 rfl rfl ?_
    refine j_gfi (pc' := 15) rfl rfl j_a30 rfl ?_
    refine j_goto (t := 20) rfl rfl ?_
    exact j_ret rfl rfl rfl (fun _ h => h)
  · refine j_bipush (pc' := 20) (x := (-2 : Int32)) rfl rfl rfl ?_
    exact j_ret rfl rfl rfl (fun _ h => h)

noncomputable def f_X12_isHis (l1 : Int32) (σ : j_G) : Int32 :=
  if (¬ l1 = (-1 : Int32)) ∧ ((((σ.1 75 23) >>> (l1 &&& 31)) &&& (1 : Int32)) = (1 : Int32)) then ((1 : Int32)) else ((0 : Int32))

theorem b_X12_isHis (l1 : Int32) (σ : j_G) : f_X12_isHis l1 σ = 0 ∨ f_X12_isHis l1 σ = 1 := by
  unfold f_X12_isHis
  repeat' split
  all_goals first | exact Or.inl rfl | exact Or.inr rfl
theorem c_X12_isHis (l1 : Int32) (σ : j_G) : j_K false 0 256 [.ref 75, .int l1] σ (some (f_X12_isHis l1 σ)) (j_Pi σ) := by
  refine j_mkK (M := M_cX12_isHis) (L := [some (.ref 75), some (.int l1)]) (m := 0) t_256 rfl (j_rcvO j_a75 rfl) rfl (fun d hd τ => ?_)
  unfold f_X12_isHis
  refine j_iload_n (pc' := 1) rfl rfl rfl ?_
  refine j_iconst (pc' := 2) (x := (-1 : Int32)) rfl rfl rfl ?_
  refine j_twoT (pT := 17) (pF := 21) (L1 := [some (.ref 75), some (.int l1)]) (st1 := []) (fun o kT kF => ?_) (fun h1 => ?_) (fun h1 => ?_)
  · refine j_iceq (t := 21) (pc' := 5) rfl rfl rfl (fun h2 => ?_) (fun h2 => ?_)
    · exact kF (fun z => z.1 h2)
    · refine j_aload_n (pc' := 6) rfl rfl rfl ?_
      refine j_gfi (pc' := 9) rfl rfl j_a75 rfl ?_
      refine j_iload_n (pc' := 10) rfl rfl rfl ?_
      refine j_ishr (pc' := 11) rfl rfl ?_
      refine j_iconst (pc' := 12) (x := (1 : Int32)) rfl rfl rfl ?_
      refine j_iand (pc' := 13) rfl rfl ?_
      refine j_iconst (pc' := 14) (x := (1 : Int32)) rfl rfl rfl ?_
      refine j_icne (t := 21) (pc' := 17) rfl rfl rfl (fun h3 => ?_) (fun h3 => ?_)
      · exact kF (fun z => (h3) z.2)
      · exact kT (⟨h2, h3⟩)
  · refine j_iconst (pc' := 18) (x := (1 : Int32)) rfl rfl rfl ?_
    refine j_goto (t := 22) rfl rfl ?_
    exact j_ret rfl rfl rfl (fun _ h => h)
  · refine j_iconst (pc' := 22) (x := (0 : Int32)) rfl rfl rfl ?_
    exact j_ret rfl rfl rfl (fun _ h => h)

noncomputable def f_X12_goes (l1 : Int32) (l2 : Int32) (σ : j_G) : Option (Int32 × j_G) :=
  j_b1 (f_X12_awareOf l1 σ) fun v1 =>
  j_lt (if (σ.1 75 32) < v1 then v1 else (σ.1 75 32)) fun v2 =>
  j_b1 (f_X12_stepsOf (σ.1 75 31) l2 σ) fun v3 =>
  j_b1 (f_X12_paceIn (σ.1 75 19) v2 σ) fun v4 =>
  j_lt (v2 + (v3 * v4)) fun v5 =>
  j_ix l1 60 (
  j_lt (if v5 < (σ.1 83 (l1).toNatClampNeg) then (σ.1 83 (l1).toNatClampNeg) else v5) fun v6 =>
  j_ix l1 60 (
  if (σ.1 84 (l1).toNatClampNeg) < v6 then (some ((0 : Int32), σ)) else (j_b1 (f_X12_stepsOf (σ.1 75 31) l2 σ) fun v7 =>
  j_lt (j_si σ 75 33 ((σ.1 75 33) + v7)) fun σ8 =>
  j_lt (j_si σ8 75 31 l2) fun σ9 =>
  j_lt (j_si σ9 75 32 (v6 + (1 : Int32))) fun σ10 =>
  j_ix l1 60 (
  j_ix l1 60 (
  j_lt (j_si σ10 85 (l1).toNatClampNeg ((σ10.1 85 (l1).toNatClampNeg) + (1 : Int32))) fun σ11 =>
  j_ix l1 60 (
  j_lt (j_si σ11 86 (l1).toNatClampNeg v6) fun σ12 =>
  j_ix (σ12.1 75 29) 120 (
  j_lt (j_si σ12 87 ((σ12.1 75 29)).toNatClampNeg v6) fun σ13 =>
  j_ix (σ13.1 75 29) 120 (
  j_lt (j_si σ13 88 ((σ13.1 75 29)).toNatClampNeg l2) fun σ14 =>
  j_lt (j_si σ14 75 29 ((σ14.1 75 29) + (1 : Int32))) fun σ15 =>
  j_b1 (f_X12_inGame l1 (2 : Int32) σ15) fun v16 =>
  j_lt (j_si σ15 75 30 ((σ15.1 75 30) + v16)) fun σ17 =>
  some ((1 : Int32), σ17)))))))))
theorem c_X12_goes (l1 : Int32) (l2 : Int32) (σ : j_G) : j_K false 2 255 [.ref 75, .int l1, .int l2] σ (f_X12_goes l1 l2 σ) j_Ri := by
  refine j_mkK (M := M_cX12_goes) (L := [some (.ref 75), some (.int l1), some (.int l2), none, none, none]) (m := 3) t_255 rfl (j_rcvO j_a75 rfl) rfl (fun d hd τ => ?_)
  unfold f_X12_goes
  refine j_aload_n (pc' := 1) rfl rfl rfl ?_
  refine j_gfi (pc' := 4) rfl rfl j_a75 rfl ?_
  refine j_aload_n (pc' := 5) rfl rfl rfl ?_
  refine j_iload_n (pc' := 6) rfl rfl rfl ?_
  refine j_callPi (pc' := 9) (ai := 253) (vs := [.ref 75, .int l1]) (rest := [.int (σ.1 75 32)]) rfl rfl (fun _ _ => rfl) (c_X12_awareOf l1 σ) (j_dd rfl hd) rfl (fun v1 => ?_)
  refine j_max (pc' := 12) rfl rfl rfl ?_
  refine j_leti (fun v2 => ?_)
  refine j_istore_n (pc' := 13) (L' := [some (.ref 75), some (.int l1), some (.int l2), some (.int v2), none, none]) rfl rfl rfl ?_
  refine j_iload_n (pc' := 14) rfl rfl rfl ?_
  refine j_aload_n (pc' := 15) rfl rfl rfl ?_
  refine j_aload_n (pc' := 16) rfl rfl rfl ?_
  refine j_gfi (pc' := 19) rfl rfl j_a75 rfl ?_
  refine j_iload_n (pc' := 20) rfl rfl rfl ?_
  refine j_callPi (pc' := 23) (ai := 248) (vs := [.ref 75, .int (σ.1 75 31), .int l2]) (rest := [.int v2]) rfl rfl (fun _ _ => rfl) (c_X12_stepsOf (σ.1 75 31) l2 σ) (j_dd rfl hd) rfl (fun v3 => ?_)
  refine j_aload_n (pc' := 24) rfl rfl rfl ?_
  refine j_aload_n (pc' := 25) rfl rfl rfl ?_
  refine j_gfi (pc' := 28) rfl rfl j_a75 rfl ?_
  refine j_iload_n (pc' := 29) rfl rfl rfl ?_
  refine j_callPi (pc' := 32) (ai := 250) (vs := [.ref 75, .int (σ.1 75 19), .int v2]) (rest := [.int v3, .int v2]) rfl rfl (fun _ _ => rfl) (c_X12_paceIn (σ.1 75 19) v2 σ) (j_dd rfl hd) rfl (fun v4 => ?_)
  refine j_imul (pc' := 33) rfl rfl ?_
  refine j_iadd (pc' := 34) rfl rfl ?_
  refine j_leti (fun v5 => ?_)
  refine j_istore (pc' := 36) (L' := [some (.ref 75), some (.int l1), some (.int l2), some (.int v2), some (.int v5), none]) rfl rfl rfl ?_
  refine j_iload (pc' := 38) rfl rfl rfl ?_
  refine j_aload_n (pc' := 39) rfl rfl rfl ?_
  refine j_gfr (pc' := 42) (x := 83) rfl rfl j_a75 rfl rfl ?_
  refine j_iload_n (pc' := 43) rfl rfl rfl ?_
  refine j_iald (pc' := 44) rfl rfl j_a83 ?_
  refine j_max (pc' := 47) rfl rfl rfl ?_
  refine j_leti (fun v6 => ?_)
  refine j_istore (pc' := 49) (L' := [some (.ref 75), some (.int l1), some (.int l2), some (.int v2), some (.int v5), some (.int v6)]) rfl rfl rfl ?_
  refine j_iload (pc' := 51) rfl rfl rfl ?_
  refine j_aload_n (pc' := 52) rfl rfl rfl ?_
  refine j_gfr (pc' := 55) (x := 84) rfl rfl j_a75 rfl rfl ?_
  refine j_iload_n (pc' := 56) rfl rfl rfl ?_
  refine j_iald (pc' := 57) rfl rfl j_a84 ?_
  refine j_two (pT := 60) (pF := 62) (L1 := [some (.ref 75), some (.int l1), some (.int l2), some (.int v2), some (.int v5), some (.int v6)]) (st1 := []) (fun o kT kF => ?_) (fun h1 => ?_) (fun h1 => ?_)
  · refine j_icle (t := 62) (pc' := 60) rfl rfl rfl (fun h2 => ?_) (fun h2 => ?_)
    · exact kF h2
    · exact kT h2
  · refine j_iconst (pc' := 61) (x := (0 : Int32)) rfl rfl rfl ?_
    exact j_ret rfl rfl rfl (fun _ h => h)
  · refine j_aload_n (pc' := 63) rfl rfl rfl ?_
    refine j_dup (pc' := 64) rfl rfl rfl ?_
    refine j_gfi (pc' := 67) rfl rfl j_a75 rfl ?_
    refine j_aload_n (pc' := 68) rfl rfl rfl ?_
    refine j_aload_n (pc' := 69) rfl rfl rfl ?_
    refine j_gfi (pc' := 72) rfl rfl j_a75 rfl ?_
    refine j_iload_n (pc' := 73) rfl rfl rfl ?_
    refine j_callPi (pc' := 76) (ai := 248) (vs := [.ref 75, .int (σ.1 75 31), .int l2]) (rest := [.int (σ.1 75 33), .ref 75]) rfl rfl (fun _ _ => rfl) (c_X12_stepsOf (σ.1 75 31) l2 σ) (j_dd rfl hd) rfl (fun v7 => ?_)
    refine j_iadd (pc' := 77) rfl rfl ?_
    refine j_pfi (pc' := 80) rfl rfl j_a75 rfl rfl (fun σ8 => ?_)
    refine j_aload_n (pc' := 81) rfl rfl rfl ?_
    refine j_iload_n (pc' := 82) rfl rfl rfl ?_
    refine j_pfi (pc' := 85) rfl rfl j_a75 rfl rfl (fun σ9 => ?_)
    refine j_aload_n (pc' := 86) rfl rfl rfl ?_
    refine j_iload (pc' := 88) rfl rfl rfl ?_
    refine j_iconst (pc' := 89) (x := (1 : Int32)) rfl rfl rfl ?_
    refine j_iadd (pc' := 90) rfl rfl ?_
    refine j_pfi (pc' := 93) rfl rfl j_a75 rfl rfl (fun σ10 => ?_)
    refine j_aload_n (pc' := 94) rfl rfl rfl ?_
    refine j_gfr (pc' := 97) (x := 85) rfl rfl j_a75 rfl rfl ?_
    refine j_iload_n (pc' := 98) rfl rfl rfl ?_
    refine j_dup2 (pc' := 99) rfl rfl rfl rfl ?_
    refine j_iald (pc' := 100) rfl rfl j_a85 ?_
    refine j_iconst (pc' := 101) (x := (1 : Int32)) rfl rfl rfl ?_
    refine j_iadd (pc' := 102) rfl rfl ?_
    refine j_iast (pc' := 103) rfl rfl j_a85 (fun σ11 => ?_)
    refine j_aload_n (pc' := 104) rfl rfl rfl ?_
    refine j_gfr (pc' := 107) (x := 86) rfl rfl j_a75 rfl rfl ?_
    refine j_iload_n (pc' := 108) rfl rfl rfl ?_
    refine j_iload (pc' := 110) rfl rfl rfl ?_
    refine j_iast (pc' := 111) rfl rfl j_a86 (fun σ12 => ?_)
    refine j_aload_n (pc' := 112) rfl rfl rfl ?_
    refine j_gfr (pc' := 115) (x := 87) rfl rfl j_a75 rfl rfl ?_
    refine j_aload_n (pc' := 116) rfl rfl rfl ?_
    refine j_gfi (pc' := 119) rfl rfl j_a75 rfl ?_
    refine j_iload (pc' := 121) rfl rfl rfl ?_
    refine j_iast (pc' := 122) rfl rfl j_a87 (fun σ13 => ?_)
    refine j_aload_n (pc' := 123) rfl rfl rfl ?_
    refine j_gfr (pc' := 126) (x := 88) rfl rfl j_a75 rfl rfl ?_
    refine j_aload_n (pc' := 127) rfl rfl rfl ?_
    refine j_gfi (pc' := 130) rfl rfl j_a75 rfl ?_
    refine j_iload_n (pc' := 131) rfl rfl rfl ?_
    refine j_iast (pc' := 132) rfl rfl j_a88 (fun σ14 => ?_)
    refine j_aload_n (pc' := 133) rfl rfl rfl ?_
    refine j_dup (pc' := 134) rfl rfl rfl ?_
    refine j_gfi (pc' := 137) rfl rfl j_a75 rfl ?_
    refine j_iconst (pc' := 138) (x := (1 : Int32)) rfl rfl rfl ?_
    refine j_iadd (pc' := 139) rfl rfl ?_
    refine j_pfi (pc' := 142) rfl rfl j_a75 rfl rfl (fun σ15 => ?_)
    refine j_aload_n (pc' := 143) rfl rfl rfl ?_
    refine j_dup (pc' := 144) rfl rfl rfl ?_
    refine j_gfi (pc' := 147) rfl rfl j_a75 rfl ?_
    refine j_aload_n (pc' := 148) rfl rfl rfl ?_
    refine j_iload_n (pc' := 149) rfl rfl rfl ?_
    refine j_iconst (pc' := 150) (x := (2 : Int32)) rfl rfl rfl ?_
    refine j_callPi (pc' := 153) (ai := 238) (vs := [.ref 75, .int l1, .int (2 : Int32)]) (rest := [.int (σ15.1 75 30), .ref 75]) rfl rfl (fun _ _ => rfl) (c_X12_inGame l1 (2 : Int32) σ15) (j_dd rfl hd) rfl (fun v16 => ?_)
    refine j_iadd (pc' := 154) rfl rfl ?_
    refine j_pfi (pc' := 157) rfl rfl j_a75 rfl rfl (fun σ17 => ?_)
    refine j_iconst (pc' := 158) (x := (1 : Int32)) rfl rfl rfl ?_
    exact j_ret rfl rfl rfl (fun _ h => h)

noncomputable def f_X12_goesFor (l1 : Int32) (σ : j_G) : Option j_G :=
  j_b1 (f_X12_inGame l1 (0 : Int32) σ) fun v1 =>
  j_b1 (f_X12_inGame l1 (1 : Int32) σ) fun v2 =>
  if ((f_X12_isHis v1 σ) = 0) ∨ ((f_X12_isHis v2 σ) = 0) then (if ¬ (f_X12_isHis v1 σ) = 0 then (j_b2 (f_X12_goes l1 v1 σ) fun v4 σ3 =>
  some σ3) else (if ¬ (f_X12_isHis v2 σ) = 0 then (j_b2 (f_X12_goes l1 v2 σ) fun v6 σ5 =>
  some σ5) else (some σ))) else (j_b1 (f_X12_stepsOf (σ.1 75 31) v1 σ) fun v7 =>
  j_b1 (f_X12_stepsOf (σ.1 75 31) v2 σ) fun v8 =>
  j_lt (if ¬ v8 < v7 then ((1 : Int32)) else ((0 : Int32))) fun v9 =>
  j_lt (if ¬ v9 = 0 then (v1) else (v2)) fun v10 =>
  j_b2 (f_X12_goes l1 v10 σ) fun v12 σ11 =>
  if ¬ v12 = 0 then (j_lt (if ¬ v9 = 0 then (v2) else (v1)) fun v13 =>
  j_b2 (f_X12_goes l1 v13 σ11) fun v15 σ14 =>
  some σ14) else (some σ11))
theorem c_X12_goesFor (l1 : Int32) (σ : j_G) : j_K false 3 257 [.ref 75, .int l1] σ (f_X12_goesFor l1 σ) j_Rv := by
  refine j_mkK (M := M_cX12_goesFor) (L := [some (.ref 75), some (.int l1), none, none, none]) (m := 3) t_257 rfl (j_rcvO j_a75 rfl) rfl (fun d hd τ => ?_)
  unfold f_X12_goesFor
  refine j_aload_n (pc' := 1) rfl rfl rfl ?_
  refine j_iload_n (pc' := 2) rfl rfl rfl ?_
  refine j_iconst (pc' := 3) (x := (0 : Int32)) rfl rfl rfl ?_
  refine j_callPi (pc' := 6) (ai := 238) (vs := [.ref 75, .int l1, .int (0 : Int32)]) (rest := []) rfl rfl (fun _ _ => rfl) (c_X12_inGame l1 (0 : Int32) σ) (j_dd rfl hd) rfl (fun v1 => ?_)
  refine j_istore_n (pc' := 7) (L' := [some (.ref 75), some (.int l1), some (.int v1), none, none]) rfl rfl rfl ?_
  refine j_aload_n (pc' := 8) rfl rfl rfl ?_
  refine j_iload_n (pc' := 9) rfl rfl rfl ?_
  refine j_iconst (pc' := 10) (x := (1 : Int32)) rfl rfl rfl ?_
  refine j_callPi (pc' := 13) (ai := 238) (vs := [.ref 75, .int l1, .int (1 : Int32)]) (rest := []) rfl rfl (fun _ _ => rfl) (c_X12_inGame l1 (1 : Int32) σ) (j_dd rfl hd) rfl (fun v2 => ?_)
  refine j_istore_n (pc' := 14) (L' := [some (.ref 75), some (.int l1), some (.int v1), some (.int v2), none]) rfl rfl rfl ?_
  refine j_aload_n (pc' := 15) rfl rfl rfl ?_
  refine j_iload_n (pc' := 16) rfl rfl rfl ?_
  refine j_callTi (pc' := 19) (ai := 256) (vs := [.ref 75, .int v1]) (rest := []) rfl rfl (fun _ _ => rfl) (c_X12_isHis v1 σ) (j_dd rfl hd) rfl ?_
  refine j_two (pT := 30) (pF := 64) (L1 := [some (.ref 75), some (.int l1), some (.int v1), some (.int v2), none]) (st1 := []) (fun o kT kF => ?_) (fun h13 => ?_) (fun h13 => ?_)
  · refine j_ifeq (t := 30) (pc' := 22) rfl rfl rfl (fun h14 => ?_) (fun h14 => ?_)
    · exact kT (Or.inl h14)
    · refine j_aload_n (pc' := 23) rfl rfl rfl ?_
      refine j_iload_n (pc' := 24) rfl rfl rfl ?_
      refine j_callTi (pc' := 27) (ai := 256) (vs := [.ref 75, .int v2]) (rest := []) rfl rfl (fun _ _ => rfl) (c_X12_isHis v2 σ) (j_dd rfl hd) rfl ?_
      refine j_ifne (t := 64) (pc' := 30) rfl rfl rfl (fun h15 => ?_) (fun h15 => ?_)
      · exact kF (fun z => z.elim h14 (h15))
      · exact kT (Or.inr (h15))
  · refine j_aload_n (pc' := 31) rfl rfl rfl ?_
    refine j_iload_n (pc' := 32) rfl rfl rfl ?_
    refine j_callTi (pc' := 35) (ai := 256) (vs := [.ref 75, .int v1]) (rest := []) rfl rfl (fun _ _ => rfl) (c_X12_isHis v1 σ) (j_dd rfl hd) rfl ?_
    refine j_two (pT := 38) (pF := 48) (L1 := [some (.ref 75), some (.int l1), some (.int v1), some (.int v2), none]) (st1 := []) (fun o kT kF => ?_) (fun h3 => ?_) (fun h3 => ?_)
    · refine j_ifeq (t := 48) (pc' := 38) rfl rfl rfl (fun h4 => ?_) (fun h4 => ?_)
      · exact kF (fun z => z h4)
      · exact kT h4
    · refine j_aload_n (pc' := 39) rfl rfl rfl ?_
      refine j_iload_n (pc' := 40) rfl rfl rfl ?_
      refine j_iload_n (pc' := 41) rfl rfl rfl ?_
      refine j_callRi (pc' := 44) (ai := 255) (vs := [.ref 75, .int l1, .int v1]) (rest := []) rfl rfl (fun _ _ => rfl) (c_X12_goes l1 v1 σ) (j_dd rfl hd) rfl (fun v4 σ3 => ?_)
      refine j_pop (pc' := 45) rfl rfl rfl ?_
      refine j_goto (t := 63) rfl rfl ?_
      exact j_ret rfl rfl rfl (fun _ h => h)
    · refine j_aload_n (pc' := 49) rfl rfl rfl ?_
      refine j_iload_n (pc' := 50) rfl rfl rfl ?_
      refine j_callTi (pc' := 53) (ai := 256) (vs := [.ref 75, .int v2]) (rest := []) rfl rfl (fun _ _ => rfl) (c_X12_isHis v2 σ) (j_dd rfl hd) rfl ?_
      refine j_two (pT := 56) (pF := 63) (L1 := [some (.ref 75), some (.int l1), some (.int v1), some (.int v2), none]) (st1 := []) (fun o kT kF => ?_) (fun h1 => ?_) (fun h1 => ?_)
      · refine j_ifeq (t := 63) (pc' := 56) rfl rfl rfl (fun h2 => ?_) (fun h2 => ?_)
        · exact kF (fun z => z h2)
        · exact kT h2
      · refine j_aload_n (pc' := 57) rfl rfl rfl ?_
        refine j_iload_n (pc' := 58) rfl rfl rfl ?_
        refine j_iload_n (pc' := 59) rfl rfl rfl ?_
        refine j_callRi (pc' := 62) (ai := 255) (vs := [.ref 75, .int l1, .int v2]) (rest := []) rfl rfl (fun _ _ => rfl) (c_X12_goes l1 v2 σ) (j_dd rfl hd) rfl (fun v6 σ5 => ?_)
        refine j_pop (pc' := 63) rfl rfl rfl ?_
        exact j_ret rfl rfl rfl (fun _ h => h)
      · exact j_ret rfl rfl rfl (fun _ h => h)
  · refine j_aload_n (pc' := 65) rfl rfl rfl ?_
    refine j_aload_n (pc' := 66) rfl rfl rfl ?_
    refine j_gfi (pc' := 69) rfl rfl j_a75 rfl ?_
    refine j_iload_n (pc' := 70) rfl rfl rfl ?_
    refine j_callPi (pc' := 73) (ai := 248) (vs := [.ref 75, .int (σ.1 75 31), .int v1]) (rest := []) rfl rfl (fun _ _ => rfl) (c_X12_stepsOf (σ.1 75 31) v1 σ) (j_dd rfl hd) rfl (fun v7 => ?_)
    refine j_aload_n (pc' := 74) rfl rfl rfl ?_
    refine j_aload_n (pc' := 75) rfl rfl rfl ?_
    refine j_gfi (pc' := 78) rfl rfl j_a75 rfl ?_
    refine j_iload_n (pc' := 79) rfl rfl rfl ?_
    refine j_callPi (pc' := 82) (ai := 248) (vs := [.ref 75, .int (σ.1 75 31), .int v2]) (rest := [.int v7]) rfl rfl (fun _ _ => rfl) (c_X12_stepsOf (σ.1 75 31) v2 σ) (j_dd rfl hd) rfl (fun v8 => ?_)
    refine j_ql (Φl := (fun r Q => j_Tr false τ M_cX12_goesFor d 90 [some (.ref 75), some (.int l1), some (.int v1), some (.int v2), none] [.int r] σ Q)) ?_ (fun v9 => ?_)
    · refine j_twoT (pT := 85) (pF := 89) (L1 := [some (.ref 75), some (.int l1), some (.int v1), some (.int v2), none]) (st1 := []) (fun o kT kF => ?_) (fun h5 => ?_) (fun h5 => ?_)
      · refine j_icgt (t := 89) (pc' := 85) rfl rfl rfl (fun h6 => ?_) (fun h6 => ?_)
        · exact kF (fun z => z h6)
        · exact kT h6
      · refine j_iconst (pc' := 86) (x := (1 : Int32)) rfl rfl rfl ?_
        refine j_goto (t := 90) rfl rfl ?_
        exact j_end (fun _ h => h)
      · refine j_iconst (pc' := 90) (x := (0 : Int32)) rfl rfl rfl ?_
        exact j_end (fun _ h => h)
    show j_J false τ M_cX12_goesFor d 90 [some (.ref 75), some (.int l1), some (.int v1), some (.int v2), none] [.int v9] σ _ _
    refine j_istore (pc' := 92) (L' := [some (.ref 75), some (.int l1), some (.int v1), some (.int v2), some (.int v9)]) rfl rfl rfl ?_
    refine j_aload_n (pc' := 93) rfl rfl rfl ?_
    refine j_iload_n (pc' := 94) rfl rfl rfl ?_
    refine j_iload (pc' := 96) rfl rfl rfl ?_
    refine j_ql (Φl := (fun r Q => j_Tr false τ M_cX12_goesFor d 104 [some (.ref 75), some (.int l1), some (.int v1), some (.int v2), some (.int v9)] [.int r, .int l1, .ref 75] σ Q)) ?_ (fun v10 => ?_)
    · refine j_twoT (pT := 99) (pF := 103) (L1 := [some (.ref 75), some (.int l1), some (.int v1), some (.int v2), some (.int v9)]) (st1 := [.int l1, .ref 75]) (fun o kT kF => ?_) (fun h7 => ?_) (fun h7 => ?_)
      · refine j_ifeq (t := 103) (pc' := 99) rfl rfl rfl (fun h8 => ?_) (fun h8 => ?_)
        · exact kF (fun z => z h8)
        · exact kT h8
      · refine j_iload_n (pc' := 100) rfl rfl rfl ?_
        refine j_goto (t := 104) rfl rfl ?_
        exact j_end (fun _ h => h)
      · refine j_iload_n (pc' := 104) rfl rfl rfl ?_
        exact j_end (fun _ h => h)
    show j_J false τ M_cX12_goesFor d 104 [some (.ref 75), some (.int l1), some (.int v1), some (.int v2), some (.int v9)] [.int v10, .int l1, .ref 75] σ _ _
    refine j_callRi (pc' := 107) (ai := 255) (vs := [.ref 75, .int l1, .int v10]) (rest := []) rfl rfl (fun _ _ => rfl) (c_X12_goes l1 v10 σ) (j_dd rfl hd) rfl (fun v12 σ11 => ?_)
    refine j_two (pT := 110) (pF := 126) (L1 := [some (.ref 75), some (.int l1), some (.int v1), some (.int v2), some (.int v9)]) (st1 := []) (fun o kT kF => ?_) (fun h11 => ?_) (fun h11 => ?_)
    · refine j_ifeq (t := 126) (pc' := 110) rfl rfl rfl (fun h12 => ?_) (fun h12 => ?_)
      · exact kF (fun z => z h12)
      · exact kT h12
    · refine j_aload_n (pc' := 111) rfl rfl rfl ?_
      refine j_iload_n (pc' := 112) rfl rfl rfl ?_
      refine j_iload (pc' := 114) rfl rfl rfl ?_
      refine j_ql (Φl := (fun r Q => j_Tr false τ M_cX12_goesFor d 122 [none, none, none, none, none] [.int r, .int l1, .ref 75] σ11 Q)) ?_ (fun v13 => ?_)
      · refine j_twoT (pT := 117) (pF := 121) (L1 := [some (.ref 75), some (.int l1), some (.int v1), some (.int v2), some (.int v9)]) (st1 := [.int l1, .ref 75]) (fun o kT kF => ?_) (fun h9 => ?_) (fun h9 => ?_)
        · refine j_ifeq (t := 121) (pc' := 117) rfl rfl rfl (fun h10 => ?_) (fun h10 => ?_)
          · exact kF (fun z => z h10)
          · exact kT h10
        · refine j_iload_n (pc' := 118) rfl rfl rfl ?_
          refine j_goto (t := 122) rfl rfl ?_
          refine j_wk [false, false, false, false, false] (L' := [none, none, none, none, none]) rfl ?_
          exact j_end (fun _ h => h)
        · refine j_iload_n (pc' := 122) rfl rfl rfl ?_
          refine j_wk [false, false, false, false, false] (L' := [none, none, none, none, none]) rfl ?_
          exact j_end (fun _ h => h)
      show j_J false τ M_cX12_goesFor d 122 [none, none, none, none, none] [.int v13, .int l1, .ref 75] σ11 _ _
      refine j_callRi (pc' := 125) (ai := 255) (vs := [.ref 75, .int l1, .int v13]) (rest := []) rfl rfl (fun _ _ => rfl) (c_X12_goes l1 v13 σ11) (j_dd rfl hd) rfl (fun v15 σ14 => ?_)
      refine j_pop (pc' := 126) rfl rfl rfl ?_
      exact j_ret rfl rfl rfl (fun _ h => h)
    · exact j_ret rfl rfl rfl (fun _ h => h)

noncomputable def p_X12_run_30 : Nat → Int32 → j_G → Option j_G
  | 0, _, _ => none
  | n + 1, l1, σ =>
    if l1 < (σ.1 75 18) then (j_ix l1 60 (
    j_lt (j_si σ 85 (l1).toNatClampNeg (0 : Int32)) fun σ1 =>
    j_ix l1 60 (
    j_lt (j_si σ1 86 (l1).toNatClampNeg (-1 : Int32)) fun σ2 =>
    j_b1 (f_X12_inGame l1 (2 : Int32) σ2) fun v3 =>
    j_b1 (if (v3 = 0) ∨ (¬ (σ2.1 75 24) = 0) then (j_b1 (f_X12_goesFor l1 σ2) fun σ5 =>
    some σ5) else (some σ2)) fun σ4 =>
    p_X12_run_30 n (l1 + (1 : Int32)) σ4))) else (some σ)

noncomputable def f_X12_run (σ : j_G) : Option j_G :=
  j_lt (j_si σ 75 29 (0 : Int32)) fun σ1 =>
  j_lt (j_si σ1 75 30 (0 : Int32)) fun σ2 =>
  j_lt (j_si σ2 75 33 (0 : Int32)) fun σ3 =>
  j_lt (j_si σ3 75 32 (0 : Int32)) fun σ4 =>
  j_lt (j_si σ4 75 31 (σ4.1 75 22)) fun σ5 =>
  j_b1 (p_X12_run_30 j_F (0 : Int32) σ5) fun σ6 =>
  some σ6
theorem l_X12_run_30 {d : Nat} (hd : 4 ≤ d) (τ : j_G) : ∀ (n : Nat) (l1 : Int32) (σ : j_G), j_J false τ M_cX12_run d 30 [some (.ref 75), some (.int l1)] [] σ (p_X12_run_30 n l1 σ) (fun r Q => j_Tr false τ M_cX12_run d 79 [none, none] [] r Q) := by
  intro n
  induction n with
  | zero => intro l1 σ; exact j_none
  | succ n ih =>
    intro l1 σ
    unfold p_X12_run_30
    refine j_iload_n (pc' := 31) rfl rfl rfl ?_
    refine j_aload_n (pc' := 32) rfl rfl rfl ?_
    refine j_gfi (pc' := 35) rfl rfl j_a75 rfl ?_
    refine j_two (pT := 38) (pF := 79) (L1 := [some (.ref 75), some (.int l1)]) (st1 := []) (fun o kT kF => ?_) (fun h4 => ?_) (fun h4 => ?_)
    · refine j_icge (t := 79) (pc' := 38) rfl rfl rfl (fun h5 => ?_) (fun h5 => ?_)
      · exact kF h5
      · exact kT h5
    · refine j_aload_n (pc' := 39) rfl rfl rfl ?_
      refine j_gfr (pc' := 42) (x := 85) rfl rfl j_a75 rfl rfl ?_
      refine j_iload_n (pc' := 43) rfl rfl rfl ?_
      refine j_iconst (pc' := 44) (x := (0 : Int32)) rfl rfl rfl ?_
      refine j_iast (pc' := 45) rfl rfl j_a85 (fun σ1 => ?_)
      refine j_aload_n (pc' := 46) rfl rfl rfl ?_
      refine j_gfr (pc' := 49) (x := 86) rfl rfl j_a75 rfl rfl ?_
      refine j_iload_n (pc' := 50) rfl rfl rfl ?_
      refine j_iconst (pc' := 51) (x := (-1 : Int32)) rfl rfl rfl ?_
      refine j_iast (pc' := 52) rfl rfl j_a86 (fun σ2 => ?_)
      refine j_aload_n (pc' := 53) rfl rfl rfl ?_
      refine j_iload_n (pc' := 54) rfl rfl rfl ?_
      refine j_iconst (pc' := 55) (x := (2 : Int32)) rfl rfl rfl ?_
      refine j_callPi (pc' := 58) (ai := 238) (vs := [.ref 75, .int l1, .int (2 : Int32)]) (rest := []) rfl rfl (fun _ _ => rfl) (c_X12_inGame l1 (2 : Int32) σ2) (j_dd rfl hd) rfl (fun v3 => ?_)
      refine j_q1 (Φl := (fun r Q => j_Tr false τ M_cX12_run d 73 [some (.ref 75), some (.int l1)] [] r Q)) ?_ (fun σ4 => ?_)
      · refine j_two (pT := 68) (pF := 73) (L1 := [some (.ref 75), some (.int l1)]) (st1 := []) (fun o kT kF => ?_) (fun h1 => ?_) (fun h1 => ?_)
        · refine j_ifeq (t := 68) (pc' := 61) rfl rfl rfl (fun h2 => ?_) (fun h2 => ?_)
          · exact kT (Or.inl h2)
          · refine j_aload_n (pc' := 62) rfl rfl rfl ?_
            refine j_gfi (pc' := 65) rfl rfl j_a75 rfl ?_
            refine j_ifeq (t := 73) (pc' := 68) rfl rfl rfl (fun h3 => ?_) (fun h3 => ?_)
            · exact kF (fun z => z.elim h2 (fun z => z h3))
            · exact kT (Or.inr (h3))
        · refine j_aload_n (pc' := 69) rfl rfl rfl ?_
          refine j_iload_n (pc' := 70) rfl rfl rfl ?_
          refine j_callRv (pc' := 73) (ai := 257) (vs := [.ref 75, .int l1]) (rest := []) rfl rfl (fun _ _ => rfl) (c_X12_goesFor l1 σ2) (j_dd rfl hd) rfl (fun σ5 => ?_)
          exact j_end (fun _ h => h)
        · exact j_end (fun _ h => h)
      show j_J false τ M_cX12_run d 73 [some (.ref 75), some (.int l1)] [] σ4 _ _
      refine j_iincx (pc' := 76) (y := (1 : Int32)) (L' := [some (.ref 75), some (.int (l1 + (1 : Int32)))]) rfl rfl rfl rfl rfl ?_
      refine j_goto (t := 30) rfl rfl ?_
      exact ih (l1 + (1 : Int32)) σ4
    · refine j_wk [false, false] (L' := [none, none]) rfl ?_
      exact j_end (fun _ h => h)

theorem c_X12_run (σ : j_G) : j_K false 4 258 [.ref 75] σ (f_X12_run σ) j_Rv := by
  refine j_mkK (M := M_cX12_run) (L := [some (.ref 75), none]) (m := 1) t_258 rfl (j_rcvO j_a75 rfl) rfl (fun d hd τ => ?_)
  unfold f_X12_run
  refine j_aload_n (pc' := 1) rfl rfl rfl ?_
  refine j_iconst (pc' := 2) (x := (0 : Int32)) rfl rfl rfl ?_
  refine j_pfi (pc' := 5) rfl rfl j_a75 rfl rfl (fun σ1 => ?_)
  refine j_aload_n (pc' := 6) rfl rfl rfl ?_
  refine j_iconst (pc' := 7) (x := (0 : Int32)) rfl rfl rfl ?_
  refine j_pfi (pc' := 10) rfl rfl j_a75 rfl rfl (fun σ2 => ?_)
  refine j_aload_n (pc' := 11) rfl rfl rfl ?_
  refine j_iconst (pc' := 12) (x := (0 : Int32)) rfl rfl rfl ?_
  refine j_pfi (pc' := 15) rfl rfl j_a75 rfl rfl (fun σ3 => ?_)
  refine j_aload_n (pc' := 16) rfl rfl rfl ?_
  refine j_iconst (pc' := 17) (x := (0 : Int32)) rfl rfl rfl ?_
  refine j_pfi (pc' := 20) rfl rfl j_a75 rfl rfl (fun σ4 => ?_)
  refine j_aload_n (pc' := 21) rfl rfl rfl ?_
  refine j_aload_n (pc' := 22) rfl rfl rfl ?_
  refine j_gfi (pc' := 25) rfl rfl j_a75 rfl ?_
  refine j_pfi (pc' := 28) rfl rfl j_a75 rfl rfl (fun σ5 => ?_)
  refine j_iconst (pc' := 29) (x := (0 : Int32)) rfl rfl rfl ?_
  refine j_istore_n (pc' := 30) (L' := [some (.ref 75), some (.int (0 : Int32))]) rfl rfl rfl ?_
  refine j_q1 (l_X12_run_30 hd τ j_F (0 : Int32) σ5) (fun σ6 => ?_)
  show j_J false τ M_cX12_run d 79 [none, none] [] σ6 _ _
  exact j_ret rfl rfl rfl (fun _ h => h)

noncomputable def f_X12_runAsTold (l1 : Int32) (σ : j_G) : Option j_G :=
  j_b1 (f_X12_lay σ) fun σ1 =>
  j_b1 (f_X12_asTold l1 σ1) fun σ2 =>
  j_b1 (f_X12_run σ2) fun σ3 =>
  some σ3
theorem c_X12_runAsTold (l1 : Int32) (σ : j_G) : j_K false 5 259 [.ref 75, .int l1] σ (f_X12_runAsTold l1 σ) j_Rv := by
  refine j_mkK (M := M_cX12_runAsTold) (L := [some (.ref 75), some (.int l1)]) (m := 0) t_259 rfl (j_rcvO j_a75 rfl) rfl (fun d hd τ => ?_)
  unfold f_X12_runAsTold
  refine j_aload_n (pc' := 1) rfl rfl rfl ?_
  refine j_callRv (pc' := 4) (ai := 237) (vs := [.ref 75]) (rest := []) rfl rfl (fun _ _ => rfl) (c_X12_lay  σ) (j_dd rfl hd) rfl (fun σ1 => ?_)
  refine j_aload_n (pc' := 5) rfl rfl rfl ?_
  refine j_iload_n (pc' := 6) rfl rfl rfl ?_
  refine j_callRv (pc' := 9) (ai := 252) (vs := [.ref 75, .int l1]) (rest := []) rfl rfl (fun _ _ => rfl) (c_X12_asTold l1 σ1) (j_dd rfl hd) rfl (fun σ2 => ?_)
  refine j_aload_n (pc' := 10) rfl rfl rfl ?_
  refine j_callRv (pc' := 13) (ai := 258) (vs := [.ref 75]) (rest := []) rfl rfl (fun _ _ => rfl) (c_X12_run  σ2) (j_dd rfl hd) rfl (fun σ3 => ?_)
  exact j_ret rfl rfl rfl (fun _ h => h)

noncomputable def f_X12_hits (l1 : Int32) (σ : j_G) : Option (Int32 × j_G) :=
  j_b1 (f_X12_isPlayer l1 σ) fun v1 =>
  if v1 = 0 then (some ((-2 : Int32), σ)) else (j_b1 (f_X12_runAsTold l1 σ) fun σ2 =>
  some ((σ2.1 75 29), σ2))
theorem c_X12_hits (l1 : Int32) (σ : j_G) : j_K false 6 260 [.ref 75, .int l1] σ (f_X12_hits l1 σ) j_Ri := by
  refine j_mkK (M := M_cX12_hits) (L := [some (.ref 75), some (.int l1)]) (m := 0) t_260 rfl (j_rcvO j_a75 rfl) rfl (fun d hd τ => ?_)
  unfold f_X12_hits
  refine j_aload_n (pc' := 1) rfl rfl rfl ?_
  refine j_iload_n (pc' := 2) rfl rfl rfl ?_
  refine j_callPi (pc' := 5) (ai := 205) (vs := [.ref 75, .int l1]) (rest := []) rfl rfl (fun _ _ => rfl) (c_X12_isPlayer l1 σ) (j_dd rfl hd) rfl (fun v1 => ?_)
  refine j_two (pT := 8) (pF := 11) (L1 := [some (.ref 75), some (.int l1)]) (st1 := []) (fun o kT kF => ?_) (fun h1 => ?_) (fun h1 => ?_)
  · refine j_ifne (t := 11) (pc' := 8) rfl rfl rfl (fun h2 => ?_) (fun h2 => ?_)
    · exact kF h2
    · exact kT h2
  · refine j_bipush (pc' := 10) (x := (-2 : Int32)) rfl rfl rfl ?_
    exact j_ret rfl rfl rfl (fun _ h => h)
  · refine j_aload_n (pc' := 12) rfl rfl rfl ?_
    refine j_iload_n (pc' := 13) rfl rfl rfl ?_
    refine j_callRv (pc' := 16) (ai := 259) (vs := [.ref 75, .int l1]) (rest := []) rfl rfl (fun _ _ => rfl) (c_X12_runAsTold l1 σ) (j_dd rfl hd) rfl (fun σ2 => ?_)
    refine j_aload_n (pc' := 17) rfl rfl rfl ?_
    refine j_gfi (pc' := 20) rfl rfl j_a75 rfl ?_
    exact j_ret rfl rfl rfl (fun _ h => h)

noncomputable def f_X11_hit (l1 : Int32) (l2 : Int32) (σ : j_G) : Option (Int32 × j_G) :=
  j_b2 (f_X11_runOf l1 σ) fun v2 σ1 =>
  if v2 = 0 then (some ((-2 : Int32), σ1)) else (if ¬ (f_X4_has l2 σ1) = 0 then (j_ix l2 60 (
  some ((σ1.1 31 (l2).toNatClampNeg), σ1))) else (some ((-1 : Int32), σ1)))
theorem c_X11_hit (l1 : Int32) (l2 : Int32) (σ : j_G) : j_K true 6 128 [.ref 0, .int l1, .int l2] σ (f_X11_hit l1 l2 σ) j_Ri := by
  refine j_mkK (M := M_cX11_hit) (L := [some (.ref 0), some (.int l1), some (.int l2)]) (m := 0) t_128 rfl (j_rcvO j_a0 rfl) rfl (fun d hd τ => ?_)
  unfold f_X11_hit
  refine j_aload_n (pc' := 1) rfl rfl rfl ?_
  refine j_iload_n (pc' := 2) rfl rfl rfl ?_
  refine j_callRi (pc' := 5) (ai := 187) (vs := [.ref 0, .int l1]) (rest := []) rfl rfl (fun _ _ => rfl) (c_X11_runOf l1 σ) (j_dd rfl hd) rfl (fun v2 σ1 => ?_)
  refine j_two (pT := 8) (pF := 11) (L1 := [some (.ref 0), some (.int l1), some (.int l2)]) (st1 := []) (fun o kT kF => ?_) (fun h3 => ?_) (fun h3 => ?_)
  · refine j_ifne (t := 11) (pc' := 8) rfl rfl rfl (fun h4 => ?_) (fun h4 => ?_)
    · exact kF h4
    · exact kT h4
  · refine j_bipush (pc' := 10) (x := (-2 : Int32)) rfl rfl rfl ?_
    exact j_ret rfl rfl rfl (fun _ h => h)
  · refine j_aload_n (pc' := 12) rfl rfl rfl ?_
    refine j_gfr (pc' := 15) (x := 22) rfl rfl j_a0 rfl rfl ?_
    refine j_iload_n (pc' := 16) rfl rfl rfl ?_
    refine j_callTi (pc' := 19) (ai := 41) (vs := [.ref 22, .int l2]) (rest := []) rfl rfl (fun _ _ => rfl) (c_X4_has l2 σ1) (j_dd rfl hd) rfl ?_
    refine j_two (pT := 22) (pF := 34) (L1 := [some (.ref 0), some (.int l1), some (.int l2)]) (st1 := []) (fun o kT kF => ?_) (fun h1 => ?_) (fun h1 => ?_)
    · refine j_ifeq (t := 34) (pc' := 22) rfl rfl rfl (fun h2 => ?_) (fun h2 => ?_)
      · exact kF (fun z => z h2)
      · exact kT h2
    · refine j_aload_n (pc' := 23) rfl rfl rfl ?_
      refine j_gfr (pc' := 26) (x := 30) rfl rfl j_a0 rfl rfl ?_
      refine j_gfr (pc' := 29) (x := 31) rfl rfl j_a30 rfl rfl ?_
      refine j_iload_n (pc' := 30) rfl rfl rfl ?_
      refine j_iald (pc' := 31) rfl rfl j_a31 ?_
      refine j_goto (t := 35) rfl rfl ?_
      exact j_ret rfl rfl rfl (fun _ h => h)
    · refine j_iconst (pc' := 35) (x := (-1 : Int32)) rfl rfl rfl ?_
      exact j_ret rfl rfl rfl (fun _ h => h)

noncomputable def f_X12_hit (l1 : Int32) (l2 : Int32) (σ : j_G) : Option (Int32 × j_G) :=
  j_b1 (f_X12_isPlayer l1 σ) fun v1 =>
  if v1 = 0 then (some ((-2 : Int32), σ)) else (j_b1 (f_X12_runAsTold l1 σ) fun σ2 =>
  if ¬ (f_X12_isInGame l2 σ2) = 0 then (j_ix l2 60 (
  some ((σ2.1 86 (l2).toNatClampNeg), σ2))) else (some ((-1 : Int32), σ2)))
theorem c_X12_hit (l1 : Int32) (l2 : Int32) (σ : j_G) : j_K false 6 261 [.ref 75, .int l1, .int l2] σ (f_X12_hit l1 l2 σ) j_Ri := by
  refine j_mkK (M := M_cX12_hit) (L := [some (.ref 75), some (.int l1), some (.int l2)]) (m := 0) t_261 rfl (j_rcvO j_a75 rfl) rfl (fun d hd τ => ?_)
  unfold f_X12_hit
  refine j_aload_n (pc' := 1) rfl rfl rfl ?_
  refine j_iload_n (pc' := 2) rfl rfl rfl ?_
  refine j_callPi (pc' := 5) (ai := 205) (vs := [.ref 75, .int l1]) (rest := []) rfl rfl (fun _ _ => rfl) (c_X12_isPlayer l1 σ) (j_dd rfl hd) rfl (fun v1 => ?_)
  refine j_two (pT := 8) (pF := 11) (L1 := [some (.ref 75), some (.int l1), some (.int l2)]) (st1 := []) (fun o kT kF => ?_) (fun h3 => ?_) (fun h3 => ?_)
  · refine j_ifne (t := 11) (pc' := 8) rfl rfl rfl (fun h4 => ?_) (fun h4 => ?_)
    · exact kF h4
    · exact kT h4
  · refine j_bipush (pc' := 10) (x := (-2 : Int32)) rfl rfl rfl ?_
    exact j_ret rfl rfl rfl (fun _ h => h)
  · refine j_aload_n (pc' := 12) rfl rfl rfl ?_
    refine j_iload_n (pc' := 13) rfl rfl rfl ?_
    refine j_callRv (pc' := 16) (ai := 259) (vs := [.ref 75, .int l1]) (rest := []) rfl rfl (fun _ _ => rfl) (c_X12_runAsTold l1 σ) (j_dd rfl hd) rfl (fun σ2 => ?_)
    refine j_aload_n (pc' := 17) rfl rfl rfl ?_
    refine j_iload_n (pc' := 18) rfl rfl rfl ?_
    refine j_callTi (pc' := 21) (ai := 243) (vs := [.ref 75, .int l2]) (rest := []) rfl rfl (fun _ _ => rfl) (c_X12_isInGame l2 σ2) (j_dd rfl hd) rfl ?_
    refine j_two (pT := 24) (pF := 33) (L1 := [some (.ref 75), some (.int l1), some (.int l2)]) (st1 := []) (fun o kT kF => ?_) (fun h1 => ?_) (fun h1 => ?_)
    · refine j_ifeq (t := 33) (pc' := 24) rfl rfl rfl (fun h2 => ?_) (fun h2 => ?_)
      · exact kF (fun z => z h2)
      · exact kT h2
    · refine j_aload_n (pc' := 25) rfl rfl rfl ?_
      refine j_gfr (pc' := 28) (x := 86) rfl rfl j_a75 rfl rfl ?_
      refine j_iload_n (pc' := 29) rfl rfl rfl ?_
      refine j_iald (pc' := 30) rfl rfl j_a86 ?_
      refine j_goto (t := 34) rfl rfl ?_
      exact j_ret rfl rfl rfl (fun _ h => h)
    · refine j_iconst (pc' := 34) (x := (-1 : Int32)) rfl rfl rfl ?_
      exact j_ret rfl rfl rfl (fun _ h => h)

noncomputable def f_X11_twice (l1 : Int32) (l2 : Int32) (σ : j_G) : Option (Int32 × j_G) :=
  j_b2 (f_X11_runOf l1 σ) fun v2 σ1 =>
  if v2 = 0 then (some ((-2 : Int32), σ1)) else (if ¬ (f_X4_has l2 σ1) = 0 then (j_ix l2 60 (
  some ((σ1.1 32 (l2).toNatClampNeg), σ1))) else (some ((-1 : Int32), σ1)))
theorem c_X11_twice (l1 : Int32) (l2 : Int32) (σ : j_G) : j_K true 6 129 [.ref 0, .int l1, .int l2] σ (f_X11_twice l1 l2 σ) j_Ri := by
  refine j_mkK (M := M_cX11_twice) (L := [some (.ref 0), some (.int l1), some (.int l2)]) (m := 0) t_129 rfl (j_rcvO j_a0 rfl) rfl (fun d hd τ => ?_)
  unfold f_X11_twice
  refine j_aload_n (pc' := 1) rfl rfl rfl ?_
  refine j_iload_n (pc' := 2) rfl rfl rfl ?_
  refine j_callRi (pc' := 5) (ai := 187) (vs := [.ref 0, .int l1]) (rest := []) rfl rfl (fun _ _ => rfl) (c_X11_runOf l1 σ) (j_dd rfl hd) rfl (fun v2 σ1 => ?_)
  refine j_two (pT := 8) (pF := 11) (L1 := [some (.ref 0), some (.int l1), some (.int l2)]) (st1 := []) (fun o kT kF => ?_) (fun h3 => ?_) (fun h3 => ?_)
  · refine j_ifne (t := 11) (pc' := 8) rfl rfl rfl (fun h4 => ?_) (fun h4 => ?_)
    · exact kF h4
    · exact kT h4
  · refine j_bipush (pc' := 10) (x := (-2 : Int32)) rfl rfl rfl ?_
    exact j_ret rfl rfl rfl (fun _ h => h)
  · refine j_aload_n (pc' := 12) rfl rfl rfl ?_
    refine j_gfr (pc' := 15) (x := 22) rfl rfl j_a0 rfl rfl ?_
    refine j_iload_n (pc' := 16) rfl rfl rfl ?_
    refine j_callTi (pc' := 19) (ai := 41) (vs := [.ref 22, .int l2]) (rest := []) rfl rfl (fun _ _ => rfl) (c_X4_has l2 σ1) (j_dd rfl hd) rfl ?_
    refine j_two (pT := 22) (pF := 34) (L1 := [some (.ref 0), some (.int l1), some (.int l2)]) (st1 := []) (fun o kT kF => ?_) (fun h1 => ?_) (fun h1 => ?_)
    · refine j_ifeq (t := 34) (pc' := 22) rfl rfl rfl (fun h2 => ?_) (fun h2 => ?_)
      · exact kF (fun z => z h2)
      · exact kT h2
    · refine j_aload_n (pc' := 23) rfl rfl rfl ?_
      refine j_gfr (pc' := 26) (x := 30) rfl rfl j_a0 rfl rfl ?_
      refine j_gfr (pc' := 29) (x := 32) rfl rfl j_a30 rfl rfl ?_
      refine j_iload_n (pc' := 30) rfl rfl rfl ?_
      refine j_iald (pc' := 31) rfl rfl j_a32 ?_
      refine j_goto (t := 35) rfl rfl ?_
      exact j_ret rfl rfl rfl (fun _ h => h)
    · refine j_iconst (pc' := 35) (x := (-1 : Int32)) rfl rfl rfl ?_
      exact j_ret rfl rfl rfl (fun _ h => h)

noncomputable def f_X12_twice (l1 : Int32) (l2 : Int32) (σ : j_G) : Option (Int32 × j_G) :=
  j_b1 (f_X12_isPlayer l1 σ) fun v1 =>
  if v1 = 0 then (some ((-2 : Int32), σ)) else (j_b1 (f_X12_runAsTold l1 σ) fun σ2 =>
  if ¬ (f_X12_isInGame l2 σ2) = 0 then (j_ix l2 60 (
  some ((σ2.1 85 (l2).toNatClampNeg), σ2))) else (some ((-1 : Int32), σ2)))
theorem c_X12_twice (l1 : Int32) (l2 : Int32) (σ : j_G) : j_K false 6 262 [.ref 75, .int l1, .int l2] σ (f_X12_twice l1 l2 σ) j_Ri := by
  refine j_mkK (M := M_cX12_twice) (L := [some (.ref 75), some (.int l1), some (.int l2)]) (m := 0) t_262 rfl (j_rcvO j_a75 rfl) rfl (fun d hd τ => ?_)
  unfold f_X12_twice
  refine j_aload_n (pc' := 1) rfl rfl rfl ?_
  refine j_iload_n (pc' := 2) rfl rfl rfl ?_
  refine j_callPi (pc' := 5) (ai := 205) (vs := [.ref 75, .int l1]) (rest := []) rfl rfl (fun _ _ => rfl) (c_X12_isPlayer l1 σ) (j_dd rfl hd) rfl (fun v1 => ?_)
  refine j_two (pT := 8) (pF := 11) (L1 := [some (.ref 75), some (.int l1), some (.int l2)]) (st1 := []) (fun o kT kF => ?_) (fun h3 => ?_) (fun h3 => ?_)
  · refine j_ifne (t := 11) (pc' := 8) rfl rfl rfl (fun h4 => ?_) (fun h4 => ?_)
    · exact kF h4
    · exact kT h4
  · refine j_bipush (pc' := 10) (x := (-2 : Int32)) rfl rfl rfl ?_
    exact j_ret rfl rfl rfl (fun _ h => h)
  · refine j_aload_n (pc' := 12) rfl rfl rfl ?_
    refine j_iload_n (pc' := 13) rfl rfl rfl ?_
    refine j_callRv (pc' := 16) (ai := 259) (vs := [.ref 75, .int l1]) (rest := []) rfl rfl (fun _ _ => rfl) (c_X12_runAsTold l1 σ) (j_dd rfl hd) rfl (fun σ2 => ?_)
    refine j_aload_n (pc' := 17) rfl rfl rfl ?_
    refine j_iload_n (pc' := 18) rfl rfl rfl ?_
    refine j_callTi (pc' := 21) (ai := 243) (vs := [.ref 75, .int l2]) (rest := []) rfl rfl (fun _ _ => rfl) (c_X12_isInGame l2 σ2) (j_dd rfl hd) rfl ?_
    refine j_two (pT := 24) (pF := 33) (L1 := [some (.ref 75), some (.int l1), some (.int l2)]) (st1 := []) (fun o kT kF => ?_) (fun h1 => ?_) (fun h1 => ?_)
    · refine j_ifeq (t := 33) (pc' := 24) rfl rfl rfl (fun h2 => ?_) (fun h2 => ?_)
      · exact kF (fun z => z h2)
      · exact kT h2
    · refine j_aload_n (pc' := 25) rfl rfl rfl ?_
      refine j_gfr (pc' := 28) (x := 85) rfl rfl j_a75 rfl rfl ?_
      refine j_iload_n (pc' := 29) rfl rfl rfl ?_
      refine j_iald (pc' := 30) rfl rfl j_a85 ?_
      refine j_goto (t := 34) rfl rfl ?_
      exact j_ret rfl rfl rfl (fun _ h => h)
    · refine j_iconst (pc' := 34) (x := (-1 : Int32)) rfl rfl rfl ?_
      exact j_ret rfl rfl rfl (fun _ h => h)

noncomputable def p_X9_holeBehind_5 (l1 : Int32) (σ : j_G) : Nat → Int32 → Int32 → Option Int32
  | 0, _, _ => none
  | n + 1, l3, l4 =>
    if l4 < (σ.1 30 0) then (j_ix l4 120 (
    if ¬ l1 < (σ.1 33 (l4).toNatClampNeg) then (j_ix l4 120 (
    j_lt (σ.1 34 (l4).toNatClampNeg) fun v1 =>
    p_X9_holeBehind_5 l1 σ n v1 (l4 + (1 : Int32)))) else (some l3))) else (some l3)

noncomputable def f_X9_holeBehind (l1 : Int32) (l2 : Int32) (σ : j_G) : Option Int32 :=
  j_b1 (p_X9_holeBehind_5 l1 σ j_F l2 (0 : Int32)) fun v1 =>
  some v1
theorem l_X9_holeBehind_5 {d : Nat} (hd : 0 ≤ d) (τ : j_G) (l1 : Int32) (σ : j_G) : ∀ (n : Nat) (l3 : Int32) (l4 : Int32), j_J true τ M_cX9_holeBehind d 5 [some (.ref 30), some (.int l1), none, some (.int l3), some (.int l4)] [] σ (p_X9_holeBehind_5 l1 σ n l3 l4) (fun r Q => j_Tr true τ M_cX9_holeBehind d 39 [none, none, none, some (.int r), none] [] σ Q) := by
  intro n
  induction n with
  | zero => intro l3 l4; exact j_none
  | succ n ih =>
    intro l3 l4
    unfold p_X9_holeBehind_5
    refine j_iload (pc' := 7) rfl rfl rfl ?_
    refine j_aload_n (pc' := 8) rfl rfl rfl ?_
    refine j_gfi (pc' := 11) rfl rfl j_a30 rfl ?_
    refine j_two (pT := 14) (pF := 39) (L1 := [some (.ref 30), some (.int l1), none, some (.int l3), some (.int l4)]) (st1 := []) (fun o kT kF => ?_) (fun h3 => ?_) (fun h3 => ?_)
    · refine j_icge (t := 39) (pc' := 14) rfl rfl rfl (fun h4 => ?_) (fun h4 => ?_)
      · exact kF h4
      · exact kT h4
    · refine j_aload_n (pc' := 15) rfl rfl rfl ?_
      refine j_gfr (pc' := 18) (x := 33) rfl rfl j_a30 rfl rfl ?_
      refine j_iload (pc' := 20) rfl rfl rfl ?_
      refine j_iald (pc' := 21) rfl rfl j_a33 ?_
      refine j_iload_n (pc' := 22) rfl rfl rfl ?_
      refine j_two (pT := 25) (pF := 39) (L1 := [some (.ref 30), some (.int l1), none, some (.int l3), some (.int l4)]) (st1 := []) (fun o kT kF => ?_) (fun h1 => ?_) (fun h1 => ?_)
      · refine j_icgt (t := 39) (pc' := 25) rfl rfl rfl (fun h2 => ?_) (fun h2 => ?_)
        · exact kF (fun z => z h2)
        · exact kT h2
      · refine j_aload_n (pc' := 26) rfl rfl rfl ?_
        refine j_gfr (pc' := 29) (x := 34) rfl rfl j_a30 rfl rfl ?_
        refine j_iload (pc' := 31) rfl rfl rfl ?_
        refine j_iald (pc' := 32) rfl rfl j_a34 ?_
        refine j_leti (fun v1 => ?_)
        refine j_istore_n (pc' := 33) (L' := [some (.ref 30), some (.int l1), none, some (.int v1), some (.int l4)]) rfl rfl rfl ?_
        refine j_iincx (pc' := 36) (y := (1 : Int32)) (L' := [some (.ref 30), some (.int l1), none, some (.int v1), some (.int (l4 + (1 : Int32)))]) rfl rfl rfl rfl rfl ?_
        refine j_goto (t := 5) rfl rfl ?_
        exact ih v1 (l4 + (1 : Int32))
      · refine j_wk [false, false, true, true, false] (L' := [none, none, none, some (.int l3), none]) rfl ?_
        exact j_end (fun _ h => h)
    · refine j_wk [false, false, true, true, false] (L' := [none, none, none, some (.int l3), none]) rfl ?_
      exact j_end (fun _ h => h)

theorem c_X9_holeBehind (l1 : Int32) (l2 : Int32) (σ : j_G) : j_K true 0 106 [.ref 30, .int l1, .int l2] σ (f_X9_holeBehind l1 l2 σ) (j_Pi σ) := by
  refine j_mkK (M := M_cX9_holeBehind) (L := [some (.ref 30), some (.int l1), some (.int l2), none, none]) (m := 2) t_106 rfl (j_rcvO j_a30 rfl) rfl (fun d hd τ => ?_)
  unfold f_X9_holeBehind
  refine j_iload_n (pc' := 1) rfl rfl rfl ?_
  refine j_istore_n (pc' := 2) (L' := [some (.ref 30), some (.int l1), some (.int l2), some (.int l2), none]) rfl rfl rfl ?_
  refine j_iconst (pc' := 3) (x := (0 : Int32)) rfl rfl rfl ?_
  refine j_istore (pc' := 5) (L' := [some (.ref 30), some (.int l1), some (.int l2), some (.int l2), some (.int (0 : Int32))]) rfl rfl rfl ?_
  refine j_wk [true, true, false, true, true] (L' := [some (.ref 30), some (.int l1), none, some (.int l2), some (.int (0 : Int32))]) rfl ?_
  refine j_q1 (l_X9_holeBehind_5 hd τ l1 σ j_F l2 (0 : Int32)) (fun v1 => ?_)
  show j_J true τ M_cX9_holeBehind d 39 [none, none, none, some (.int v1), none] [] σ _ _
  refine j_iload_n (pc' := 40) rfl rfl rfl ?_
  exact j_ret rfl rfl rfl (fun _ h => h)

noncomputable def f_X11_where (l1 : Int32) (l2 : Int32) (σ : j_G) : Option (Int32 × j_G) :=
  if ¬ (f_X2_isTick 1 l2 σ) = 0 then (j_b2 (f_X11_runOf l1 σ) fun v2 σ1 =>
  if v2 = 0 then (some ((-2 : Int32), σ1)) else (j_b1 (f_X9_holeBehind l2 (σ1.1 28 4) σ1) fun v3 =>
  some (v3, σ1))) else (some ((-2 : Int32), σ))
theorem c_X11_where (l1 : Int32) (l2 : Int32) (σ : j_G) : j_K true 6 130 [.ref 0, .int l1, .int l2] σ (f_X11_where l1 l2 σ) j_Ri := by
  refine j_mkK (M := M_cX11_where) (L := [some (.ref 0), some (.int l1), some (.int l2)]) (m := 0) t_130 rfl (j_rcvO j_a0 rfl) rfl (fun d hd τ => ?_)
  unfold f_X11_where
  refine j_aload_n (pc' := 1) rfl rfl rfl ?_
  refine j_gfr (pc' := 4) (x := 1) rfl rfl j_a0 rfl rfl ?_
  refine j_iload_n (pc' := 5) rfl rfl rfl ?_
  refine j_callTi (pc' := 8) (ai := 14) (vs := [.ref 1, .int l2]) (rest := []) rfl rfl (fun _ _ => rfl) (c_X2_isTick_1 l2 σ) (j_dd rfl hd) rfl ?_
  refine j_two (pT := 11) (pF := 19) (L1 := [some (.ref 0), some (.int l1), some (.int l2)]) (st1 := []) (fun o kT kF => ?_) (fun h3 => ?_) (fun h3 => ?_)
  · refine j_ifeq (t := 19) (pc' := 11) rfl rfl rfl (fun h4 => ?_) (fun h4 => ?_)
    · exact kF (fun z => z h4)
    · exact kT h4
  · refine j_aload_n (pc' := 12) rfl rfl rfl ?_
    refine j_iload_n (pc' := 13) rfl rfl rfl ?_
    refine j_callRi (pc' := 16) (ai := 187) (vs := [.ref 0, .int l1]) (rest := []) rfl rfl (fun _ _ => rfl) (c_X11_runOf l1 σ) (j_dd rfl hd) rfl (fun v2 σ1 => ?_)
    refine j_two (pT := 19) (pF := 22) (L1 := [some (.ref 0), some (.int l1), some (.int l2)]) (st1 := []) (fun o kT kF => ?_) (fun h1 => ?_) (fun h1 => ?_)
    · refine j_ifne (t := 22) (pc' := 19) rfl rfl rfl (fun h2 => ?_) (fun h2 => ?_)
      · exact kF h2
      · exact kT h2
    · refine j_bipush (pc' := 21) (x := (-2 : Int32)) rfl rfl rfl ?_
      exact j_ret rfl rfl rfl (fun _ h => h)
    · refine j_aload_n (pc' := 23) rfl rfl rfl ?_
      refine j_gfr (pc' := 26) (x := 30) rfl rfl j_a0 rfl rfl ?_
      refine j_iload_n (pc' := 27) rfl rfl rfl ?_
      refine j_aload_n (pc' := 28) rfl rfl rfl ?_
      refine j_gfr (pc' := 31) (x := 28) rfl rfl j_a0 rfl rfl ?_
      refine j_gfi (pc' := 34) rfl rfl j_a28 rfl ?_
      refine j_callPi (pc' := 37) (ai := 106) (vs := [.ref 30, .int l2, .int (σ1.1 28 4)]) (rest := []) rfl rfl (fun _ _ => rfl) (c_X9_holeBehind l2 (σ1.1 28 4) σ1) (j_dd rfl hd) rfl (fun v3 => ?_)
      exact j_ret rfl rfl rfl (fun _ h => h)
  · refine j_bipush (pc' := 21) (x := (-2 : Int32)) rfl rfl rfl ?_
    exact j_ret rfl rfl rfl (fun _ h => h)

noncomputable def p_X12_where_33 (l2 : Int32) (σ : j_G) : Nat → Int32 → Int32 → Option Int32
  | 0, _, _ => none
  | n + 1, l3, l4 =>
    if l4 < (σ.1 75 29) then (j_ix l4 120 (
    j_b1 (if ¬ l2 < (σ.1 87 (l4).toNatClampNeg) then (j_ix l4 120 (
    some (σ.1 88 (l4).toNatClampNeg))) else (some l3)) fun v1 =>
    p_X12_where_33 l2 σ n v1 (l4 + (1 : Int32)))) else (some l3)

noncomputable def f_X12_where (l1 : Int32) (l2 : Int32) (σ : j_G) : Option (Int32 × j_G) :=
  j_b1 (f_X12_isPlayer l1 σ) fun v1 =>
  if ¬ v1 = 0 then (j_b1 (f_X12_isTick (l2).toInt64 σ) fun v2 =>
  if v2 = 0 then (some ((-2 : Int32), σ)) else (j_b1 (f_X12_runAsTold l1 σ) fun σ3 =>
  j_lt (σ3.1 75 22) fun v4 =>
  j_b1 (p_X12_where_33 l2 σ3 j_F v4 (0 : Int32)) fun v5 =>
  some (v5, σ3))) else (some ((-2 : Int32), σ))
theorem l_X12_where_33 {d : Nat} (hd : 6 ≤ d) (τ : j_G) (l2 : Int32) (σ : j_G) : ∀ (n : Nat) (l3 : Int32) (l4 : Int32), j_J false τ M_cX12_where d 33 [some (.ref 75), none, some (.int l2), some (.int l3), some (.int l4)] [] σ (p_X12_where_33 l2 σ n l3 l4) (fun r Q => j_Tr false τ M_cX12_where d 71 [none, none, none, some (.int r), none] [] σ Q) := by
  intro n
  induction n with
  | zero => intro l3 l4; exact j_none
  | succ n ih =>
    intro l3 l4
    unfold p_X12_where_33
    refine j_iload (pc' := 35) rfl rfl rfl ?_
    refine j_aload_n (pc' := 36) rfl rfl rfl ?_
    refine j_gfi (pc' := 39) rfl rfl j_a75 rfl ?_
    refine j_two (pT := 42) (pF := 71) (L1 := [some (.ref 75), none, some (.int l2), some (.int l3), some (.int l4)]) (st1 := []) (fun o kT kF => ?_) (fun h3 => ?_) (fun h3 => ?_)
    · refine j_icge (t := 71) (pc' := 42) rfl rfl rfl (fun h4 => ?_) (fun h4 => ?_)
      · exact kF h4
      · exact kT h4
    · refine j_aload_n (pc' := 43) rfl rfl rfl ?_
      refine j_gfr (pc' := 46) (x := 87) rfl rfl j_a75 rfl rfl ?_
      refine j_iload (pc' := 48) rfl rfl rfl ?_
      refine j_iald (pc' := 49) rfl rfl j_a87 ?_
      refine j_iload_n (pc' := 50) rfl rfl rfl ?_
      refine j_q1 (Φl := (fun r Q => j_Tr false τ M_cX12_where d 64 [some (.ref 75), none, some (.int l2), none, some (.int l4)] [.int r] σ Q)) ?_ (fun v1 => ?_)
      · refine j_two (pT := 53) (pF := 63) (L1 := [some (.ref 75), none, some (.int l2), some (.int l3), some (.int l4)]) (st1 := []) (fun o kT kF => ?_) (fun h1 => ?_) (fun h1 => ?_)
        · refine j_icgt (t := 63) (pc' := 53) rfl rfl rfl (fun h2 => ?_) (fun h2 => ?_)
          · exact kF (fun z => z h2)
          · exact kT h2
        · refine j_aload_n (pc' := 54) rfl rfl rfl ?_
          refine j_gfr (pc' := 57) (x := 88) rfl rfl j_a75 rfl rfl ?_
          refine j_iload (pc' := 59) rfl rfl rfl ?_
          refine j_iald (pc' := 60) rfl rfl j_a88 ?_
          refine j_goto (t := 64) rfl rfl ?_
          refine j_wk [true, true, true, false, true] (L' := [some (.ref 75), none, some (.int l2), none, some (.int l4)]) rfl ?_
          exact j_end (fun _ h => h)
        · refine j_iload_n (pc' := 64) rfl rfl rfl ?_
          refine j_wk [true, true, true, false, true] (L' := [some (.ref 75), none, some (.int l2), none, some (.int l4)]) rfl ?_
          exact j_end (fun _ h => h)
      show j_J false τ M_cX12_where d 64 [some (.ref 75), none, some (.int l2), none, some (.int l4)] [.int v1] σ _ _
      refine j_istore_n (pc' := 65) (L' := [some (.ref 75), none, some (.int l2), some (.int v1), some (.int l4)]) rfl rfl rfl ?_
      refine j_iincx (pc' := 68) (y := (1 : Int32)) (L' := [some (.ref 75), none, some (.int l2), some (.int v1), some (.int (l4 + (1 : Int32)))]) rfl rfl rfl rfl rfl ?_
      refine j_goto (t := 33) rfl rfl ?_
      exact ih v1 (l4 + (1 : Int32))
    · refine j_wk [false, true, false, true, false] (L' := [none, none, none, some (.int l3), none]) rfl ?_
      exact j_end (fun _ h => h)

theorem c_X12_where (l1 : Int32) (l2 : Int32) (σ : j_G) : j_K false 6 263 [.ref 75, .int l1, .int l2] σ (f_X12_where l1 l2 σ) j_Ri := by
  refine j_mkK (M := M_cX12_where) (L := [some (.ref 75), some (.int l1), some (.int l2), none, none]) (m := 2) t_263 rfl (j_rcvO j_a75 rfl) rfl (fun d hd τ => ?_)
  unfold f_X12_where
  refine j_aload_n (pc' := 1) rfl rfl rfl ?_
  refine j_iload_n (pc' := 2) rfl rfl rfl ?_
  refine j_callPi (pc' := 5) (ai := 205) (vs := [.ref 75, .int l1]) (rest := []) rfl rfl (fun _ _ => rfl) (c_X12_isPlayer l1 σ) (j_dd rfl hd) rfl (fun v1 => ?_)
  refine j_two (pT := 8) (pF := 17) (L1 := [some (.ref 75), some (.int l1), some (.int l2), none, none]) (st1 := []) (fun o kT kF => ?_) (fun h3 => ?_) (fun h3 => ?_)
  · refine j_ifeq (t := 17) (pc' := 8) rfl rfl rfl (fun h4 => ?_) (fun h4 => ?_)
    · exact kF (fun z => z h4)
    · exact kT h4
  · refine j_aload_n (pc' := 9) rfl rfl rfl ?_
    refine j_iload_n (pc' := 10) rfl rfl rfl ?_
    refine j_i2l (pc' := 11) rfl rfl ?_
    refine j_callPi (pc' := 14) (ai := 203) (vs := [.ref 75, .long (l2).toInt64]) (rest := []) rfl rfl (fun _ _ => rfl) (c_X12_isTick (l2).toInt64 σ) (j_dd rfl hd) rfl (fun v2 => ?_)
    refine j_two (pT := 17) (pF := 20) (L1 := [some (.ref 75), some (.int l1), some (.int l2), none, none]) (st1 := []) (fun o kT kF => ?_) (fun h1 => ?_) (fun h1 => ?_)
    · refine j_ifne (t := 20) (pc' := 17) rfl rfl rfl (fun h2 => ?_) (fun h2 => ?_)
      · exact kF h2
      · exact kT h2
    · refine j_bipush (pc' := 19) (x := (-2 : Int32)) rfl rfl rfl ?_
      exact j_ret rfl rfl rfl (fun _ h => h)
    · refine j_aload_n (pc' := 21) rfl rfl rfl ?_
      refine j_iload_n (pc' := 22) rfl rfl rfl ?_
      refine j_callRv (pc' := 25) (ai := 259) (vs := [.ref 75, .int l1]) (rest := []) rfl rfl (fun _ _ => rfl) (c_X12_runAsTold l1 σ) (j_dd rfl hd) rfl (fun σ3 => ?_)
      refine j_aload_n (pc' := 26) rfl rfl rfl ?_
      refine j_gfi (pc' := 29) rfl rfl j_a75 rfl ?_
      refine j_leti (fun v4 => ?_)
      refine j_istore_n (pc' := 30) (L' := [some (.ref 75), some (.int l1), some (.int l2), some (.int v4), none]) rfl rfl rfl ?_
      refine j_iconst (pc' := 31) (x := (0 : Int32)) rfl rfl rfl ?_
      refine j_istore (pc' := 33) (L' := [some (.ref 75), some (.int l1), some (.int l2), some (.int v4), some (.int (0 : Int32))]) rfl rfl rfl ?_
      refine j_wk [true, false, true, true, true] (L' := [some (.ref 75), none, some (.int l2), some (.int v4), some (.int (0 : Int32))]) rfl ?_
      refine j_q1 (l_X12_where_33 hd τ l2 σ3 j_F v4 (0 : Int32)) (fun v5 => ?_)
      show j_J false τ M_cX12_where d 71 [none, none, none, some (.int v5), none] [] σ3 _ _
      refine j_iload_n (pc' := 72) rfl rfl rfl ?_
      exact j_ret rfl rfl rfl (fun _ h => h)
  · refine j_bipush (pc' := 19) (x := (-2 : Int32)) rfl rfl rfl ?_
    exact j_ret rfl rfl rfl (fun _ h => h)

noncomputable def f_J6_bitCount_0f7a4 (l0 : Int32) : Int32 :=
  j_lt (l0 - (((l0).toUInt32 >>> (((1 : Int32)).toUInt32 &&& Int32.toUInt32 31)).toInt32 &&& (1431655765 : Int32))) fun v1 =>
  j_lt ((v1 &&& (858993459 : Int32)) + (((v1).toUInt32 >>> (((2 : Int32)).toUInt32 &&& Int32.toUInt32 31)).toInt32 &&& (858993459 : Int32))) fun v2 =>
  j_lt ((v2 + ((v2).toUInt32 >>> (((4 : Int32)).toUInt32 &&& Int32.toUInt32 31)).toInt32) &&& (252645135 : Int32)) fun v3 =>
  j_lt (v3 + ((v3).toUInt32 >>> (((8 : Int32)).toUInt32 &&& Int32.toUInt32 31)).toInt32) fun v4 =>
  j_lt (v4 + ((v4).toUInt32 >>> (((16 : Int32)).toUInt32 &&& Int32.toUInt32 31)).toInt32) fun v5 =>
  (v5 &&& (63 : Int32))
theorem c_J6_bitCount_0f7a4 (l0 : Int32) (σ : j_G) : j_K true 0 356 [.int l0] σ (some (f_J6_bitCount_0f7a4 l0)) (j_Pi σ) := by
  refine j_mkK (M := M_cJ6_bitCount_0f7a4) (L := [some (.int l0)]) (m := 0) t_356 rfl (j_rcvS rfl) rfl (fun d hd τ => ?_)
  unfold f_J6_bitCount_0f7a4
  refine j_iload_n (pc' := 1) rfl rfl rfl ?_
  refine j_iload_n (pc' := 2) rfl rfl rfl ?_
  refine j_iconst (pc' := 3) (x := (1 : Int32)) rfl rfl rfl ?_
  refine j_iushr (pc' := 4) rfl rfl ?_
  refine j_ldc_w (pc' := 7) (x := (1431655765 : Int32)) rfl rfl rfl ?_
  refine j_iand (pc' := 8) rfl rfl ?_
  refine j_isub (pc' := 9) rfl rfl ?_
  refine j_letiT (fun v1 => ?_)
  refine j_istore_n (pc' := 10) (L' := [some (.int v1)]) rfl rfl rfl ?_
  refine j_iload_n (pc' := 11) rfl rfl rfl ?_
  refine j_ldc_w (pc' := 14) (x := (858993459 : Int32)) rfl rfl rfl ?_
  refine j_iand (pc' := 15) rfl rfl ?_
  refine j_iload_n (pc' := 16) rfl rfl rfl ?_
  refine j_iconst (pc' := 17) (x := (2 : Int32)) rfl rfl rfl ?_
  refine j_iushr (pc' := 18) rfl rfl ?_
  refine j_ldc_w (pc' := 21) (x := (858993459 : Int32)) rfl rfl rfl ?_
  refine j_iand (pc' := 22) rfl rfl ?_
  refine j_iadd (pc' := 23) rfl rfl ?_
  refine j_letiT (fun v2 => ?_)
  refine j_istore_n (pc' := 24) (L' := [some (.int v2)]) rfl rfl rfl ?_
  refine j_iload_n (pc' := 25) rfl rfl rfl ?_
  refine j_iload_n (pc' := 26) rfl rfl rfl ?_
  refine j_iconst (pc' := 27) (x := (4 : Int32)) rfl rfl rfl ?_
  refine j_iushr (pc' := 28) rfl rfl ?_
  refine j_iadd (pc' := 29) rfl rfl ?_
  refine j_ldc_w (pc' := 32) (x := (252645135 : Int32)) rfl rfl rfl ?_
  refine j_iand (pc' := 33) rfl rfl ?_
  refine j_letiT (fun v3 => ?_)
  refine j_istore_n (pc' := 34) (L' := [some (.int v3)]) rfl rfl rfl ?_
  refine j_iload_n (pc' := 35) rfl rfl rfl ?_
  refine j_iload_n (pc' := 36) rfl rfl rfl ?_
  refine j_bipush (pc' := 38) (x := (8 : Int32)) rfl rfl rfl ?_
  refine j_iushr (pc' := 39) rfl rfl ?_
  refine j_iadd (pc' := 40) rfl rfl ?_
  refine j_letiT (fun v4 => ?_)
  refine j_istore_n (pc' := 41) (L' := [some (.int v4)]) rfl rfl rfl ?_
  refine j_iload_n (pc' := 42) rfl rfl rfl ?_
  refine j_iload_n (pc' := 43) rfl rfl rfl ?_
  refine j_bipush (pc' := 45) (x := (16 : Int32)) rfl rfl rfl ?_
  refine j_iushr (pc' := 46) rfl rfl ?_
  refine j_iadd (pc' := 47) rfl rfl ?_
  refine j_letiT (fun v5 => ?_)
  refine j_istore_n (pc' := 48) (L' := [some (.int v5)]) rfl rfl rfl ?_
  refine j_iload_n (pc' := 49) rfl rfl rfl ?_
  refine j_bipush (pc' := 51) (x := (63 : Int32)) rfl rfl rfl ?_
  refine j_iand (pc' := 52) rfl rfl ?_
  exact j_ret rfl rfl rfl (fun _ h => h)

noncomputable def p_X9_firstMissed_2 (σ : j_G) : Nat → Int32 → Option Int32
  | 0, _ => none
  | n + 1, l2 =>
    if l2 < (σ.1 22 0) then (j_ix l2 60 (
    j_lt (p_X9_firstMissed_2 σ n (l2 + (1 : Int32))) fun (k1 : Option Int32) =>
    if (σ.1 25 (l2).toNatClampNeg) = 0 then (j_ix l2 60 (
    j_b1 (f_X4_holesOf l2 σ) fun v2 =>
    if (σ.1 32 (l2).toNatClampNeg) < (f_J6_bitCount_0f7a4 v2) then (some l2) else (k1))) else (k1))) else (some (-1 : Int32))

noncomputable def f_X9_firstMissed (σ : j_G) : Option Int32 :=
  p_X9_firstMissed_2 σ j_F (0 : Int32)
theorem l_X9_firstMissed_2 {d : Nat} (hd : 2 ≤ d) (τ : j_G) (σ : j_G) : ∀ (n : Nat) (l2 : Int32), j_J true τ M_cX9_firstMissed d 2 [some (.ref 30), some (.ref 22), some (.int l2)] [] σ (p_X9_firstMissed_2 σ n l2) (j_Pi σ) := by
  intro n
  induction n with
  | zero => intro l2; exact j_none
  | succ n ih =>
    intro l2
    unfold p_X9_firstMissed_2
    refine j_iload_n (pc' := 3) rfl rfl rfl ?_
    refine j_aload_n (pc' := 4) rfl rfl rfl ?_
    refine j_gfi (pc' := 7) rfl rfl j_a22 rfl ?_
    refine j_two (pT := 10) (pF := 44) (L1 := [some (.ref 30), some (.ref 22), some (.int l2)]) (st1 := []) (fun o kT kF => ?_) (fun h5 => ?_) (fun h5 => ?_)
    · refine j_icge (t := 44) (pc' := 10) rfl rfl rfl (fun h6 => ?_) (fun h6 => ?_)
      · exact kF h6
      · exact kT h6
    · refine j_aload_n (pc' := 11) rfl rfl rfl ?_
      refine j_gfr (pc' := 14) (x := 25) rfl rfl j_a22 rfl rfl ?_
      refine j_iload_n (pc' := 15) rfl rfl rfl ?_
      refine j_iald (pc' := 16) rfl rfl j_a25 ?_
      refine j_jn (P := (fun k => j_J true τ M_cX9_firstMissed d 38 [some (.ref 30), some (.ref 22), some (.int l2)] [] σ (k ) (j_Pi σ))) ?_ (fun k1 k1_h => ?_)
      · refine j_iincx (pc' := 41) (y := (1 : Int32)) (L' := [some (.ref 30), some (.ref 22), some (.int (l2 + (1 : Int32)))]) rfl rfl rfl rfl rfl ?_
        refine j_goto (t := 2) rfl rfl ?_
        exact ih (l2 + (1 : Int32))
      · refine j_two (pT := 19) (pF := 38) (L1 := [some (.ref 30), some (.ref 22), some (.int l2)]) (st1 := []) (fun o kT kF => ?_) (fun h3 => ?_) (fun h3 => ?_)
        · refine j_ifne (t := 38) (pc' := 19) rfl rfl rfl (fun h4 => ?_) (fun h4 => ?_)
          · exact kF h4
          · exact kT h4
        · refine j_aload_n (pc' := 20) rfl rfl rfl ?_
          refine j_gfr (pc' := 23) (x := 32) rfl rfl j_a30 rfl rfl ?_
          refine j_iload_n (pc' := 24) rfl rfl rfl ?_
          refine j_iald (pc' := 25) rfl rfl j_a32 ?_
          refine j_aload_n (pc' := 26) rfl rfl rfl ?_
          refine j_iload_n (pc' := 27) rfl rfl rfl ?_
          refine j_callPi (pc' := 30) (ai := 49) (vs := [.ref 22, .int l2]) (rest := [.int (σ.1 32 (l2).toNatClampNeg)]) rfl rfl (fun _ _ => rfl) (c_X4_holesOf l2 σ) (j_dd rfl hd) rfl (fun v2 => ?_)
          refine j_callTi (pc' := 33) (ai := 356) (vs := [.int v2]) (rest := [.int (σ.1 32 (l2).toNatClampNeg)]) rfl rfl (fun _ _ => rfl) (c_J6_bitCount_0f7a4 v2 σ) (j_dd rfl hd) rfl ?_
          refine j_two (pT := 36) (pF := 38) (L1 := [some (.ref 30), some (.ref 22), some (.int l2)]) (st1 := []) (fun o kT kF => ?_) (fun h1 => ?_) (fun h1 => ?_)
          · refine j_icge (t := 38) (pc' := 36) rfl rfl rfl (fun h2 => ?_) (fun h2 => ?_)
            · exact kF h2
            · exact kT h2
          · refine j_iload_n (pc' := 37) rfl rfl rfl ?_
            exact j_ret rfl rfl rfl (fun _ h => h)
          · exact k1_h 
        · exact k1_h 
    · refine j_iconst (pc' := 45) (x := (-1 : Int32)) rfl rfl rfl ?_
      exact j_ret rfl rfl rfl (fun _ h => h)

theorem c_X9_firstMissed (σ : j_G) : j_K true 2 107 [.ref 30, .ref 22] σ (f_X9_firstMissed σ) (j_Pi σ) := by
  refine j_mkK (M := M_cX9_firstMissed) (L := [some (.ref 30), some (.ref 22), none]) (m := 1) t_107 rfl (j_rcvO j_a30 rfl) rfl (fun d hd τ => ?_)
  unfold f_X9_firstMissed
  refine j_iconst (pc' := 1) (x := (0 : Int32)) rfl rfl rfl ?_
  refine j_istore_n (pc' := 2) (L' := [some (.ref 30), some (.ref 22), some (.int (0 : Int32))]) rfl rfl rfl ?_
  exact (l_X9_firstMissed_2 hd τ σ j_F (0 : Int32))

noncomputable def f_X11_missed (l1 : Int32) (σ : j_G) : Option (Int32 × j_G) :=
  j_b2 (f_X11_runOf l1 σ) fun v2 σ1 =>
  if ¬ v2 = 0 then (j_b1 (f_X9_firstMissed σ1) fun v3 =>
  some (v3, σ1)) else (some ((-2 : Int32), σ1))
theorem c_X11_missed (l1 : Int32) (σ : j_G) : j_K true 6 131 [.ref 0, .int l1] σ (f_X11_missed l1 σ) j_Ri := by
  refine j_mkK (M := M_cX11_missed) (L := [some (.ref 0), some (.int l1)]) (m := 0) t_131 rfl (j_rcvO j_a0 rfl) rfl (fun d hd τ => ?_)
  unfold f_X11_missed
  refine j_aload_n (pc' := 1) rfl rfl rfl ?_
  refine j_iload_n (pc' := 2) rfl rfl rfl ?_
  refine j_callRi (pc' := 5) (ai := 187) (vs := [.ref 0, .int l1]) (rest := []) rfl rfl (fun _ _ => rfl) (c_X11_runOf l1 σ) (j_dd rfl hd) rfl (fun v2 σ1 => ?_)
  refine j_two (pT := 8) (pF := 22) (L1 := [some (.ref 0), some (.int l1)]) (st1 := []) (fun o kT kF => ?_) (fun h1 => ?_) (fun h1 => ?_)
  · refine j_ifeq (t := 22) (pc' := 8) rfl rfl rfl (fun h2 => ?_) (fun h2 => ?_)
    · exact kF (fun z => z h2)
    · exact kT h2
  · refine j_aload_n (pc' := 9) rfl rfl rfl ?_
    refine j_gfr (pc' := 12) (x := 30) rfl rfl j_a0 rfl rfl ?_
    refine j_aload_n (pc' := 13) rfl rfl rfl ?_
    refine j_gfr (pc' := 16) (x := 22) rfl rfl j_a0 rfl rfl ?_
    refine j_callPi (pc' := 19) (ai := 107) (vs := [.ref 30, .ref 22]) (rest := []) rfl rfl (fun _ _ => rfl) (c_X9_firstMissed  σ1) (j_dd rfl hd) rfl (fun v3 => ?_)
    refine j_goto (t := 24) rfl rfl ?_
    exact j_ret rfl rfl rfl (fun _ h => h)
  · refine j_bipush (pc' := 24) (x := (-2 : Int32)) rfl rfl rfl ?_
    exact j_ret rfl rfl rfl (fun _ h => h)

noncomputable def p_X12_missed_18 (σ : j_G) : Nat → Int32 → Option (Int32 × j_G)
  | 0, _ => none
  | n + 1, l2 =>
    if l2 < (σ.1 75 18) then (j_b1 (f_X12_inGame l2 (2 : Int32) σ) fun v1 =>
    j_lt (p_X12_missed_18 σ n (l2 + (1 : Int32))) fun (k2 : Option (Int32 × j_G)) =>
    if v1 = 0 then (j_ix l2 60 (
    j_b1 (f_X12_inGame l2 (1 : Int32) σ) fun v3 =>
    j_lt (if v3 = (-1 : Int32) then ((1 : Int32)) else ((2 : Int32))) fun v4 =>
    if (σ.1 85 (l2).toNatClampNeg) < v4 then (some (l2, σ)) else (k2))) else (k2)) else (some ((-1 : Int32), σ))

noncomputable def f_X12_missed (l1 : Int32) (σ : j_G) : Option (Int32 × j_G) :=
  j_b1 (f_X12_isPlayer l1 σ) fun v1 =>
  if v1 = 0 then (some ((-2 : Int32), σ)) else (j_b1 (f_X12_runAsTold l1 σ) fun σ2 =>
  p_X12_missed_18 σ2 j_F (0 : Int32))
theorem l_X12_missed_18 {d : Nat} (hd : 6 ≤ d) (τ : j_G) (σ : j_G) : ∀ (n : Nat) (l2 : Int32), j_J false τ M_cX12_missed d 18 [some (.ref 75), none, some (.int l2)] [] σ (p_X12_missed_18 σ n l2) j_Ri := by
  intro n
  induction n with
  | zero => intro l2; exact j_none
  | succ n ih =>
    intro l2
    unfold p_X12_missed_18
    refine j_iload_n (pc' := 19) rfl rfl rfl ?_
    refine j_aload_n (pc' := 20) rfl rfl rfl ?_
    refine j_gfi (pc' := 23) rfl rfl j_a75 rfl ?_
    refine j_two (pT := 26) (pF := 67) (L1 := [some (.ref 75), none, some (.int l2)]) (st1 := []) (fun o kT kF => ?_) (fun h7 => ?_) (fun h7 => ?_)
    · refine j_icge (t := 67) (pc' := 26) rfl rfl rfl (fun h8 => ?_) (fun h8 => ?_)
      · exact kF h8
      · exact kT h8
    · refine j_aload_n (pc' := 27) rfl rfl rfl ?_
      refine j_iload_n (pc' := 28) rfl rfl rfl ?_
      refine j_iconst (pc' := 29) (x := (2 : Int32)) rfl rfl rfl ?_
      refine j_callPi (pc' := 32) (ai := 238) (vs := [.ref 75, .int l2, .int (2 : Int32)]) (rest := []) rfl rfl (fun _ _ => rfl) (c_X12_inGame l2 (2 : Int32) σ) (j_dd rfl hd) rfl (fun v1 => ?_)
      refine j_jn (P := (fun k => j_J false τ M_cX12_missed d 61 [some (.ref 75), none, some (.int l2)] [] σ (k ) j_Ri)) ?_ (fun k2 k2_h => ?_)
      · refine j_iincx (pc' := 64) (y := (1 : Int32)) (L' := [some (.ref 75), none, some (.int (l2 + (1 : Int32)))]) rfl rfl rfl rfl rfl ?_
        refine j_goto (t := 18) rfl rfl ?_
        exact ih (l2 + (1 : Int32))
      · refine j_two (pT := 35) (pF := 61) (L1 := [some (.ref 75), none, some (.int l2)]) (st1 := []) (fun o kT kF => ?_) (fun h5 => ?_) (fun h5 => ?_)
        · refine j_ifne (t := 61) (pc' := 35) rfl rfl rfl (fun h6 => ?_) (fun h6 => ?_)
          · exact kF h6
          · exact kT h6
        · refine j_aload_n (pc' := 36) rfl rfl rfl ?_
          refine j_gfr (pc' := 39) (x := 85) rfl rfl j_a75 rfl rfl ?_
          refine j_iload_n (pc' := 40) rfl rfl rfl ?_
          refine j_iald (pc' := 41) rfl rfl j_a85 ?_
          refine j_aload_n (pc' := 42) rfl rfl rfl ?_
          refine j_iload_n (pc' := 43) rfl rfl rfl ?_
          refine j_iconst (pc' := 44) (x := (1 : Int32)) rfl rfl rfl ?_
          refine j_callPi (pc' := 47) (ai := 238) (vs := [.ref 75, .int l2, .int (1 : Int32)]) (rest := [.int (σ.1 85 (l2).toNatClampNeg)]) rfl rfl (fun _ _ => rfl) (c_X12_inGame l2 (1 : Int32) σ) (j_dd rfl hd) rfl (fun v3 => ?_)
          refine j_iconst (pc' := 48) (x := (-1 : Int32)) rfl rfl rfl ?_
          refine j_ql (Φl := (fun r Q => j_Tr false τ M_cX12_missed d 56 [some (.ref 75), none, some (.int l2)] [.int r, .int (σ.1 85 (l2).toNatClampNeg)] σ Q)) ?_ (fun v4 => ?_)
          · refine j_twoT (pT := 51) (pF := 55) (L1 := [some (.ref 75), none, some (.int l2)]) (st1 := [.int (σ.1 85 (l2).toNatClampNeg)]) (fun o kT kF => ?_) (fun h1 => ?_) (fun h1 => ?_)
            · refine j_icne (t := 55) (pc' := 51) rfl rfl rfl (fun h2 => ?_) (fun h2 => ?_)
              · exact kF h2
              · exact kT h2
            · refine j_iconst (pc' := 52) (x := (1 : Int32)) rfl rfl rfl ?_
              refine j_goto (t := 56) rfl rfl ?_
              exact j_end (fun _ h => h)
            · refine j_iconst (pc' := 56) (x := (2 : Int32)) rfl rfl rfl ?_
              exact j_end (fun _ h => h)
          show j_J false τ M_cX12_missed d 56 [some (.ref 75), none, some (.int l2)] [.int v4, .int (σ.1 85 (l2).toNatClampNeg)] σ _ _
          refine j_two (pT := 59) (pF := 61) (L1 := [some (.ref 75), none, some (.int l2)]) (st1 := []) (fun o kT kF => ?_) (fun h3 => ?_) (fun h3 => ?_)
          · refine j_icge (t := 61) (pc' := 59) rfl rfl rfl (fun h4 => ?_) (fun h4 => ?_)
            · exact kF h4
            · exact kT h4
          · refine j_iload_n (pc' := 60) rfl rfl rfl ?_
            exact j_ret rfl rfl rfl (fun _ h => h)
          · exact k2_h 
        · exact k2_h 
    · refine j_iconst (pc' := 68) (x := (-1 : Int32)) rfl rfl rfl ?_
      exact j_ret rfl rfl rfl (fun _ h => h)

theorem c_X12_missed (l1 : Int32) (σ : j_G) : j_K false 6 264 [.ref 75, .int l1] σ (f_X12_missed l1 σ) j_Ri := by
  refine j_mkK (M := M_cX12_missed) (L := [some (.ref 75), some (.int l1), none]) (m := 1) t_264 rfl (j_rcvO j_a75 rfl) rfl (fun d hd τ => ?_)
  unfold f_X12_missed
  refine j_aload_n (pc' := 1) rfl rfl rfl ?_
  refine j_iload_n (pc' := 2) rfl rfl rfl ?_
  refine j_callPi (pc' := 5) (ai := 205) (vs := [.ref 75, .int l1]) (rest := []) rfl rfl (fun _ _ => rfl) (c_X12_isPlayer l1 σ) (j_dd rfl hd) rfl (fun v1 => ?_)
  refine j_two (pT := 8) (pF := 11) (L1 := [some (.ref 75), some (.int l1), none]) (st1 := []) (fun o kT kF => ?_) (fun h1 => ?_) (fun h1 => ?_)
  · refine j_ifne (t := 11) (pc' := 8) rfl rfl rfl (fun h2 => ?_) (fun h2 => ?_)
    · exact kF h2
    · exact kT h2
  · refine j_bipush (pc' := 10) (x := (-2 : Int32)) rfl rfl rfl ?_
    exact j_ret rfl rfl rfl (fun _ h => h)
  · refine j_aload_n (pc' := 12) rfl rfl rfl ?_
    refine j_iload_n (pc' := 13) rfl rfl rfl ?_
    refine j_callRv (pc' := 16) (ai := 259) (vs := [.ref 75, .int l1]) (rest := []) rfl rfl (fun _ _ => rfl) (c_X12_runAsTold l1 σ) (j_dd rfl hd) rfl (fun σ2 => ?_)
    refine j_iconst (pc' := 17) (x := (0 : Int32)) rfl rfl rfl ?_
    refine j_istore_n (pc' := 18) (L' := [some (.ref 75), some (.int l1), some (.int (0 : Int32))]) rfl rfl rfl ?_
    refine j_wk [true, false, true] (L' := [some (.ref 75), none, some (.int (0 : Int32))]) rfl ?_
    exact (l_X12_missed_18 hd τ σ2 j_F (0 : Int32))

noncomputable def f_X11_walked (l1 : Int32) (σ : j_G) : Option (Int32 × j_G) :=
  j_b2 (f_X11_runOf l1 σ) fun v2 σ1 =>
  if ¬ v2 = 0 then (some ((σ1.1 30 1), σ1)) else (some ((-2 : Int32), σ1))
theorem c_X11_walked (l1 : Int32) (σ : j_G) : j_K true 6 132 [.ref 0, .int l1] σ (f_X11_walked l1 σ) j_Ri := by
  refine j_mkK (M := M_cX11_walked) (L := [some (.ref 0), some (.int l1)]) (m := 0) t_132 rfl (j_rcvO j_a0 rfl) rfl (fun d hd τ => ?_)
  unfold f_X11_walked
  refine j_aload_n (pc' := 1) rfl rfl rfl ?_
  refine j_iload_n (pc' := 2) rfl rfl rfl ?_
  refine j_callRi (pc' := 5) (ai := 187) (vs := [.ref 0, .int l1]) (rest := []) rfl rfl (fun _ _ => rfl) (c_X11_runOf l1 σ) (j_dd rfl hd) rfl (fun v2 σ1 => ?_)
  refine j_two (pT := 8) (pF := 18) (L1 := [some (.ref 0), some (.int l1)]) (st1 := []) (fun o kT kF => ?_) (fun h1 => ?_) (fun h1 => ?_)
  · refine j_ifeq (t := 18) (pc' := 8) rfl rfl rfl (fun h2 => ?_) (fun h2 => ?_)
    · exact kF (fun z => z h2)
    · exact kT h2
  · refine j_aload_n (pc' := 9) rfl rfl rfl ?_
    refine j_gfr (pc' := 12) (x := 30) rfl rfl j_a0 rfl rfl ?_
    refine j_gfi (pc' := 15) rfl rfl j_a30 rfl ?_
    refine j_goto (t := 20) rfl rfl ?_
    exact j_ret rfl rfl rfl (fun _ h => h)
  · refine j_bipush (pc' := 20) (x := (-2 : Int32)) rfl rfl rfl ?_
    exact j_ret rfl rfl rfl (fun _ h => h)

noncomputable def f_X12_walked (l1 : Int32) (σ : j_G) : Option (Int32 × j_G) :=
  j_b1 (f_X12_isPlayer l1 σ) fun v1 =>
  if v1 = 0 then (some ((-2 : Int32), σ)) else (j_b1 (f_X12_runAsTold l1 σ) fun σ2 =>
  some ((σ2.1 75 33), σ2))
theorem c_X12_walked (l1 : Int32) (σ : j_G) : j_K false 6 265 [.ref 75, .int l1] σ (f_X12_walked l1 σ) j_Ri := by
  refine j_mkK (M := M_cX12_walked) (L := [some (.ref 75), some (.int l1)]) (m := 0) t_265 rfl (j_rcvO j_a75 rfl) rfl (fun d hd τ => ?_)
  unfold f_X12_walked
  refine j_aload_n (pc' := 1) rfl rfl rfl ?_
  refine j_iload_n (pc' := 2) rfl rfl rfl ?_
  refine j_callPi (pc' := 5) (ai := 205) (vs := [.ref 75, .int l1]) (rest := []) rfl rfl (fun _ _ => rfl) (c_X12_isPlayer l1 σ) (j_dd rfl hd) rfl (fun v1 => ?_)
  refine j_two (pT := 8) (pF := 11) (L1 := [some (.ref 75), some (.int l1)]) (st1 := []) (fun o kT kF => ?_) (fun h1 => ?_) (fun h1 => ?_)
  · refine j_ifne (t := 11) (pc' := 8) rfl rfl rfl (fun h2 => ?_) (fun h2 => ?_)
    · exact kF h2
    · exact kT h2
  · refine j_bipush (pc' := 10) (x := (-2 : Int32)) rfl rfl rfl ?_
    exact j_ret rfl rfl rfl (fun _ h => h)
  · refine j_aload_n (pc' := 12) rfl rfl rfl ?_
    refine j_iload_n (pc' := 13) rfl rfl rfl ?_
    refine j_callRv (pc' := 16) (ai := 259) (vs := [.ref 75, .int l1]) (rest := []) rfl rfl (fun _ _ => rfl) (c_X12_runAsTold l1 σ) (j_dd rfl hd) rfl (fun σ2 => ?_)
    refine j_aload_n (pc' := 17) rfl rfl rfl ?_
    refine j_gfi (pc' := 20) rfl rfl j_a75 rfl ?_
    exact j_ret rfl rfl rfl (fun _ h => h)

noncomputable def f_X0_keep (l1 : Int32) (l2 : Int32) (l3 : Int32) (σ : j_G) : Option j_G :=
  j_lt ((l1 * (121 : Int32)) + l2) fun v1 =>
  if (¬ v1 < 0) ∧ (v1 < (1452 : Int32)) then (j_ix v1 1452 (
  if l3 < (σ.1 36 (v1).toNatClampNeg) then (j_ix v1 1452 (
  j_lt (j_si σ 36 (v1).toNatClampNeg l3) fun σ2 =>
  some σ2)) else (some σ))) else (some σ)
theorem c_X0_keep (l1 : Int32) (l2 : Int32) (l3 : Int32) (σ : j_G) : j_K true 0 4 [.ref 35, .int l1, .int l2, .int l3] σ (f_X0_keep l1 l2 l3 σ) j_Rv := by
  refine j_mkK (M := M_cX0_keep) (L := [some (.ref 35), some (.int l1), some (.int l2), some (.int l3), none]) (m := 1) t_4 rfl (j_rcvO j_a35 rfl) rfl (fun d hd τ => ?_)
  unfold f_X0_keep
  refine j_iload_n (pc' := 1) rfl rfl rfl ?_
  refine j_bipush (pc' := 3) (x := (121 : Int32)) rfl rfl rfl ?_
  refine j_imul (pc' := 4) rfl rfl ?_
  refine j_iload_n (pc' := 5) rfl rfl rfl ?_
  refine j_iadd (pc' := 6) rfl rfl ?_
  refine j_leti (fun v1 => ?_)
  refine j_istore (pc' := 8) (L' := [some (.ref 35), some (.int l1), some (.int l2), some (.int l3), some (.int v1)]) rfl rfl rfl ?_
  refine j_iload (pc' := 10) rfl rfl rfl ?_
  refine j_two (pT := 23) (pF := 42) (L1 := [some (.ref 35), some (.int l1), some (.int l2), some (.int l3), some (.int v1)]) (st1 := []) (fun o kT kF => ?_) (fun h3 => ?_) (fun h3 => ?_)
  · refine j_iflt (t := 42) (pc' := 13) rfl rfl rfl (fun h4 => ?_) (fun h4 => ?_)
    · exact kF (fun z => z.1 h4)
    · refine j_iload (pc' := 15) rfl rfl rfl ?_
      refine j_aload_n (pc' := 16) rfl rfl rfl ?_
      refine j_gfr (pc' := 19) (x := 36) rfl rfl j_a35 rfl rfl ?_
      refine j_alen (pc' := 20) (v := (1452 : Int32)) rfl rfl j_a36 rfl ?_
      refine j_icge (t := 42) (pc' := 23) rfl rfl rfl (fun h5 => ?_) (fun h5 => ?_)
      · exact kF (fun z => (h5) z.2)
      · exact kT (⟨h4, h5⟩)
  · refine j_iload_n (pc' := 24) rfl rfl rfl ?_
    refine j_aload_n (pc' := 25) rfl rfl rfl ?_
    refine j_gfr (pc' := 28) (x := 36) rfl rfl j_a35 rfl rfl ?_
    refine j_iload (pc' := 30) rfl rfl rfl ?_
    refine j_iald (pc' := 31) rfl rfl j_a36 ?_
    refine j_two (pT := 34) (pF := 42) (L1 := [some (.ref 35), some (.int l1), some (.int l2), some (.int l3), some (.int v1)]) (st1 := []) (fun o kT kF => ?_) (fun h1 => ?_) (fun h1 => ?_)
    · refine j_icge (t := 42) (pc' := 34) rfl rfl rfl (fun h2 => ?_) (fun h2 => ?_)
      · exact kF h2
      · exact kT h2
    · refine j_aload_n (pc' := 35) rfl rfl rfl ?_
      refine j_gfr (pc' := 38) (x := 36) rfl rfl j_a35 rfl rfl ?_
      refine j_iload (pc' := 40) rfl rfl rfl ?_
      refine j_iload_n (pc' := 41) rfl rfl rfl ?_
      refine j_iast (pc' := 42) rfl rfl j_a36 (fun σ2 => ?_)
      exact j_ret rfl rfl rfl (fun _ h => h)
    · exact j_ret rfl rfl rfl (fun _ h => h)
  · exact j_ret rfl rfl rfl (fun _ h => h)

noncomputable def f_X0_freeAt (l1 : Int32) (l2 : Int32) (σ : j_G) : Option Int32 :=
  j_lt ((l1 * (121 : Int32)) + l2) fun v1 =>
  if (¬ v1 < 0) ∧ (v1 < (1452 : Int32)) then (j_ix v1 1452 (
  some (σ.1 36 (v1).toNatClampNeg))) else (some (2147483647 : Int32))
theorem c_X0_freeAt (l1 : Int32) (l2 : Int32) (σ : j_G) : j_K true 0 3 [.ref 35, .int l1, .int l2] σ (f_X0_freeAt l1 l2 σ) (j_Pi σ) := by
  refine j_mkK (M := M_cX0_freeAt) (L := [some (.ref 35), some (.int l1), some (.int l2), none]) (m := 1) t_3 rfl (j_rcvO j_a35 rfl) rfl (fun d hd τ => ?_)
  unfold f_X0_freeAt
  refine j_iload_n (pc' := 1) rfl rfl rfl ?_
  refine j_bipush (pc' := 3) (x := (121 : Int32)) rfl rfl rfl ?_
  refine j_imul (pc' := 4) rfl rfl ?_
  refine j_iload_n (pc' := 5) rfl rfl rfl ?_
  refine j_iadd (pc' := 6) rfl rfl ?_
  refine j_leti (fun v1 => ?_)
  refine j_istore_n (pc' := 7) (L' := [some (.ref 35), some (.int l1), some (.int l2), some (.int v1)]) rfl rfl rfl ?_
  refine j_iload_n (pc' := 8) rfl rfl rfl ?_
  refine j_two (pT := 20) (pF := 29) (L1 := [some (.ref 35), some (.int l1), some (.int l2), some (.int v1)]) (st1 := []) (fun o kT kF => ?_) (fun h1 => ?_) (fun h1 => ?_)
  · refine j_iflt (t := 29) (pc' := 11) rfl rfl rfl (fun h2 => ?_) (fun h2 => ?_)
    · exact kF (fun z => z.1 h2)
    · refine j_iload_n (pc' := 12) rfl rfl rfl ?_
      refine j_aload_n (pc' := 13) rfl rfl rfl ?_
      refine j_gfr (pc' := 16) (x := 36) rfl rfl j_a35 rfl rfl ?_
      refine j_alen (pc' := 17) (v := (1452 : Int32)) rfl rfl j_a36 rfl ?_
      refine j_icge (t := 29) (pc' := 20) rfl rfl rfl (fun h3 => ?_) (fun h3 => ?_)
      · exact kF (fun z => (h3) z.2)
      · exact kT (⟨h2, h3⟩)
  · refine j_aload_n (pc' := 21) rfl rfl rfl ?_
    refine j_gfr (pc' := 24) (x := 36) rfl rfl j_a35 rfl rfl ?_
    refine j_iload_n (pc' := 25) rfl rfl rfl ?_
    refine j_iald (pc' := 26) rfl rfl j_a36 ?_
    refine j_goto (t := 31) rfl rfl ?_
    exact j_ret rfl rfl rfl (fun _ h => h)
  · refine j_ldc (pc' := 31) (x := (2147483647 : Int32)) rfl rfl rfl rfl ?_
    exact j_ret rfl rfl rfl (fun _ h => h)

noncomputable def p_X0_goOn_47 (l4 : Int32) (l5 : Int32) (l7 : Int32) (l8 : Int32) (l9 : Int32) : Nat → Int32 → Int32 → j_G → Option (Int32 × j_G)
  | 0, _, _, _ => none
  | n + 1, l6, l10, σ =>
    if (l10 < l7) ∧ (¬ l9 = (2147483647 : Int32)) then (j_b1 (if l10 = 0 then (j_ix l4 60 (
    some (σ.1 23 (l4).toNatClampNeg))) else (j_ix l4 60 (
    some (σ.1 24 (l4).toNatClampNeg)))) fun v1 =>
    j_b1 (f_X6_there 28 l8 v1 l9 σ) fun v2 =>
    j_b1 (f_X4_strike l4 v2 σ) fun v3 =>
    j_b2 (if v3 = (-1 : Int32) then (some (l6, σ)) else (j_b1 (f_X0_keep v1 (l5 + (1 : Int32)) (v3 + (1 : Int32)) σ) fun σ6 =>
    j_lt (if l6 < (l5 + (1 : Int32)) then (l5 + (1 : Int32)) else l6) fun v7 =>
    j_b1 (if l10 = 0 then (j_ix l4 60 (
    some (σ6.1 24 (l4).toNatClampNeg))) else (j_ix l4 60 (
    some (σ6.1 23 (l4).toNatClampNeg)))) fun v8 =>
    j_b1 (if v8 = (-1 : Int32) then (some (-1 : Int32)) else (j_b1 (f_X6_there 28 v1 v8 (v3 + (1 : Int32)) σ6) fun v10 =>
    j_b1 (f_X4_strike l4 v10 σ6) fun v11 =>
    some v11)) fun v9 =>
    if ¬ v9 = (-1 : Int32) then (j_b1 (f_X0_keep v8 (l5 + (2 : Int32)) (v9 + (1 : Int32)) σ6) fun σ12 =>
    j_lt (l5 + (2 : Int32)) fun v13 =>
    some (v13, σ12)) else (some (v7, σ6)))) fun v4 σ5 =>
    p_X0_goOn_47 l4 l5 l7 l8 l9 n v4 (l10 + (1 : Int32)) σ5) else (some (l6, σ))

noncomputable def p_X0_goOn_25 (l4 : Int32) (l5 : Int32) (l7 : Int32) : Nat → Int32 → Int32 → j_G → Option (Int32 × j_G)
  | 0, _, _, _ => none
  | n + 1, l6, l8, σ =>
    if l8 < (f_X2_holes 1 σ) then (j_b1 (f_X0_freeAt l8 l5 σ) fun v1 =>
    j_b2 (p_X0_goOn_47 l4 l5 l7 l8 v1 j_F l6 (0 : Int32) σ) fun v2 σ3 =>
    p_X0_goOn_25 l4 l5 l7 n v2 (l8 + (1 : Int32)) σ3) else (some (l6, σ))

noncomputable def f_X0_goOn (l4 : Int32) (l5 : Int32) (σ : j_G) : Option (Int32 × j_G) :=
  j_ix l4 60 (
  j_lt (if (σ.1 24 (l4).toNatClampNeg) = (-1 : Int32) then ((1 : Int32)) else ((2 : Int32))) fun v1 =>
  j_b2 (p_X0_goOn_25 l4 l5 v1 j_F l5 (0 : Int32) σ) fun v2 σ3 =>
  some (v2, σ3))
theorem l_X0_goOn_47 {d : Nat} (hd : 2 ≤ d) (τ : j_G) (l4 : Int32) (l5 : Int32) (l7 : Int32) (l8 : Int32) (l9 : Int32) : ∀ (n : Nat) (l6 : Int32) (l10 : Int32) (σ : j_G), j_J true τ M_cX0_goOn d 47 [some (.ref 35), some (.ref 1), some (.ref 22), some (.ref 28), some (.int l4), some (.int l5), some (.int l6), some (.int l7), some (.int l8), some (.int l9), some (.int l10), none, none, none, none] [] σ (p_X0_goOn_47 l4 l5 l7 l8 l9 n l6 l10 σ) (fun r Q => j_Tr true τ M_cX0_goOn d 225 [some (.ref 35), some (.ref 1), some (.ref 22), some (.ref 28), some (.int l4), some (.int l5), some (.int r.1), some (.int l7), some (.int l8), none, none, none, none, none, none] [] r.2 Q) := by
  intro n
  induction n with
  | zero => intro l6 l10 σ; exact j_none
  | succ n ih =>
    intro l6 l10 σ
    unfold p_X0_goOn_47
    refine j_iload (pc' := 49) rfl rfl rfl ?_
    refine j_iload (pc' := 51) rfl rfl rfl ?_
    refine j_two (pT := 61) (pF := 225) (L1 := [some (.ref 35), some (.ref 1), some (.ref 22), some (.ref 28), some (.int l4), some (.int l5), some (.int l6), some (.int l7), some (.int l8), some (.int l9), some (.int l10), none, none, none, none]) (st1 := []) (fun o kT kF => ?_) (fun h11 => ?_) (fun h11 => ?_)
    · refine j_icge (t := 225) (pc' := 54) rfl rfl rfl (fun h12 => ?_) (fun h12 => ?_)
      · exact kF (fun z => h12 z.1)
      · refine j_iload (pc' := 56) rfl rfl rfl ?_
        refine j_ldc (pc' := 58) (x := (2147483647 : Int32)) rfl rfl rfl rfl ?_
        refine j_iceq (t := 225) (pc' := 61) rfl rfl rfl (fun h13 => ?_) (fun h13 => ?_)
        · exact kF (fun z => (fun z => z h13) z.2)
        · exact kT (⟨h12, h13⟩)
    · refine j_iload (pc' := 63) rfl rfl rfl ?_
      refine j_q1 (Φl := (fun r Q => j_Tr true τ M_cX0_goOn d 83 [some (.ref 35), some (.ref 1), some (.ref 22), some (.ref 28), some (.int l4), some (.int l5), some (.int l6), some (.int l7), some (.int l8), some (.int l9), some (.int l10), none, none, none, none] [.int r] σ Q)) ?_ (fun v1 => ?_)
      · refine j_two (pT := 66) (pF := 76) (L1 := [some (.ref 35), some (.ref 1), some (.ref 22), some (.ref 28), some (.int l4), some (.int l5), some (.int l6), some (.int l7), some (.int l8), some (.int l9), some (.int l10), none, none, none, none]) (st1 := []) (fun o kT kF => ?_) (fun h1 => ?_) (fun h1 => ?_)
        · refine j_ifne (t := 76) (pc' := 66) rfl rfl rfl (fun h2 => ?_) (fun h2 => ?_)
          · exact kF h2
          · exact kT h2
        · refine j_aload_n (pc' := 67) rfl rfl rfl ?_
          refine j_gfr (pc' := 70) (x := 23) rfl rfl j_a22 rfl rfl ?_
          refine j_iload (pc' := 72) rfl rfl rfl ?_
          refine j_iald (pc' := 73) rfl rfl j_a23 ?_
          refine j_goto (t := 83) rfl rfl ?_
          exact j_end (fun _ h => h)
        · refine j_aload_n (pc' := 77) rfl rfl rfl ?_
          refine j_gfr (pc' := 80) (x := 24) rfl rfl j_a22 rfl rfl ?_
          refine j_iload (pc' := 82) rfl rfl rfl ?_
          refine j_iald (pc' := 83) rfl rfl j_a24 ?_
          exact j_end (fun _ h => h)
      show j_J true τ M_cX0_goOn d 83 [some (.ref 35), some (.ref 1), some (.ref 22), some (.ref 28), some (.int l4), some (.int l5), some (.int l6), some (.int l7), some (.int l8), some (.int l9), some (.int l10), none, none, none, none] [.int v1] σ _ _
      refine j_istore (pc' := 85) (L' := [some (.ref 35), some (.ref 1), some (.ref 22), some (.ref 28), some (.int l4), some (.int l5), some (.int l6), some (.int l7), some (.int l8), some (.int l9), some (.int l10), some (.int v1), none, none, none]) rfl rfl rfl ?_
      refine j_aload_n (pc' := 86) rfl rfl rfl ?_
      refine j_iload (pc' := 88) rfl rfl rfl ?_
      refine j_aload_n (pc' := 89) rfl rfl rfl ?_
      refine j_aload_n (pc' := 90) rfl rfl rfl ?_
      refine j_iload (pc' := 92) rfl rfl rfl ?_
      refine j_iload (pc' := 94) rfl rfl rfl ?_
      refine j_iload (pc' := 96) rfl rfl rfl ?_
      refine j_callPi (pc' := 99) (ai := 67) (vs := [.ref 28, .ref 1, .int l8, .int v1, .int l9]) (rest := [.int l4, .ref 22]) rfl rfl (fun _ _ => rfl) (c_X6_there_28_1 l8 v1 l9 σ) (j_dd rfl hd) rfl (fun v2 => ?_)
      refine j_callPi (pc' := 102) (ai := 52) (vs := [.ref 22, .int l4, .int v2]) (rest := []) rfl rfl (fun _ _ => rfl) (c_X4_strike l4 v2 σ) (j_dd rfl hd) rfl (fun v3 => ?_)
      refine j_istore (pc' := 104) (L' := [some (.ref 35), some (.ref 1), some (.ref 22), some (.ref 28), some (.int l4), some (.int l5), some (.int l6), some (.int l7), some (.int l8), some (.int l9), some (.int l10), some (.int v1), some (.int v3), none, none]) rfl rfl rfl ?_
      refine j_iload (pc' := 106) rfl rfl rfl ?_
      refine j_iconst (pc' := 107) (x := (-1 : Int32)) rfl rfl rfl ?_
      refine j_q2 (Φl := (fun r Q => j_Tr true τ M_cX0_goOn d 219 [some (.ref 35), some (.ref 1), some (.ref 22), some (.ref 28), some (.int l4), some (.int l5), some (.int r.1), some (.int l7), some (.int l8), some (.int l9), some (.int l10), none, none, none, none] [] r.2 Q)) ?_ (fun v4 σ5 => ?_)
      · refine j_two (pT := 110) (pF := 113) (L1 := [some (.ref 35), some (.ref 1), some (.ref 22), some (.ref 28), some (.int l4), some (.int l5), some (.int l6), some (.int l7), some (.int l8), some (.int l9), some (.int l10), some (.int v1), some (.int v3), none, none]) (st1 := []) (fun o kT kF => ?_) (fun h9 => ?_) (fun h9 => ?_)
        · refine j_icne (t := 113) (pc' := 110) rfl rfl rfl (fun h10 => ?_) (fun h10 => ?_)
          · exact kF h10
          · exact kT h10
        · refine j_goto (t := 219) rfl rfl ?_
          refine j_wk [true, true, true, true, true, true, true, true, true, true, true, false, false, true, true] (L' := [some (.ref 35), some (.ref 1), some (.ref 22), some (.ref 28), some (.int l4), some (.int l5), some (.int l6), some (.int l7), some (.int l8), some (.int l9), some (.int l10), none, none, none, none]) rfl ?_
          exact j_end (fun _ h => h)
        · refine j_aload_n (pc' := 114) rfl rfl rfl ?_
          refine j_iload (pc' := 116) rfl rfl rfl ?_
          refine j_iload (pc' := 118) rfl rfl rfl ?_
          refine j_iconst (pc' := 119) (x := (1 : Int32)) rfl rfl rfl ?_
          refine j_iadd (pc' := 120) rfl rfl ?_
          refine j_iload (pc' := 122) rfl rfl rfl ?_
          refine j_iconst (pc' := 123) (x := (1 : Int32)) rfl rfl rfl ?_
          refine j_iadd (pc' := 124) rfl rfl ?_
          refine j_callRv (pc' := 127) (ai := 4) (vs := [.ref 35, .int v1, .int (l5 + (1 : Int32)), .int (v3 + (1 : Int32))]) (rest := []) rfl rfl (fun _ _ => rfl) (c_X0_keep v1 (l5 + (1 : Int32)) (v3 + (1 : Int32)) σ) (j_dd rfl hd) rfl (fun σ6 => ?_)
          refine j_iload (pc' := 129) rfl rfl rfl ?_
          refine j_iload (pc' := 131) rfl rfl rfl ?_
          refine j_iconst (pc' := 132) (x := (1 : Int32)) rfl rfl rfl ?_
          refine j_iadd (pc' := 133) rfl rfl ?_
          refine j_max (pc' := 136) rfl rfl rfl ?_
          refine j_leti (fun v7 => ?_)
          refine j_istore (pc' := 138) (L' := [some (.ref 35), some (.ref 1), some (.ref 22), some (.ref 28), some (.int l4), some (.int l5), some (.int v7), some (.int l7), some (.int l8), some (.int l9), some (.int l10), some (.int v1), some (.int v3), none, none]) rfl rfl rfl ?_
          refine j_iload (pc' := 140) rfl rfl rfl ?_
          refine j_q1 (Φl := (fun r Q => j_Tr true τ M_cX0_goOn d 160 [some (.ref 35), some (.ref 1), some (.ref 22), some (.ref 28), some (.int l4), some (.int l5), some (.int v7), some (.int l7), some (.int l8), some (.int l9), some (.int l10), some (.int v1), some (.int v3), none, none] [.int r] σ6 Q)) ?_ (fun v8 => ?_)
          · refine j_two (pT := 143) (pF := 153) (L1 := [some (.ref 35), some (.ref 1), some (.ref 22), some (.ref 28), some (.int l4), some (.int l5), some (.int v7), some (.int l7), some (.int l8), some (.int l9), some (.int l10), some (.int v1), some (.int v3), none, none]) (st1 := []) (fun o kT kF => ?_) (fun h3 => ?_) (fun h3 => ?_)
            · refine j_ifne (t := 153) (pc' := 143) rfl rfl rfl (fun h4 => ?_) (fun h4 => ?_)
              · exact kF h4
              · exact kT h4
            · refine j_aload_n (pc' := 144) rfl rfl rfl ?_
              refine j_gfr (pc' := 147) (x := 24) rfl rfl j_a22 rfl rfl ?_
              refine j_iload (pc' := 149) rfl rfl rfl ?_
              refine j_iald (pc' := 150) rfl rfl j_a24 ?_
              refine j_goto (t := 160) rfl rfl ?_
              exact j_end (fun _ h => h)
            · refine j_aload_n (pc' := 154) rfl rfl rfl ?_
              refine j_gfr (pc' := 157) (x := 23) rfl rfl j_a22 rfl rfl ?_
              refine j_iload (pc' := 159) rfl rfl rfl ?_
              refine j_iald (pc' := 160) rfl rfl j_a23 ?_
              exact j_end (fun _ h => h)
          show j_J true τ M_cX0_goOn d 160 [some (.ref 35), some (.ref 1), some (.ref 22), some (.ref 28), some (.int l4), some (.int l5), some (.int v7), some (.int l7), some (.int l8), some (.int l9), some (.int l10), some (.int v1), some (.int v3), none, none] [.int v8] σ6 _ _
          refine j_istore (pc' := 162) (L' := [some (.ref 35), some (.ref 1), some (.ref 22), some (.ref 28), some (.int l4), some (.int l5), some (.int v7), some (.int l7), some (.int l8), some (.int l9), some (.int l10), some (.int v1), some (.int v3), some (.int v8), none]) rfl rfl rfl ?_
          refine j_iload (pc' := 164) rfl rfl rfl ?_
          refine j_iconst (pc' := 165) (x := (-1 : Int32)) rfl rfl rfl ?_
          refine j_q1 (Φl := (fun r Q => j_Tr true τ M_cX0_goOn d 191 [some (.ref 35), some (.ref 1), some (.ref 22), some (.ref 28), some (.int l4), some (.int l5), some (.int v7), some (.int l7), some (.int l8), some (.int l9), some (.int l10), none, none, some (.int v8), none] [.int r] σ6 Q)) ?_ (fun v9 => ?_)
          · refine j_two (pT := 168) (pF := 172) (L1 := [some (.ref 35), some (.ref 1), some (.ref 22), some (.ref 28), some (.int l4), some (.int l5), some (.int v7), some (.int l7), some (.int l8), some (.int l9), some (.int l10), some (.int v1), some (.int v3), some (.int v8), none]) (st1 := []) (fun o kT kF => ?_) (fun h5 => ?_) (fun h5 => ?_)
            · refine j_icne (t := 172) (pc' := 168) rfl rfl rfl (fun h6 => ?_) (fun h6 => ?_)
              · exact kF h6
              · exact kT h6
            · refine j_iconst (pc' := 169) (x := (-1 : Int32)) rfl rfl rfl ?_
              refine j_goto (t := 191) rfl rfl ?_
              refine j_wk [true, true, true, true, true, true, true, true, true, true, true, false, false, true, true] (L' := [some (.ref 35), some (.ref 1), some (.ref 22), some (.ref 28), some (.int l4), some (.int l5), some (.int v7), some (.int l7), some (.int l8), some (.int l9), some (.int l10), none, none, some (.int v8), none]) rfl ?_
              exact j_end (fun _ h => h)
            · refine j_aload_n (pc' := 173) rfl rfl rfl ?_
              refine j_iload (pc' := 175) rfl rfl rfl ?_
              refine j_aload_n (pc' := 176) rfl rfl rfl ?_
              refine j_aload_n (pc' := 177) rfl rfl rfl ?_
              refine j_iload (pc' := 179) rfl rfl rfl ?_
              refine j_iload (pc' := 181) rfl rfl rfl ?_
              refine j_iload (pc' := 183) rfl rfl rfl ?_
              refine j_iconst (pc' := 184) (x := (1 : Int32)) rfl rfl rfl ?_
              refine j_iadd (pc' := 185) rfl rfl ?_
              refine j_callPi (pc' := 188) (ai := 67) (vs := [.ref 28, .ref 1, .int v1, .int v8, .int (v3 + (1 : Int32))]) (rest := [.int l4, .ref 22]) rfl rfl (fun _ _ => rfl) (c_X6_there_28_1 v1 v8 (v3 + (1 : Int32)) σ6) (j_dd rfl hd) rfl (fun v10 => ?_)
              refine j_callPi (pc' := 191) (ai := 52) (vs := [.ref 22, .int l4, .int v10]) (rest := []) rfl rfl (fun _ _ => rfl) (c_X4_strike l4 v10 σ6) (j_dd rfl hd) rfl (fun v11 => ?_)
              refine j_wk [true, true, true, true, true, true, true, true, true, true, true, false, false, true, true] (L' := [some (.ref 35), some (.ref 1), some (.ref 22), some (.ref 28), some (.int l4), some (.int l5), some (.int v7), some (.int l7), some (.int l8), some (.int l9), some (.int l10), none, none, some (.int v8), none]) rfl ?_
              exact j_end (fun _ h => h)
          show j_J true τ M_cX0_goOn d 191 [some (.ref 35), some (.ref 1), some (.ref 22), some (.ref 28), some (.int l4), some (.int l5), some (.int v7), some (.int l7), some (.int l8), some (.int l9), some (.int l10), none, none, some (.int v8), none] [.int v9] σ6 _ _
          refine j_istore (pc' := 193) (L' := [some (.ref 35), some (.ref 1), some (.ref 22), some (.ref 28), some (.int l4), some (.int l5), some (.int v7), some (.int l7), some (.int l8), some (.int l9), some (.int l10), none, none, some (.int v8), some (.int v9)]) rfl rfl rfl ?_
          refine j_iload (pc' := 195) rfl rfl rfl ?_
          refine j_iconst (pc' := 196) (x := (-1 : Int32)) rfl rfl rfl ?_
          refine j_two (pT := 199) (pF := 219) (L1 := [some (.ref 35), some (.ref 1), some (.ref 22), some (.ref 28), some (.int l4), some (.int l5), some (.int v7), some (.int l7), some (.int l8), some (.int l9), some (.int l10), none, none, some (.int v8), some (.int v9)]) (st1 := []) (fun o kT kF => ?_) (fun h7 => ?_) (fun h7 => ?_)
          · refine j_iceq (t := 219) (pc' := 199) rfl rfl rfl (fun h8 => ?_) (fun h8 => ?_)
            · exact kF (fun z => z h8)
            · exact kT h8
          · refine j_aload_n (pc' := 200) rfl rfl rfl ?_
            refine j_iload (pc' := 202) rfl rfl rfl ?_
            refine j_iload (pc' := 204) rfl rfl rfl ?_
            refine j_iconst (pc' := 205) (x := (2 : Int32)) rfl rfl rfl ?_
            refine j_iadd (pc' := 206) rfl rfl ?_
            refine j_iload (pc' := 208) rfl rfl rfl ?_
            refine j_iconst (pc' := 209) (x := (1 : Int32)) rfl rfl rfl ?_
            refine j_iadd (pc' := 210) rfl rfl ?_
            refine j_callRv (pc' := 213) (ai := 4) (vs := [.ref 35, .int v8, .int (l5 + (2 : Int32)), .int (v9 + (1 : Int32))]) (rest := []) rfl rfl (fun _ _ => rfl) (c_X0_keep v8 (l5 + (2 : Int32)) (v9 + (1 : Int32)) σ6) (j_dd rfl hd) rfl (fun σ12 => ?_)
            refine j_iload (pc' := 215) rfl rfl rfl ?_
            refine j_iconst (pc' := 216) (x := (2 : Int32)) rfl rfl rfl ?_
            refine j_iadd (pc' := 217) rfl rfl ?_
            refine j_leti (fun v13 => ?_)
            refine j_istore (pc' := 219) (L' := [some (.ref 35), some (.ref 1), some (.ref 22), some (.ref 28), some (.int l4), some (.int l5), some (.int v13), some (.int l7), some (.int l8), some (.int l9), some (.int l10), none, none, some (.int v8), some (.int v9)]) rfl rfl rfl ?_
            refine j_wk [true, true, true, true, true, true, true, true, true, true, true, true, true, false, false] (L' := [some (.ref 35), some (.ref 1), some (.ref 22), some (.ref 28), some (.int l4), some (.int l5), some (.int v13), some (.int l7), some (.int l8), some (.int l9), some (.int l10), none, none, none, none]) rfl ?_
            exact j_end (fun _ h => h)
          · refine j_wk [true, true, true, true, true, true, true, true, true, true, true, true, true, false, false] (L' := [some (.ref 35), some (.ref 1), some (.ref 22), some (.ref 28), some (.int l4), some (.int l5), some (.int v7), some (.int l7), some (.int l8), some (.int l9), some (.int l10), none, none, none, none]) rfl ?_
            exact j_end (fun _ h => h)
      show j_J true τ M_cX0_goOn d 219 [some (.ref 35), some (.ref 1), some (.ref 22), some (.ref 28), some (.int l4), some (.int l5), some (.int v4), some (.int l7), some (.int l8), some (.int l9), some (.int l10), none, none, none, none] [] σ5 _ _
      refine j_iincx (pc' := 222) (y := (1 : Int32)) (L' := [some (.ref 35), some (.ref 1), some (.ref 22), some (.ref 28), some (.int l4), some (.int l5), some (.int v4), some (.int l7), some (.int l8), some (.int l9), some (.int (l10 + (1 : Int32))), none, none, none, none]) rfl rfl rfl rfl rfl ?_
      refine j_goto (t := 47) rfl rfl ?_
      exact ih v4 (l10 + (1 : Int32)) σ5
    · refine j_wk [true, true, true, true, true, true, true, true, true, false, false, true, true, true, true] (L' := [some (.ref 35), some (.ref 1), some (.ref 22), some (.ref 28), some (.int l4), some (.int l5), some (.int l6), some (.int l7), some (.int l8), none, none, none, none, none, none]) rfl ?_
      exact j_end (fun _ h => h)

theorem l_X0_goOn_25 {d : Nat} (hd : 2 ≤ d) (τ : j_G) (l4 : Int32) (l5 : Int32) (l7 : Int32) : ∀ (n : Nat) (l6 : Int32) (l8 : Int32) (σ : j_G), j_J true τ M_cX0_goOn d 25 [some (.ref 35), some (.ref 1), some (.ref 22), some (.ref 28), some (.int l4), some (.int l5), some (.int l6), some (.int l7), some (.int l8), none, none, none, none, none, none] [] σ (p_X0_goOn_25 l4 l5 l7 n l6 l8 σ) (fun r Q => j_Tr true τ M_cX0_goOn d 231 [none, none, none, none, none, none, some (.int r.1), none, none, none, none, none, none, none, none] [] r.2 Q) := by
  intro n
  induction n with
  | zero => intro l6 l8 σ; exact j_none
  | succ n ih =>
    intro l6 l8 σ
    unfold p_X0_goOn_25
    refine j_iload (pc' := 27) rfl rfl rfl ?_
    refine j_aload_n (pc' := 28) rfl rfl rfl ?_
    refine j_callTi (pc' := 31) (ai := 12) (vs := [.ref 1]) (rest := [.int l8]) rfl rfl (fun _ _ => rfl) (c_X2_holes_1  σ) (j_dd rfl hd) rfl ?_
    refine j_two (pT := 34) (pF := 231) (L1 := [some (.ref 35), some (.ref 1), some (.ref 22), some (.ref 28), some (.int l4), some (.int l5), some (.int l6), some (.int l7), some (.int l8), none, none, none, none, none, none]) (st1 := []) (fun o kT kF => ?_) (fun h1 => ?_) (fun h1 => ?_)
    · refine j_icge (t := 231) (pc' := 34) rfl rfl rfl (fun h2 => ?_) (fun h2 => ?_)
      · exact kF h2
      · exact kT h2
    · refine j_aload_n (pc' := 35) rfl rfl rfl ?_
      refine j_iload (pc' := 37) rfl rfl rfl ?_
      refine j_iload (pc' := 39) rfl rfl rfl ?_
      refine j_callPi (pc' := 42) (ai := 3) (vs := [.ref 35, .int l8, .int l5]) (rest := []) rfl rfl (fun _ _ => rfl) (c_X0_freeAt l8 l5 σ) (j_dd rfl hd) rfl (fun v1 => ?_)
      refine j_istore (pc' := 44) (L' := [some (.ref 35), some (.ref 1), some (.ref 22), some (.ref 28), some (.int l4), some (.int l5), some (.int l6), some (.int l7), some (.int l8), some (.int v1), none, none, none, none, none]) rfl rfl rfl ?_
      refine j_iconst (pc' := 45) (x := (0 : Int32)) rfl rfl rfl ?_
      refine j_istore (pc' := 47) (L' := [some (.ref 35), some (.ref 1), some (.ref 22), some (.ref 28), some (.int l4), some (.int l5), some (.int l6), some (.int l7), some (.int l8), some (.int v1), some (.int (0 : Int32)), none, none, none, none]) rfl rfl rfl ?_
      refine j_q2 (l_X0_goOn_47 hd τ l4 l5 l7 l8 v1 j_F l6 (0 : Int32) σ) (fun v2 σ3 => ?_)
      show j_J true τ M_cX0_goOn d 225 [some (.ref 35), some (.ref 1), some (.ref 22), some (.ref 28), some (.int l4), some (.int l5), some (.int v2), some (.int l7), some (.int l8), none, none, none, none, none, none] [] σ3 _ _
      refine j_iincx (pc' := 228) (y := (1 : Int32)) (L' := [some (.ref 35), some (.ref 1), some (.ref 22), some (.ref 28), some (.int l4), some (.int l5), some (.int v2), some (.int l7), some (.int (l8 + (1 : Int32))), none, none, none, none, none, none]) rfl rfl rfl rfl rfl ?_
      refine j_goto (t := 25) rfl rfl ?_
      exact ih v2 (l8 + (1 : Int32)) σ3
    · refine j_wk [false, false, false, false, false, false, true, false, false, true, true, true, true, true, true] (L' := [none, none, none, none, none, none, some (.int l6), none, none, none, none, none, none, none, none]) rfl ?_
      exact j_end (fun _ h => h)

theorem c_X0_goOn (l4 : Int32) (l5 : Int32) (σ : j_G) : j_K true 2 2 [.ref 35, .ref 1, .ref 22, .ref 28, .int l4, .int l5] σ (f_X0_goOn l4 l5 σ) j_Ri := by
  refine j_mkK (M := M_cX0_goOn) (L := [some (.ref 35), some (.ref 1), some (.ref 22), some (.ref 28), some (.int l4), some (.int l5), none, none, none, none, none, none, none, none, none]) (m := 9) t_2 rfl (j_rcvO j_a35 rfl) rfl (fun d hd τ => ?_)
  unfold f_X0_goOn
  refine j_iload (pc' := 2) rfl rfl rfl ?_
  refine j_istore (pc' := 4) (L' := [some (.ref 35), some (.ref 1), some (.ref 22), some (.ref 28), some (.int l4), some (.int l5), some (.int l5), none, none, none, none, none, none, none, none]) rfl rfl rfl ?_
  refine j_aload_n (pc' := 5) rfl rfl rfl ?_
  refine j_gfr (pc' := 8) (x := 24) rfl rfl j_a22 rfl rfl ?_
  refine j_iload (pc' := 10) rfl rfl rfl ?_
  refine j_iald (pc' := 11) rfl rfl j_a24 ?_
  refine j_iconst (pc' := 12) (x := (-1 : Int32)) rfl rfl rfl ?_
  refine j_ql (Φl := (fun r Q => j_Tr true τ M_cX0_goOn d 20 [some (.ref 35), some (.ref 1), some (.ref 22), some (.ref 28), some (.int l4), some (.int l5), some (.int l5), none, none, none, none, none, none, none, none] [.int r] σ Q)) ?_ (fun v1 => ?_)
  · refine j_twoT (pT := 15) (pF := 19) (L1 := [some (.ref 35), some (.ref 1), some (.ref 22), some (.ref 28), some (.int l4), some (.int l5), some (.int l5), none, none, none, none, none, none, none, none]) (st1 := []) (fun o kT kF => ?_) (fun h1 => ?_) (fun h1 => ?_)
    · refine j_icne (t := 19) (pc' := 15) rfl rfl rfl (fun h2 => ?_) (fun h2 => ?_)
      · exact kF h2
      · exact kT h2
    · refine j_iconst (pc' := 16) (x := (1 : Int32)) rfl rfl rfl ?_
      refine j_goto (t := 20) rfl rfl ?_
      exact j_end (fun _ h => h)
    · refine j_iconst (pc' := 20) (x := (2 : Int32)) rfl rfl rfl ?_
      exact j_end (fun _ h => h)
  show j_J true τ M_cX0_goOn d 20 [some (.ref 35), some (.ref 1), some (.ref 22), some (.ref 28), some (.int l4), some (.int l5), some (.int l5), none, none, none, none, none, none, none, none] [.int v1] σ _ _
  refine j_istore (pc' := 22) (L' := [some (.ref 35), some (.ref 1), some (.ref 22), some (.ref 28), some (.int l4), some (.int l5), some (.int l5), some (.int v1), none, none, none, none, none, none, none]) rfl rfl rfl ?_
  refine j_iconst (pc' := 23) (x := (0 : Int32)) rfl rfl rfl ?_
  refine j_istore (pc' := 25) (L' := [some (.ref 35), some (.ref 1), some (.ref 22), some (.ref 28), some (.int l4), some (.int l5), some (.int l5), some (.int v1), some (.int (0 : Int32)), none, none, none, none, none, none]) rfl rfl rfl ?_
  refine j_q2 (l_X0_goOn_25 hd τ l4 l5 v1 j_F l5 (0 : Int32) σ) (fun v2 σ3 => ?_)
  show j_J true τ M_cX0_goOn d 231 [none, none, none, none, none, none, some (.int v2), none, none, none, none, none, none, none, none] [] σ3 _ _
  refine j_iload (pc' := 233) rfl rfl rfl ?_
  exact j_ret rfl rfl rfl (fun _ h => h)

noncomputable def p_X0_most_3 (l4 : Int32) : Nat → Int32 → j_G → Option j_G
  | 0, _, _ => none
  | n + 1, l5, σ =>
    if l5 < (1452 : Int32) then (j_ix l5 1452 (
    j_lt (j_si σ 36 (l5).toNatClampNeg (2147483647 : Int32)) fun σ1 =>
    p_X0_most_3 l4 n (l5 + (1 : Int32)) σ1)) else (some σ)

noncomputable def p_X0_most_74 (l4 : Int32) (l6 : Int32) : Nat → Int32 → Int32 → j_G → Option (Int32 × j_G)
  | 0, _, _, _ => none
  | n + 1, l5, l7, σ =>
    if ¬ l7 < 0 then (j_b2 (f_X0_goOn l6 l7 σ) fun v2 σ1 =>
    j_lt (if l5 < v2 then v2 else l5) fun v3 =>
    p_X0_most_74 l4 l6 n v3 (l7 + (-1 : Int32)) σ1) else (some (l5, σ))

noncomputable def p_X0_most_44 (l4 : Int32) : Nat → Int32 → Int32 → j_G → Option (Int32 × j_G)
  | 0, _, _, _ => none
  | n + 1, l5, l6, σ =>
    if (l6 < l4) ∧ (l6 < (σ.1 22 0)) then (j_ix l6 60 (
    j_b2 (if (σ.1 25 (l6).toNatClampNeg) = 0 then (j_b2 (p_X0_most_74 l4 l6 j_F l5 l5 σ) fun v3 σ4 =>
    some (v3, σ4)) else (some (l5, σ))) fun v1 σ2 =>
    p_X0_most_44 l4 n v1 (l6 + (1 : Int32)) σ2)) else (some (l5, σ))

noncomputable def f_X0_most (l4 : Int32) (σ : j_G) : Option (Int32 × j_G) :=
  j_b1 (p_X0_most_3 l4 j_F (0 : Int32) σ) fun σ1 =>
  j_b1 (f_X0_keep (σ1.1 28 4) (0 : Int32) (0 : Int32) σ1) fun σ2 =>
  j_b2 (p_X0_most_44 l4 j_F (0 : Int32) (0 : Int32) σ2) fun v3 σ4 =>
  some (v3, σ4)
theorem l_X0_most_3 {d : Nat} (hd : 3 ≤ d) (τ : j_G) (l4 : Int32) : ∀ (n : Nat) (l5 : Int32) (σ : j_G), j_J true τ M_cX0_most d 3 [some (.ref 35), some (.ref 1), some (.ref 22), some (.ref 28), some (.int l4), some (.int l5), none, none] [] σ (p_X0_most_3 l4 n l5 σ) (fun r Q => j_Tr true τ M_cX0_most d 28 [some (.ref 35), some (.ref 1), some (.ref 22), some (.ref 28), some (.int l4), none, none, none] [] r Q) := by
  intro n
  induction n with
  | zero => intro l5 σ; exact j_none
  | succ n ih =>
    intro l5 σ
    unfold p_X0_most_3
    refine j_iload (pc' := 5) rfl rfl rfl ?_
    refine j_aload_n (pc' := 6) rfl rfl rfl ?_
    refine j_gfr (pc' := 9) (x := 36) rfl rfl j_a35 rfl rfl ?_
    refine j_alen (pc' := 10) (v := (1452 : Int32)) rfl rfl j_a36 rfl ?_
    refine j_two (pT := 13) (pF := 28) (L1 := [some (.ref 35), some (.ref 1), some (.ref 22), some (.ref 28), some (.int l4), some (.int l5), none, none]) (st1 := []) (fun o kT kF => ?_) (fun h1 => ?_) (fun h1 => ?_)
    · refine j_icge (t := 28) (pc' := 13) rfl rfl rfl (fun h2 => ?_) (fun h2 => ?_)
      · exact kF h2
      · exact kT h2
    · refine j_aload_n (pc' := 14) rfl rfl rfl ?_
      refine j_gfr (pc' := 17) (x := 36) rfl rfl j_a35 rfl rfl ?_
      refine j_iload (pc' := 19) rfl rfl rfl ?_
      refine j_ldc (pc' := 21) (x := (2147483647 : Int32)) rfl rfl rfl rfl ?_
      refine j_iast (pc' := 22) rfl rfl j_a36 (fun σ1 => ?_)
      refine j_iincx (pc' := 25) (y := (1 : Int32)) (L' := [some (.ref 35), some (.ref 1), some (.ref 22), some (.ref 28), some (.int l4), some (.int (l5 + (1 : Int32))), none, none]) rfl rfl rfl rfl rfl ?_
      refine j_goto (t := 3) rfl rfl ?_
      exact ih (l5 + (1 : Int32)) σ1
    · refine j_wk [true, true, true, true, true, false, true, true] (L' := [some (.ref 35), some (.ref 1), some (.ref 22), some (.ref 28), some (.int l4), none, none, none]) rfl ?_
      exact j_end (fun _ h => h)

theorem l_X0_most_74 {d : Nat} (hd : 3 ≤ d) (τ : j_G) (l4 : Int32) (l6 : Int32) : ∀ (n : Nat) (l5 : Int32) (l7 : Int32) (σ : j_G), j_J true τ M_cX0_most d 74 [some (.ref 35), some (.ref 1), some (.ref 22), some (.ref 28), some (.int l4), some (.int l5), some (.int l6), some (.int l7)] [] σ (p_X0_most_74 l4 l6 n l5 l7 σ) (fun r Q => j_Tr true τ M_cX0_most d 103 [some (.ref 35), some (.ref 1), some (.ref 22), some (.ref 28), some (.int l4), some (.int r.1), some (.int l6), none] [] r.2 Q) := by
  intro n
  induction n with
  | zero => intro l5 l7 σ; exact j_none
  | succ n ih =>
    intro l5 l7 σ
    unfold p_X0_most_74
    refine j_iload (pc' := 76) rfl rfl rfl ?_
    refine j_two (pT := 79) (pF := 103) (L1 := [some (.ref 35), some (.ref 1), some (.ref 22), some (.ref 28), some (.int l4), some (.int l5), some (.int l6), some (.int l7)]) (st1 := []) (fun o kT kF => ?_) (fun h1 => ?_) (fun h1 => ?_)
    · refine j_iflt (t := 103) (pc' := 79) rfl rfl rfl (fun h2 => ?_) (fun h2 => ?_)
      · exact kF (fun z => z h2)
      · exact kT h2
    · refine j_iload (pc' := 81) rfl rfl rfl ?_
      refine j_aload_n (pc' := 82) rfl rfl rfl ?_
      refine j_aload_n (pc' := 83) rfl rfl rfl ?_
      refine j_aload_n (pc' := 84) rfl rfl rfl ?_
      refine j_aload_n (pc' := 85) rfl rfl rfl ?_
      refine j_iload (pc' := 87) rfl rfl rfl ?_
      refine j_iload (pc' := 89) rfl rfl rfl ?_
      refine j_callRi (pc' := 92) (ai := 2) (vs := [.ref 35, .ref 1, .ref 22, .ref 28, .int l6, .int l7]) (rest := [.int l5]) rfl rfl (fun _ _ => rfl) (c_X0_goOn l6 l7 σ) (j_dd rfl hd) rfl (fun v2 σ1 => ?_)
      refine j_max (pc' := 95) rfl rfl rfl ?_
      refine j_leti (fun v3 => ?_)
      refine j_istore (pc' := 97) (L' := [some (.ref 35), some (.ref 1), some (.ref 22), some (.ref 28), some (.int l4), some (.int v3), some (.int l6), some (.int l7)]) rfl rfl rfl ?_
      refine j_iincx (pc' := 100) (y := (-1 : Int32)) (L' := [some (.ref 35), some (.ref 1), some (.ref 22), some (.ref 28), some (.int l4), some (.int v3), some (.int l6), some (.int (l7 + (-1 : Int32)))]) rfl rfl rfl rfl rfl ?_
      refine j_goto (t := 74) rfl rfl ?_
      exact ih v3 (l7 + (-1 : Int32)) σ1
    · refine j_wk [true, true, true, true, true, true, true, false] (L' := [some (.ref 35), some (.ref 1), some (.ref 22), some (.ref 28), some (.int l4), some (.int l5), some (.int l6), none]) rfl ?_
      exact j_end (fun _ h => h)

theorem l_X0_most_44 {d : Nat} (hd : 3 ≤ d) (τ : j_G) (l4 : Int32) : ∀ (n : Nat) (l5 : Int32) (l6 : Int32) (σ : j_G), j_J true τ M_cX0_most d 44 [some (.ref 35), some (.ref 1), some (.ref 22), some (.ref 28), some (.int l4), some (.int l5), some (.int l6), none] [] σ (p_X0_most_44 l4 n l5 l6 σ) (fun r Q => j_Tr true τ M_cX0_most d 109 [none, none, none, none, none, some (.int r.1), none, none] [] r.2 Q) := by
  intro n
  induction n with
  | zero => intro l5 l6 σ; exact j_none
  | succ n ih =>
    intro l5 l6 σ
    unfold p_X0_most_44
    refine j_iload (pc' := 46) rfl rfl rfl ?_
    refine j_iload (pc' := 48) rfl rfl rfl ?_
    refine j_two (pT := 60) (pF := 109) (L1 := [some (.ref 35), some (.ref 1), some (.ref 22), some (.ref 28), some (.int l4), some (.int l5), some (.int l6), none]) (st1 := []) (fun o kT kF => ?_) (fun h3 => ?_) (fun h3 => ?_)
    · refine j_icge (t := 109) (pc' := 51) rfl rfl rfl (fun h4 => ?_) (fun h4 => ?_)
      · exact kF (fun z => h4 z.1)
      · refine j_iload (pc' := 53) rfl rfl rfl ?_
        refine j_aload_n (pc' := 54) rfl rfl rfl ?_
        refine j_gfi (pc' := 57) rfl rfl j_a22 rfl ?_
        refine j_icge (t := 109) (pc' := 60) rfl rfl rfl (fun h5 => ?_) (fun h5 => ?_)
        · exact kF (fun z => (h5) z.2)
        · exact kT (⟨h4, h5⟩)
    · refine j_aload_n (pc' := 61) rfl rfl rfl ?_
      refine j_gfr (pc' := 64) (x := 25) rfl rfl j_a22 rfl rfl ?_
      refine j_iload (pc' := 66) rfl rfl rfl ?_
      refine j_iald (pc' := 67) rfl rfl j_a25 ?_
      refine j_q2 (Φl := (fun r Q => j_Tr true τ M_cX0_most d 103 [some (.ref 35), some (.ref 1), some (.ref 22), some (.ref 28), some (.int l4), some (.int r.1), some (.int l6), none] [] r.2 Q)) ?_ (fun v1 σ2 => ?_)
      · refine j_two (pT := 70) (pF := 103) (L1 := [some (.ref 35), some (.ref 1), some (.ref 22), some (.ref 28), some (.int l4), some (.int l5), some (.int l6), none]) (st1 := []) (fun o kT kF => ?_) (fun h1 => ?_) (fun h1 => ?_)
        · refine j_ifne (t := 103) (pc' := 70) rfl rfl rfl (fun h2 => ?_) (fun h2 => ?_)
          · exact kF h2
          · exact kT h2
        · refine j_iload (pc' := 72) rfl rfl rfl ?_
          refine j_istore (pc' := 74) (L' := [some (.ref 35), some (.ref 1), some (.ref 22), some (.ref 28), some (.int l4), some (.int l5), some (.int l6), some (.int l5)]) rfl rfl rfl ?_
          refine j_q2 (l_X0_most_74 hd τ l4 l6 j_F l5 l5 σ) (fun v3 σ4 => ?_)
          show j_J true τ M_cX0_most d 103 [some (.ref 35), some (.ref 1), some (.ref 22), some (.ref 28), some (.int l4), some (.int v3), some (.int l6), none] [] σ4 _ _
          exact j_end (fun _ h => h)
        · exact j_end (fun _ h => h)
      show j_J true τ M_cX0_most d 103 [some (.ref 35), some (.ref 1), some (.ref 22), some (.ref 28), some (.int l4), some (.int v1), some (.int l6), none] [] σ2 _ _
      refine j_iincx (pc' := 106) (y := (1 : Int32)) (L' := [some (.ref 35), some (.ref 1), some (.ref 22), some (.ref 28), some (.int l4), some (.int v1), some (.int (l6 + (1 : Int32))), none]) rfl rfl rfl rfl rfl ?_
      refine j_goto (t := 44) rfl rfl ?_
      exact ih v1 (l6 + (1 : Int32)) σ2
    · refine j_wk [false, false, false, false, false, true, false, true] (L' := [none, none, none, none, none, some (.int l5), none, none]) rfl ?_
      exact j_end (fun _ h => h)

theorem c_X0_most (l4 : Int32) (σ : j_G) : j_K true 3 1 [.ref 35, .ref 1, .ref 22, .ref 28, .int l4] σ (f_X0_most l4 σ) j_Ri := by
  refine j_mkK (M := M_cX0_most) (L := [some (.ref 35), some (.ref 1), some (.ref 22), some (.ref 28), some (.int l4), none, none, none]) (m := 3) t_1 rfl (j_rcvO j_a35 rfl) rfl (fun d hd τ => ?_)
  unfold f_X0_most
  refine j_iconst (pc' := 1) (x := (0 : Int32)) rfl rfl rfl ?_
  refine j_istore (pc' := 3) (L' := [some (.ref 35), some (.ref 1), some (.ref 22), some (.ref 28), some (.int l4), some (.int (0 : Int32)), none, none]) rfl rfl rfl ?_
  refine j_q1 (l_X0_most_3 hd τ l4 j_F (0 : Int32) σ) (fun σ1 => ?_)
  show j_J true τ M_cX0_most d 28 [some (.ref 35), some (.ref 1), some (.ref 22), some (.ref 28), some (.int l4), none, none, none] [] σ1 _ _
  refine j_aload_n (pc' := 29) rfl rfl rfl ?_
  refine j_aload_n (pc' := 30) rfl rfl rfl ?_
  refine j_gfi (pc' := 33) rfl rfl j_a28 rfl ?_
  refine j_iconst (pc' := 34) (x := (0 : Int32)) rfl rfl rfl ?_
  refine j_iconst (pc' := 35) (x := (0 : Int32)) rfl rfl rfl ?_
  refine j_callRv (pc' := 38) (ai := 4) (vs := [.ref 35, .int (σ1.1 28 4), .int (0 : Int32), .int (0 : Int32)]) (rest := []) rfl rfl (fun _ _ => rfl) (c_X0_keep (σ1.1 28 4) (0 : Int32) (0 : Int32) σ1) (j_dd rfl hd) rfl (fun σ2 => ?_)
  refine j_iconst (pc' := 39) (x := (0 : Int32)) rfl rfl rfl ?_
  refine j_istore (pc' := 41) (L' := [some (.ref 35), some (.ref 1), some (.ref 22), some (.ref 28), some (.int l4), some (.int (0 : Int32)), none, none]) rfl rfl rfl ?_
  refine j_iconst (pc' := 42) (x := (0 : Int32)) rfl rfl rfl ?_
  refine j_istore (pc' := 44) (L' := [some (.ref 35), some (.ref 1), some (.ref 22), some (.ref 28), some (.int l4), some (.int (0 : Int32)), some (.int (0 : Int32)), none]) rfl rfl rfl ?_
  refine j_q2 (l_X0_most_44 hd τ l4 j_F (0 : Int32) (0 : Int32) σ2) (fun v3 σ4 => ?_)
  show j_J true τ M_cX0_most d 109 [none, none, none, none, none, some (.int v3), none, none] [] σ4 _ _
  refine j_iload (pc' := 111) rfl rfl rfl ?_
  exact j_ret rfl rfl rfl (fun _ h => h)

noncomputable def f_X11_ahead (l1 : Int32) (l2 : Int32) (σ : j_G) : Option (Int32 × j_G) :=
  if (¬ l2 < 0) ∧ (¬ (60 : Int32) < l2) then (j_b2 (f_X11_makeReady l1 σ) fun v2 σ1 =>
  if v2 = 0 then (some ((-2 : Int32), σ1)) else (j_b2 (f_X0_most l2 σ1) fun v4 σ3 =>
  some (v4, σ3))) else (some ((-2 : Int32), σ))
theorem c_X11_ahead (l1 : Int32) (l2 : Int32) (σ : j_G) : j_K true 4 134 [.ref 0, .int l1, .int l2] σ (f_X11_ahead l1 l2 σ) j_Ri := by
  refine j_mkK (M := M_cX11_ahead) (L := [some (.ref 0), some (.int l1), some (.int l2)]) (m := 0) t_134 rfl (j_rcvO j_a0 rfl) rfl (fun d hd τ => ?_)
  unfold f_X11_ahead
  refine j_iload_n (pc' := 1) rfl rfl rfl ?_
  refine j_two (pT := 10) (pF := 18) (L1 := [some (.ref 0), some (.int l1), some (.int l2)]) (st1 := []) (fun o kT kF => ?_) (fun h3 => ?_) (fun h3 => ?_)
  · refine j_iflt (t := 18) (pc' := 4) rfl rfl rfl (fun h4 => ?_) (fun h4 => ?_)
    · exact kF (fun z => z.1 h4)
    · refine j_iload_n (pc' := 5) rfl rfl rfl ?_
      refine j_bipush (pc' := 7) (x := (60 : Int32)) rfl rfl rfl ?_
      refine j_icgt (t := 18) (pc' := 10) rfl rfl rfl (fun h5 => ?_) (fun h5 => ?_)
      · exact kF (fun z => (fun z => z h5) z.2)
      · exact kT (⟨h4, h5⟩)
  · refine j_aload_n (pc' := 11) rfl rfl rfl ?_
    refine j_iload_n (pc' := 12) rfl rfl rfl ?_
    refine j_callRi (pc' := 15) (ai := 186) (vs := [.ref 0, .int l1]) (rest := []) rfl rfl (fun _ _ => rfl) (c_X11_makeReady l1 σ) (j_dd rfl hd) rfl (fun v2 σ1 => ?_)
    refine j_two (pT := 18) (pF := 21) (L1 := [some (.ref 0), some (.int l1), some (.int l2)]) (st1 := []) (fun o kT kF => ?_) (fun h1 => ?_) (fun h1 => ?_)
    · refine j_ifne (t := 21) (pc' := 18) rfl rfl rfl (fun h2 => ?_) (fun h2 => ?_)
      · exact kF h2
      · exact kT h2
    · refine j_bipush (pc' := 20) (x := (-2 : Int32)) rfl rfl rfl ?_
      exact j_ret rfl rfl rfl (fun _ h => h)
    · refine j_aload_n (pc' := 22) rfl rfl rfl ?_
      refine j_gfr (pc' := 25) (x := 35) rfl rfl j_a0 rfl rfl ?_
      refine j_aload_n (pc' := 26) rfl rfl rfl ?_
      refine j_gfr (pc' := 29) (x := 1) rfl rfl j_a0 rfl rfl ?_
      refine j_aload_n (pc' := 30) rfl rfl rfl ?_
      refine j_gfr (pc' := 33) (x := 22) rfl rfl j_a0 rfl rfl ?_
      refine j_aload_n (pc' := 34) rfl rfl rfl ?_
      refine j_gfr (pc' := 37) (x := 28) rfl rfl j_a0 rfl rfl ?_
      refine j_iload_n (pc' := 38) rfl rfl rfl ?_
      refine j_callRi (pc' := 41) (ai := 1) (vs := [.ref 35, .ref 1, .ref 22, .ref 28, .int l2]) (rest := []) rfl rfl (fun _ _ => rfl) (c_X0_most l2 σ1) (j_dd rfl hd) rfl (fun v4 σ3 => ?_)
      exact j_ret rfl rfl rfl (fun _ h => h)
  · refine j_bipush (pc' := 20) (x := (-2 : Int32)) rfl rfl rfl ?_
    exact j_ret rfl rfl rfl (fun _ h => h)

noncomputable def f_X11_best (l1 : Int32) (σ : j_G) : Option (Int32 × j_G) :=
  j_b2 (f_X11_ahead l1 (60 : Int32) σ) fun v2 σ1 =>
  some (v2, σ1)
theorem c_X11_best (l1 : Int32) (σ : j_G) : j_K true 5 133 [.ref 0, .int l1] σ (f_X11_best l1 σ) j_Ri := by
  refine j_mkK (M := M_cX11_best) (L := [some (.ref 0), some (.int l1)]) (m := 0) t_133 rfl (j_rcvO j_a0 rfl) rfl (fun d hd τ => ?_)
  unfold f_X11_best
  refine j_aload_n (pc' := 1) rfl rfl rfl ?_
  refine j_iload_n (pc' := 2) rfl rfl rfl ?_
  refine j_bipush (pc' := 4) (x := (60 : Int32)) rfl rfl rfl ?_
  refine j_callRi (pc' := 7) (ai := 134) (vs := [.ref 0, .int l1, .int (60 : Int32)]) (rest := []) rfl rfl (fun _ _ => rfl) (c_X11_ahead l1 (60 : Int32) σ) (j_dd rfl hd) rfl (fun v2 σ1 => ?_)
  exact j_ret rfl rfl rfl (fun _ h => h)

noncomputable def f_X12_cell (l0 : Int32) (l1 : Int32) : Int32 :=
  (((121 : Int32) * l0) + l1)
theorem c_X12_cell (l0 : Int32) (l1 : Int32) (σ : j_G) : j_K false 0 266 [.int l0, .int l1] σ (some (f_X12_cell l0 l1)) (j_Pi σ) := by
  refine j_mkK (M := M_cX12_cell) (L := [some (.int l0), some (.int l1)]) (m := 0) t_266 rfl (j_rcvS rfl) rfl (fun d hd τ => ?_)
  unfold f_X12_cell
  refine j_bipush (pc' := 2) (x := (121 : Int32)) rfl rfl rfl ?_
  refine j_iload_n (pc' := 3) rfl rfl rfl ?_
  refine j_imul (pc' := 4) rfl rfl ?_
  refine j_iload_n (pc' := 5) rfl rfl rfl ?_
  refine j_iadd (pc' := 6) rfl rfl ?_
  exact j_ret rfl rfl rfl (fun _ h => h)

noncomputable def f_X12_behind (l1 : Int32) (l2 : Int32) (l3 : Int32) (l4 : Int32) (σ : j_G) : Option Int32 :=
  if l3 = (1000000 : Int32) then (some (1000000 : Int32)) else (j_ix l1 60 (
  j_b1 (f_X12_stepsOf l2 l4 σ) fun v1 =>
  j_b1 (f_X12_paceIn (σ.1 75 19) l3 σ) fun v2 =>
  j_lt (if (σ.1 83 (l1).toNatClampNeg) < (l3 + (v1 * v2)) then (l3 + (v1 * v2)) else (σ.1 83 (l1).toNatClampNeg)) fun v3 =>
  j_ix l1 60 (
  if (σ.1 84 (l1).toNatClampNeg) < v3 then (some (1000000 : Int32)) else (some (v3 + (1 : Int32))))))
theorem c_X12_behind (l1 : Int32) (l2 : Int32) (l3 : Int32) (l4 : Int32) (σ : j_G) : j_K false 2 268 [.ref 75, .int l1, .int l2, .int l3, .int l4] σ (f_X12_behind l1 l2 l3 l4 σ) (j_Pi σ) := by
  refine j_mkK (M := M_cX12_behind) (L := [some (.ref 75), some (.int l1), some (.int l2), some (.int l3), some (.int l4), none]) (m := 1) t_268 rfl (j_rcvO j_a75 rfl) rfl (fun d hd τ => ?_)
  unfold f_X12_behind
  refine j_iload_n (pc' := 1) rfl rfl rfl ?_
  refine j_ldc_w (pc' := 4) (x := (1000000 : Int32)) rfl rfl rfl ?_
  refine j_two (pT := 7) (pF := 11) (L1 := [some (.ref 75), some (.int l1), some (.int l2), some (.int l3), some (.int l4), none]) (st1 := []) (fun o kT kF => ?_) (fun h3 => ?_) (fun h3 => ?_)
  · refine j_icne (t := 11) (pc' := 7) rfl rfl rfl (fun h4 => ?_) (fun h4 => ?_)
    · exact kF h4
    · exact kT h4
  · refine j_ldc_w (pc' := 10) (x := (1000000 : Int32)) rfl rfl rfl ?_
    exact j_ret rfl rfl rfl (fun _ h => h)
  · refine j_aload_n (pc' := 12) rfl rfl rfl ?_
    refine j_gfr (pc' := 15) (x := 83) rfl rfl j_a75 rfl rfl ?_
    refine j_iload_n (pc' := 16) rfl rfl rfl ?_
    refine j_iald (pc' := 17) rfl rfl j_a83 ?_
    refine j_iload_n (pc' := 18) rfl rfl rfl ?_
    refine j_aload_n (pc' := 19) rfl rfl rfl ?_
    refine j_iload_n (pc' := 20) rfl rfl rfl ?_
    refine j_iload (pc' := 22) rfl rfl rfl ?_
    refine j_callPi (pc' := 25) (ai := 248) (vs := [.ref 75, .int l2, .int l4]) (rest := [.int l3, .int (σ.1 83 (l1).toNatClampNeg)]) rfl rfl (fun _ _ => rfl) (c_X12_stepsOf l2 l4 σ) (j_dd rfl hd) rfl (fun v1 => ?_)
    refine j_aload_n (pc' := 26) rfl rfl rfl ?_
    refine j_aload_n (pc' := 27) rfl rfl rfl ?_
    refine j_gfi (pc' := 30) rfl rfl j_a75 rfl ?_
    refine j_iload_n (pc' := 31) rfl rfl rfl ?_
    refine j_callPi (pc' := 34) (ai := 250) (vs := [.ref 75, .int (σ.1 75 19), .int l3]) (rest := [.int v1, .int l3, .int (σ.1 83 (l1).toNatClampNeg)]) rfl rfl (fun _ _ => rfl) (c_X12_paceIn (σ.1 75 19) l3 σ) (j_dd rfl hd) rfl (fun v2 => ?_)
    refine j_imul (pc' := 35) rfl rfl ?_
    refine j_iadd (pc' := 36) rfl rfl ?_
    refine j_max (pc' := 39) rfl rfl rfl ?_
    refine j_leti (fun v3 => ?_)
    refine j_istore (pc' := 41) (L' := [some (.ref 75), some (.int l1), some (.int l2), some (.int l3), some (.int l4), some (.int v3)]) rfl rfl rfl ?_
    refine j_iload (pc' := 43) rfl rfl rfl ?_
    refine j_aload_n (pc' := 44) rfl rfl rfl ?_
    refine j_gfr (pc' := 47) (x := 84) rfl rfl j_a75 rfl rfl ?_
    refine j_iload_n (pc' := 48) rfl rfl rfl ?_
    refine j_iald (pc' := 49) rfl rfl j_a84 ?_
    refine j_two (pT := 52) (pF := 58) (L1 := [some (.ref 75), some (.int l1), some (.int l2), some (.int l3), some (.int l4), some (.int v3)]) (st1 := []) (fun o kT kF => ?_) (fun h1 => ?_) (fun h1 => ?_)
    · refine j_icle (t := 58) (pc' := 52) rfl rfl rfl (fun h2 => ?_) (fun h2 => ?_)
      · exact kF h2
      · exact kT h2
    · refine j_ldc_w (pc' := 55) (x := (1000000 : Int32)) rfl rfl rfl ?_
      refine j_goto (t := 62) rfl rfl ?_
      exact j_ret rfl rfl rfl (fun _ h => h)
    · refine j_iload (pc' := 60) rfl rfl rfl ?_
      refine j_iconst (pc' := 61) (x := (1 : Int32)) rfl rfl rfl ?_
      refine j_iadd (pc' := 62) rfl rfl ?_
      exact j_ret rfl rfl rfl (fun _ h => h)

noncomputable def f_X12_sooner (l1 : Int32) (l2 : Int32) (l3 : Int32) (σ : j_G) : Option j_G :=
  j_ix (f_X12_cell l1 l2) 1452 (
  j_ix (f_X12_cell l1 l2) 1452 (
  j_lt (j_si σ 89 ((f_X12_cell l1 l2)).toNatClampNeg (if l3 < (σ.1 89 ((f_X12_cell l1 l2)).toNatClampNeg) then l3 else (σ.1 89 ((f_X12_cell l1 l2)).toNatClampNeg))) fun σ1 =>
  some σ1))
theorem c_X12_sooner (l1 : Int32) (l2 : Int32) (l3 : Int32) (σ : j_G) : j_K false 1 267 [.ref 75, .int l1, .int l2, .int l3] σ (f_X12_sooner l1 l2 l3 σ) j_Rv := by
  refine j_mkK (M := M_cX12_sooner) (L := [some (.ref 75), some (.int l1), some (.int l2), some (.int l3)]) (m := 0) t_267 rfl (j_rcvO j_a75 rfl) rfl (fun d hd τ => ?_)
  unfold f_X12_sooner
  refine j_aload_n (pc' := 1) rfl rfl rfl ?_
  refine j_gfr (pc' := 4) (x := 89) rfl rfl j_a75 rfl rfl ?_
  refine j_iload_n (pc' := 5) rfl rfl rfl ?_
  refine j_iload_n (pc' := 6) rfl rfl rfl ?_
  refine j_callTi (pc' := 9) (ai := 266) (vs := [.int l1, .int l2]) (rest := [.ref 89]) rfl rfl (fun _ _ => rfl) (c_X12_cell l1 l2 σ) (j_dd rfl hd) rfl ?_
  refine j_aload_n (pc' := 10) rfl rfl rfl ?_
  refine j_gfr (pc' := 13) (x := 89) rfl rfl j_a75 rfl rfl ?_
  refine j_iload_n (pc' := 14) rfl rfl rfl ?_
  refine j_iload_n (pc' := 15) rfl rfl rfl ?_
  refine j_callTi (pc' := 18) (ai := 266) (vs := [.int l1, .int l2]) (rest := [.ref 89, .int (f_X12_cell l1 l2), .ref 89]) rfl rfl (fun _ _ => rfl) (c_X12_cell l1 l2 σ) (j_dd rfl hd) rfl ?_
  refine j_iald (pc' := 19) rfl rfl j_a89 ?_
  refine j_iload_n (pc' := 20) rfl rfl rfl ?_
  refine j_min (pc' := 23) rfl rfl rfl ?_
  refine j_iast (pc' := 24) rfl rfl j_a89 (fun σ1 => ?_)
  exact j_ret rfl rfl rfl (fun _ h => h)

noncomputable def p_X12_mayHit_15 (l1 : Int32) (l2 : Int32) (l3 : Int32) (l4 : Int32) : Nat → Int32 → j_G → Option j_G
  | 0, _, _ => none
  | n + 1, l5, σ =>
    if (l5 + (2 : Int32)) < (121 : Int32) then (j_ix (f_X12_cell l4 l5) 1452 (
    j_b1 (f_X12_behind l1 l4 (σ.1 90 ((f_X12_cell l4 l5)).toNatClampNeg) l2 σ) fun v1 =>
    j_b1 (f_X12_sooner l2 (l5 + (1 : Int32)) v1 σ) fun σ2 =>
    j_b1 (if ¬ l3 = (-1 : Int32) then (j_b1 (f_X12_behind l1 l2 v1 l3 σ2) fun v4 =>
    j_b1 (f_X12_sooner l3 (l5 + (2 : Int32)) v4 σ2) fun σ5 =>
    some σ5) else (some σ2)) fun σ3 =>
    p_X12_mayHit_15 l1 l2 l3 l4 n (l5 + (1 : Int32)) σ3)) else (some σ)

noncomputable def p_X12_mayHit_3 (l1 : Int32) (l2 : Int32) (l3 : Int32) : Nat → Int32 → j_G → Option j_G
  | 0, _, _ => none
  | n + 1, l4, σ =>
    j_b1 (f_X12_holes σ) fun v1 =>
    if l4 < v1 then (j_b1 (p_X12_mayHit_15 l1 l2 l3 l4 j_F (0 : Int32) σ) fun σ2 =>
    p_X12_mayHit_3 l1 l2 l3 n (l4 + (1 : Int32)) σ2) else (some σ)

noncomputable def f_X12_mayHit (l1 : Int32) (l2 : Int32) (l3 : Int32) (σ : j_G) : Option j_G :=
  j_b1 (p_X12_mayHit_3 l1 l2 l3 j_F (0 : Int32) σ) fun σ1 =>
  some σ1
theorem l_X12_mayHit_15 {d : Nat} (hd : 3 ≤ d) (τ : j_G) (l1 : Int32) (l2 : Int32) (l3 : Int32) (l4 : Int32) : ∀ (n : Nat) (l5 : Int32) (σ : j_G), j_J false τ M_cX12_mayHit d 15 [some (.ref 75), some (.int l1), some (.int l2), some (.int l3), some (.int l4), some (.int l5), none] [] σ (p_X12_mayHit_15 l1 l2 l3 l4 n l5 σ) (fun r Q => j_Tr false τ M_cX12_mayHit d 86 [some (.ref 75), some (.int l1), some (.int l2), some (.int l3), some (.int l4), none, none] [] r Q) := by
  intro n
  induction n with
  | zero => intro l5 σ; exact j_none
  | succ n ih =>
    intro l5 σ
    unfold p_X12_mayHit_15
    refine j_iload (pc' := 17) rfl rfl rfl ?_
    refine j_iconst (pc' := 18) (x := (2 : Int32)) rfl rfl rfl ?_
    refine j_iadd (pc' := 19) rfl rfl ?_
    refine j_bipush (pc' := 21) (x := (121 : Int32)) rfl rfl rfl ?_
    refine j_two (pT := 24) (pF := 86) (L1 := [some (.ref 75), some (.int l1), some (.int l2), some (.int l3), some (.int l4), some (.int l5), none]) (st1 := []) (fun o kT kF => ?_) (fun h3 => ?_) (fun h3 => ?_)
    · refine j_icge (t := 86) (pc' := 24) rfl rfl rfl (fun h4 => ?_) (fun h4 => ?_)
      · exact kF h4
      · exact kT h4
    · refine j_aload_n (pc' := 25) rfl rfl rfl ?_
      refine j_iload_n (pc' := 26) rfl rfl rfl ?_
      refine j_iload (pc' := 28) rfl rfl rfl ?_
      refine j_aload_n (pc' := 29) rfl rfl rfl ?_
      refine j_gfr (pc' := 32) (x := 90) rfl rfl j_a75 rfl rfl ?_
      refine j_iload (pc' := 34) rfl rfl rfl ?_
      refine j_iload (pc' := 36) rfl rfl rfl ?_
      refine j_callTi (pc' := 39) (ai := 266) (vs := [.int l4, .int l5]) (rest := [.ref 90, .int l4, .int l1, .ref 75]) rfl rfl (fun _ _ => rfl) (c_X12_cell l4 l5 σ) (j_dd rfl hd) rfl ?_
      refine j_iald (pc' := 40) rfl rfl j_a90 ?_
      refine j_iload_n (pc' := 41) rfl rfl rfl ?_
      refine j_callPi (pc' := 44) (ai := 268) (vs := [.ref 75, .int l1, .int l4, .int (σ.1 90 ((f_X12_cell l4 l5)).toNatClampNeg), .int l2]) (rest := []) rfl rfl (fun _ _ => rfl) (c_X12_behind l1 l4 (σ.1 90 ((f_X12_cell l4 l5)).toNatClampNeg) l2 σ) (j_dd rfl hd) rfl (fun v1 => ?_)
      refine j_istore (pc' := 46) (L' := [some (.ref 75), some (.int l1), some (.int l2), some (.int l3), some (.int l4), some (.int l5), some (.int v1)]) rfl rfl rfl ?_
      refine j_aload_n (pc' := 47) rfl rfl rfl ?_
      refine j_iload_n (pc' := 48) rfl rfl rfl ?_
      refine j_iload (pc' := 50) rfl rfl rfl ?_
      refine j_iconst (pc' := 51) (x := (1 : Int32)) rfl rfl rfl ?_
      refine j_iadd (pc' := 52) rfl rfl ?_
      refine j_iload (pc' := 54) rfl rfl rfl ?_
      refine j_callRv (pc' := 57) (ai := 267) (vs := [.ref 75, .int l2, .int (l5 + (1 : Int32)), .int v1]) (rest := []) rfl rfl (fun _ _ => rfl) (c_X12_sooner l2 (l5 + (1 : Int32)) v1 σ) (j_dd rfl hd) rfl (fun σ2 => ?_)
      refine j_iload_n (pc' := 58) rfl rfl rfl ?_
      refine j_iconst (pc' := 59) (x := (-1 : Int32)) rfl rfl rfl ?_
      refine j_q1 (Φl := (fun r Q => j_Tr false τ M_cX12_mayHit d 80 [some (.ref 75), some (.int l1), some (.int l2), some (.int l3), some (.int l4), some (.int l5), none] [] r Q)) ?_ (fun σ3 => ?_)
      · refine j_two (pT := 62) (pF := 80) (L1 := [some (.ref 75), some (.int l1), some (.int l2), some (.int l3), some (.int l4), some (.int l5), some (.int v1)]) (st1 := []) (fun o kT kF => ?_) (fun h1 => ?_) (fun h1 => ?_)
        · refine j_iceq (t := 80) (pc' := 62) rfl rfl rfl (fun h2 => ?_) (fun h2 => ?_)
          · exact kF (fun z => z h2)
          · exact kT h2
        · refine j_aload_n (pc' := 63) rfl rfl rfl ?_
          refine j_iload_n (pc' := 64) rfl rfl rfl ?_
          refine j_iload (pc' := 66) rfl rfl rfl ?_
          refine j_iconst (pc' := 67) (x := (2 : Int32)) rfl rfl rfl ?_
          refine j_iadd (pc' := 68) rfl rfl ?_
          refine j_aload_n (pc' := 69) rfl rfl rfl ?_
          refine j_iload_n (pc' := 70) rfl rfl rfl ?_
          refine j_iload_n (pc' := 71) rfl rfl rfl ?_
          refine j_iload (pc' := 73) rfl rfl rfl ?_
          refine j_iload_n (pc' := 74) rfl rfl rfl ?_
          refine j_callPi (pc' := 77) (ai := 268) (vs := [.ref 75, .int l1, .int l2, .int v1, .int l3]) (rest := [.int (l5 + (2 : Int32)), .int l3, .ref 75]) rfl rfl (fun _ _ => rfl) (c_X12_behind l1 l2 v1 l3 σ2) (j_dd rfl hd) rfl (fun v4 => ?_)
          refine j_callRv (pc' := 80) (ai := 267) (vs := [.ref 75, .int l3, .int (l5 + (2 : Int32)), .int v4]) (rest := []) rfl rfl (fun _ _ => rfl) (c_X12_sooner l3 (l5 + (2 : Int32)) v4 σ2) (j_dd rfl hd) rfl (fun σ5 => ?_)
          refine j_wk [true, true, true, true, true, true, false] (L' := [some (.ref 75), some (.int l1), some (.int l2), some (.int l3), some (.int l4), some (.int l5), none]) rfl ?_
          exact j_end (fun _ h => h)
        · refine j_wk [true, true, true, true, true, true, false] (L' := [some (.ref 75), some (.int l1), some (.int l2), some (.int l3), some (.int l4), some (.int l5), none]) rfl ?_
          exact j_end (fun _ h => h)
      show j_J false τ M_cX12_mayHit d 80 [some (.ref 75), some (.int l1), some (.int l2), some (.int l3), some (.int l4), some (.int l5), none] [] σ3 _ _
      refine j_iincx (pc' := 83) (y := (1 : Int32)) (L' := [some (.ref 75), some (.int l1), some (.int l2), some (.int l3), some (.int l4), some (.int (l5 + (1 : Int32))), none]) rfl rfl rfl rfl rfl ?_
      refine j_goto (t := 15) rfl rfl ?_
      exact ih (l5 + (1 : Int32)) σ3
    · refine j_wk [true, true, true, true, true, false, true] (L' := [some (.ref 75), some (.int l1), some (.int l2), some (.int l3), some (.int l4), none, none]) rfl ?_
      exact j_end (fun _ h => h)

theorem l_X12_mayHit_3 {d : Nat} (hd : 3 ≤ d) (τ : j_G) (l1 : Int32) (l2 : Int32) (l3 : Int32) : ∀ (n : Nat) (l4 : Int32) (σ : j_G), j_J false τ M_cX12_mayHit d 3 [some (.ref 75), some (.int l1), some (.int l2), some (.int l3), some (.int l4), none, none] [] σ (p_X12_mayHit_3 l1 l2 l3 n l4 σ) (fun r Q => j_Tr false τ M_cX12_mayHit d 92 [none, none, none, none, none, none, none] [] r Q) := by
  intro n
  induction n with
  | zero => intro l4 σ; exact j_none
  | succ n ih =>
    intro l4 σ
    unfold p_X12_mayHit_3
    refine j_iload (pc' := 5) rfl rfl rfl ?_
    refine j_aload_n (pc' := 6) rfl rfl rfl ?_
    refine j_callPi (pc' := 9) (ai := 200) (vs := [.ref 75]) (rest := [.int l4]) rfl rfl (fun _ _ => rfl) (c_X12_holes  σ) (j_dd rfl hd) rfl (fun v1 => ?_)
    refine j_two (pT := 12) (pF := 92) (L1 := [some (.ref 75), some (.int l1), some (.int l2), some (.int l3), some (.int l4), none, none]) (st1 := []) (fun o kT kF => ?_) (fun h1 => ?_) (fun h1 => ?_)
    · refine j_icge (t := 92) (pc' := 12) rfl rfl rfl (fun h2 => ?_) (fun h2 => ?_)
      · exact kF h2
      · exact kT h2
    · refine j_iconst (pc' := 13) (x := (0 : Int32)) rfl rfl rfl ?_
      refine j_istore (pc' := 15) (L' := [some (.ref 75), some (.int l1), some (.int l2), some (.int l3), some (.int l4), some (.int (0 : Int32)), none]) rfl rfl rfl ?_
      refine j_q1 (l_X12_mayHit_15 hd τ l1 l2 l3 l4 j_F (0 : Int32) σ) (fun σ2 => ?_)
      show j_J false τ M_cX12_mayHit d 86 [some (.ref 75), some (.int l1), some (.int l2), some (.int l3), some (.int l4), none, none] [] σ2 _ _
      refine j_iincx (pc' := 89) (y := (1 : Int32)) (L' := [some (.ref 75), some (.int l1), some (.int l2), some (.int l3), some (.int (l4 + (1 : Int32))), none, none]) rfl rfl rfl rfl rfl ?_
      refine j_goto (t := 3) rfl rfl ?_
      exact ih (l4 + (1 : Int32)) σ2
    · refine j_wk [false, false, false, false, false, true, true] (L' := [none, none, none, none, none, none, none]) rfl ?_
      exact j_end (fun _ h => h)

theorem c_X12_mayHit (l1 : Int32) (l2 : Int32) (l3 : Int32) (σ : j_G) : j_K false 3 269 [.ref 75, .int l1, .int l2, .int l3] σ (f_X12_mayHit l1 l2 l3 σ) j_Rv := by
  refine j_mkK (M := M_cX12_mayHit) (L := [some (.ref 75), some (.int l1), some (.int l2), some (.int l3), none, none, none]) (m := 3) t_269 rfl (j_rcvO j_a75 rfl) rfl (fun d hd τ => ?_)
  unfold f_X12_mayHit
  refine j_iconst (pc' := 1) (x := (0 : Int32)) rfl rfl rfl ?_
  refine j_istore (pc' := 3) (L' := [some (.ref 75), some (.int l1), some (.int l2), some (.int l3), some (.int (0 : Int32)), none, none]) rfl rfl rfl ?_
  refine j_q1 (l_X12_mayHit_3 hd τ l1 l2 l3 j_F (0 : Int32) σ) (fun σ1 => ?_)
  show j_J false τ M_cX12_mayHit d 92 [none, none, none, none, none, none, none] [] σ1 _ _
  exact j_ret rfl rfl rfl (fun _ h => h)

noncomputable def p_X12_bestOf_11 (l1 : Int32) (l2 : Int32) : Nat → Int32 → j_G → Option j_G
  | 0, _, _ => none
  | n + 1, l3, σ =>
    if l3 < (1452 : Int32) then (j_ix l3 1452 (
    j_lt (j_si σ 89 (l3).toNatClampNeg (1000000 : Int32)) fun σ1 =>
    p_X12_bestOf_11 l1 l2 n (l3 + (1 : Int32)) σ1)) else (some σ)

noncomputable def p_X12_bestOf_82 (l2 : Int32) (l3 : Int32) : Nat → Int32 → j_G → Option j_G
  | 0, _, _ => none
  | n + 1, l4, σ =>
    if l4 < (1452 : Int32) then (j_ix l4 1452 (
    j_ix l4 1452 (
    j_lt (j_si σ 90 (l4).toNatClampNeg (σ.1 89 (l4).toNatClampNeg)) fun σ1 =>
    p_X12_bestOf_82 l2 l3 n (l4 + (1 : Int32)) σ1))) else (some σ)

noncomputable def p_X12_bestOf_53 (l2 : Int32) : Nat → Int32 → j_G → Option j_G
  | 0, _, _ => none
  | n + 1, l3, σ =>
    if (l3 < (σ.1 75 18)) ∧ (l3 < l2) then (j_b1 (f_X12_inGame l3 (2 : Int32) σ) fun v1 =>
    j_b1 (if v1 = (1 : Int32) then (some σ) else (j_b1 (p_X12_bestOf_82 l2 l3 j_F (0 : Int32) σ) fun σ3 =>
    j_b1 (f_X12_inGame l3 (0 : Int32) σ3) fun v4 =>
    j_b1 (f_X12_inGame l3 (1 : Int32) σ3) fun v5 =>
    j_b1 (f_X12_mayHit l3 v4 v5 σ3) fun σ6 =>
    j_b1 (f_X12_inGame l3 (1 : Int32) σ6) fun v7 =>
    if ¬ v7 = (-1 : Int32) then (j_b1 (f_X12_inGame l3 (1 : Int32) σ6) fun v8 =>
    j_b1 (f_X12_inGame l3 (0 : Int32) σ6) fun v9 =>
    j_b1 (f_X12_mayHit l3 v8 v9 σ6) fun σ10 =>
    some σ10) else (some σ6))) fun σ2 =>
    p_X12_bestOf_53 l2 n (l3 + (1 : Int32)) σ2) else (some σ)

noncomputable def p_X12_bestOf_179 (l4 : Int32) (σ : j_G) : Nat → Int32 → Int32 → Option Int32
  | 0, _, _ => none
  | n + 1, l3, l5 =>
    if l5 < (121 : Int32) then (j_ix (f_X12_cell l4 l5) 1452 (
    j_lt (if (σ.1 89 ((f_X12_cell l4 l5)).toNatClampNeg) < (1000000 : Int32) then ((if l3 < l5 then l5 else l3)) else (l3)) fun v1 =>
    p_X12_bestOf_179 l4 σ n v1 (l5 + (1 : Int32)))) else (some l3)

noncomputable def p_X12_bestOf_167 (σ : j_G) : Nat → Int32 → Int32 → Option Int32
  | 0, _, _ => none
  | n + 1, l3, l4 =>
    j_b1 (f_X12_holes σ) fun v1 =>
    if l4 < v1 then (j_b1 (p_X12_bestOf_179 l4 σ j_F l3 (0 : Int32)) fun v2 =>
    p_X12_bestOf_167 σ n v2 (l4 + (1 : Int32))) else (some l3)

noncomputable def f_X12_bestOf (l1 : Int32) (l2 : Int32) (σ : j_G) : Option (Int32 × j_G) :=
  j_b1 (f_X12_lay σ) fun σ1 =>
  j_lt (j_si σ1 75 19 l1) fun σ2 =>
  j_b1 (p_X12_bestOf_11 l1 l2 j_F (0 : Int32) σ2) fun σ3 =>
  j_b1 (f_X12_of l1 (4 : Int32) σ3) fun v4 =>
  j_ix (f_X12_cell v4 (0 : Int32)) 1452 (
  j_lt (j_si σ3 89 ((f_X12_cell v4 (0 : Int32))).toNatClampNeg (0 : Int32)) fun σ5 =>
  j_b1 (p_X12_bestOf_53 l2 j_F (0 : Int32) σ5) fun σ6 =>
  j_b1 (p_X12_bestOf_167 σ6 j_F (0 : Int32) (0 : Int32)) fun v7 =>
  some (v7, σ6))
theorem l_X12_bestOf_11 {d : Nat} (hd : 4 ≤ d) (τ : j_G) (l1 : Int32) (l2 : Int32) : ∀ (n : Nat) (l3 : Int32) (σ : j_G), j_J false τ M_cX12_bestOf d 11 [some (.ref 75), some (.int l1), some (.int l2), some (.int l3), none, none] [] σ (p_X12_bestOf_11 l1 l2 n l3 σ) (fun r Q => j_Tr false τ M_cX12_bestOf d 35 [some (.ref 75), some (.int l1), some (.int l2), none, none, none] [] r Q) := by
  intro n
  induction n with
  | zero => intro l3 σ; exact j_none
  | succ n ih =>
    intro l3 σ
    unfold p_X12_bestOf_11
    refine j_iload_n (pc' := 12) rfl rfl rfl ?_
    refine j_aload_n (pc' := 13) rfl rfl rfl ?_
    refine j_gfr (pc' := 16) (x := 89) rfl rfl j_a75 rfl rfl ?_
    refine j_alen (pc' := 17) (v := (1452 : Int32)) rfl rfl j_a89 rfl ?_
    refine j_two (pT := 20) (pF := 35) (L1 := [some (.ref 75), some (.int l1), some (.int l2), some (.int l3), none, none]) (st1 := []) (fun o kT kF => ?_) (fun h1 => ?_) (fun h1 => ?_)
    · refine j_icge (t := 35) (pc' := 20) rfl rfl rfl (fun h2 => ?_) (fun h2 => ?_)
      · exact kF h2
      · exact kT h2
    · refine j_aload_n (pc' := 21) rfl rfl rfl ?_
      refine j_gfr (pc' := 24) (x := 89) rfl rfl j_a75 rfl rfl ?_
      refine j_iload_n (pc' := 25) rfl rfl rfl ?_
      refine j_ldc_w (pc' := 28) (x := (1000000 : Int32)) rfl rfl rfl ?_
      refine j_iast (pc' := 29) rfl rfl j_a89 (fun σ1 => ?_)
      refine j_iincx (pc' := 32) (y := (1 : Int32)) (L' := [some (.ref 75), some (.int l1), some (.int l2), some (.int (l3 + (1 : Int32))), none, none]) rfl rfl rfl rfl rfl ?_
      refine j_goto (t := 11) rfl rfl ?_
      exact ih (l3 + (1 : Int32)) σ1
    · refine j_wk [true, true, true, false, true, true] (L' := [some (.ref 75), some (.int l1), some (.int l2), none, none, none]) rfl ?_
      exact j_end (fun _ h => h)

theorem l_X12_bestOf_82 {d : Nat} (hd : 4 ≤ d) (τ : j_G) (l2 : Int32) (l3 : Int32) : ∀ (n : Nat) (l4 : Int32) (σ : j_G), j_J false τ M_cX12_bestOf d 82 [some (.ref 75), none, some (.int l2), some (.int l3), some (.int l4), none] [] σ (p_X12_bestOf_82 l2 l3 n l4 σ) (fun r Q => j_Tr false τ M_cX12_bestOf d 112 [some (.ref 75), none, some (.int l2), some (.int l3), none, none] [] r Q) := by
  intro n
  induction n with
  | zero => intro l4 σ; exact j_none
  | succ n ih =>
    intro l4 σ
    unfold p_X12_bestOf_82
    refine j_iload (pc' := 84) rfl rfl rfl ?_
    refine j_aload_n (pc' := 85) rfl rfl rfl ?_
    refine j_gfr (pc' := 88) (x := 89) rfl rfl j_a75 rfl rfl ?_
    refine j_alen (pc' := 89) (v := (1452 : Int32)) rfl rfl j_a89 rfl ?_
    refine j_two (pT := 92) (pF := 112) (L1 := [some (.ref 75), none, some (.int l2), some (.int l3), some (.int l4), none]) (st1 := []) (fun o kT kF => ?_) (fun h1 => ?_) (fun h1 => ?_)
    · refine j_icge (t := 112) (pc' := 92) rfl rfl rfl (fun h2 => ?_) (fun h2 => ?_)
      · exact kF h2
      · exact kT h2
    · refine j_aload_n (pc' := 93) rfl rfl rfl ?_
      refine j_gfr (pc' := 96) (x := 90) rfl rfl j_a75 rfl rfl ?_
      refine j_iload (pc' := 98) rfl rfl rfl ?_
      refine j_aload_n (pc' := 99) rfl rfl rfl ?_
      refine j_gfr (pc' := 102) (x := 89) rfl rfl j_a75 rfl rfl ?_
      refine j_iload (pc' := 104) rfl rfl rfl ?_
      refine j_iald (pc' := 105) rfl rfl j_a89 ?_
      refine j_iast (pc' := 106) rfl rfl j_a90 (fun σ1 => ?_)
      refine j_iincx (pc' := 109) (y := (1 : Int32)) (L' := [some (.ref 75), none, some (.int l2), some (.int l3), some (.int (l4 + (1 : Int32))), none]) rfl rfl rfl rfl rfl ?_
      refine j_goto (t := 82) rfl rfl ?_
      exact ih (l4 + (1 : Int32)) σ1
    · refine j_wk [true, true, true, true, false, true] (L' := [some (.ref 75), none, some (.int l2), some (.int l3), none, none]) rfl ?_
      exact j_end (fun _ h => h)

theorem l_X12_bestOf_53 {d : Nat} (hd : 4 ≤ d) (τ : j_G) (l2 : Int32) : ∀ (n : Nat) (l3 : Int32) (σ : j_G), j_J false τ M_cX12_bestOf d 53 [some (.ref 75), none, some (.int l2), some (.int l3), none, none] [] σ (p_X12_bestOf_53 l2 n l3 σ) (fun r Q => j_Tr false τ M_cX12_bestOf d 162 [some (.ref 75), none, none, none, none, none] [] r Q) := by
  intro n
  induction n with
  | zero => intro l3 σ; exact j_none
  | succ n ih =>
    intro l3 σ
    unfold p_X12_bestOf_53
    refine j_iload_n (pc' := 54) rfl rfl rfl ?_
    refine j_aload_n (pc' := 55) rfl rfl rfl ?_
    refine j_gfi (pc' := 58) rfl rfl j_a75 rfl ?_
    refine j_two (pT := 66) (pF := 162) (L1 := [some (.ref 75), none, some (.int l2), some (.int l3), none, none]) (st1 := []) (fun o kT kF => ?_) (fun h5 => ?_) (fun h5 => ?_)
    · refine j_icge (t := 162) (pc' := 61) rfl rfl rfl (fun h6 => ?_) (fun h6 => ?_)
      · exact kF (fun z => h6 z.1)
      · refine j_iload_n (pc' := 62) rfl rfl rfl ?_
        refine j_iload_n (pc' := 63) rfl rfl rfl ?_
        refine j_icge (t := 162) (pc' := 66) rfl rfl rfl (fun h7 => ?_) (fun h7 => ?_)
        · exact kF (fun z => (h7) z.2)
        · exact kT (⟨h6, h7⟩)
    · refine j_aload_n (pc' := 67) rfl rfl rfl ?_
      refine j_iload_n (pc' := 68) rfl rfl rfl ?_
      refine j_iconst (pc' := 69) (x := (2 : Int32)) rfl rfl rfl ?_
      refine j_callPi (pc' := 72) (ai := 238) (vs := [.ref 75, .int l3, .int (2 : Int32)]) (rest := []) rfl rfl (fun _ _ => rfl) (c_X12_inGame l3 (2 : Int32) σ) (j_dd rfl hd) rfl (fun v1 => ?_)
      refine j_iconst (pc' := 73) (x := (1 : Int32)) rfl rfl rfl ?_
      refine j_q1 (Φl := (fun r Q => j_Tr false τ M_cX12_bestOf d 156 [some (.ref 75), none, some (.int l2), some (.int l3), none, none] [] r Q)) ?_ (fun σ2 => ?_)
      · refine j_two (pT := 76) (pF := 79) (L1 := [some (.ref 75), none, some (.int l2), some (.int l3), none, none]) (st1 := []) (fun o kT kF => ?_) (fun h3 => ?_) (fun h3 => ?_)
        · refine j_icne (t := 79) (pc' := 76) rfl rfl rfl (fun h4 => ?_) (fun h4 => ?_)
          · exact kF h4
          · exact kT h4
        · refine j_goto (t := 156) rfl rfl ?_
          exact j_end (fun _ h => h)
        · refine j_iconst (pc' := 80) (x := (0 : Int32)) rfl rfl rfl ?_
          refine j_istore (pc' := 82) (L' := [some (.ref 75), none, some (.int l2), some (.int l3), some (.int (0 : Int32)), none]) rfl rfl rfl ?_
          refine j_q1 (l_X12_bestOf_82 hd τ l2 l3 j_F (0 : Int32) σ) (fun σ3 => ?_)
          show j_J false τ M_cX12_bestOf d 112 [some (.ref 75), none, some (.int l2), some (.int l3), none, none] [] σ3 _ _
          refine j_aload_n (pc' := 113) rfl rfl rfl ?_
          refine j_iload_n (pc' := 114) rfl rfl rfl ?_
          refine j_aload_n (pc' := 115) rfl rfl rfl ?_
          refine j_iload_n (pc' := 116) rfl rfl rfl ?_
          refine j_iconst (pc' := 117) (x := (0 : Int32)) rfl rfl rfl ?_
          refine j_callPi (pc' := 120) (ai := 238) (vs := [.ref 75, .int l3, .int (0 : Int32)]) (rest := [.int l3, .ref 75]) rfl rfl (fun _ _ => rfl) (c_X12_inGame l3 (0 : Int32) σ3) (j_dd rfl hd) rfl (fun v4 => ?_)
          refine j_aload_n (pc' := 121) rfl rfl rfl ?_
          refine j_iload_n (pc' := 122) rfl rfl rfl ?_
          refine j_iconst (pc' := 123) (x := (1 : Int32)) rfl rfl rfl ?_
          refine j_callPi (pc' := 126) (ai := 238) (vs := [.ref 75, .int l3, .int (1 : Int32)]) (rest := [.int v4, .int l3, .ref 75]) rfl rfl (fun _ _ => rfl) (c_X12_inGame l3 (1 : Int32) σ3) (j_dd rfl hd) rfl (fun v5 => ?_)
          refine j_callRv (pc' := 129) (ai := 269) (vs := [.ref 75, .int l3, .int v4, .int v5]) (rest := []) rfl rfl (fun _ _ => rfl) (c_X12_mayHit l3 v4 v5 σ3) (j_dd rfl hd) rfl (fun σ6 => ?_)
          refine j_aload_n (pc' := 130) rfl rfl rfl ?_
          refine j_iload_n (pc' := 131) rfl rfl rfl ?_
          refine j_iconst (pc' := 132) (x := (1 : Int32)) rfl rfl rfl ?_
          refine j_callPi (pc' := 135) (ai := 238) (vs := [.ref 75, .int l3, .int (1 : Int32)]) (rest := []) rfl rfl (fun _ _ => rfl) (c_X12_inGame l3 (1 : Int32) σ6) (j_dd rfl hd) rfl (fun v7 => ?_)
          refine j_iconst (pc' := 136) (x := (-1 : Int32)) rfl rfl rfl ?_
          refine j_two (pT := 139) (pF := 156) (L1 := [some (.ref 75), none, some (.int l2), some (.int l3), none, none]) (st1 := []) (fun o kT kF => ?_) (fun h1 => ?_) (fun h1 => ?_)
          · refine j_iceq (t := 156) (pc' := 139) rfl rfl rfl (fun h2 => ?_) (fun h2 => ?_)
            · exact kF (fun z => z h2)
            · exact kT h2
          · refine j_aload_n (pc' := 140) rfl rfl rfl ?_
            refine j_iload_n (pc' := 141) rfl rfl rfl ?_
            refine j_aload_n (pc' := 142) rfl rfl rfl ?_
            refine j_iload_n (pc' := 143) rfl rfl rfl ?_
            refine j_iconst (pc' := 144) (x := (1 : Int32)) rfl rfl rfl ?_
            refine j_callPi (pc' := 147) (ai := 238) (vs := [.ref 75, .int l3, .int (1 : Int32)]) (rest := [.int l3, .ref 75]) rfl rfl (fun _ _ => rfl) (c_X12_inGame l3 (1 : Int32) σ6) (j_dd rfl hd) rfl (fun v8 => ?_)
            refine j_aload_n (pc' := 148) rfl rfl rfl ?_
            refine j_iload_n (pc' := 149) rfl rfl rfl ?_
            refine j_iconst (pc' := 150) (x := (0 : Int32)) rfl rfl rfl ?_
            refine j_callPi (pc' := 153) (ai := 238) (vs := [.ref 75, .int l3, .int (0 : Int32)]) (rest := [.int v8, .int l3, .ref 75]) rfl rfl (fun _ _ => rfl) (c_X12_inGame l3 (0 : Int32) σ6) (j_dd rfl hd) rfl (fun v9 => ?_)
            refine j_callRv (pc' := 156) (ai := 269) (vs := [.ref 75, .int l3, .int v8, .int v9]) (rest := []) rfl rfl (fun _ _ => rfl) (c_X12_mayHit l3 v8 v9 σ6) (j_dd rfl hd) rfl (fun σ10 => ?_)
            exact j_end (fun _ h => h)
          · exact j_end (fun _ h => h)
      show j_J false τ M_cX12_bestOf d 156 [some (.ref 75), none, some (.int l2), some (.int l3), none, none] [] σ2 _ _
      refine j_iincx (pc' := 159) (y := (1 : Int32)) (L' := [some (.ref 75), none, some (.int l2), some (.int (l3 + (1 : Int32))), none, none]) rfl rfl rfl rfl rfl ?_
      refine j_goto (t := 53) rfl rfl ?_
      exact ih (l3 + (1 : Int32)) σ2
    · refine j_wk [true, true, false, false, true, true] (L' := [some (.ref 75), none, none, none, none, none]) rfl ?_
      exact j_end (fun _ h => h)

theorem l_X12_bestOf_179 {d : Nat} (hd : 4 ≤ d) (τ : j_G) (l4 : Int32) (σ : j_G) : ∀ (n : Nat) (l3 : Int32) (l5 : Int32), j_J false τ M_cX12_bestOf d 179 [some (.ref 75), none, none, some (.int l3), some (.int l4), some (.int l5)] [] σ (p_X12_bestOf_179 l4 σ n l3 l5) (fun r Q => j_Tr false τ M_cX12_bestOf d 221 [some (.ref 75), none, none, some (.int r), some (.int l4), none] [] σ Q) := by
  intro n
  induction n with
  | zero => intro l3 l5; exact j_none
  | succ n ih =>
    intro l3 l5
    unfold p_X12_bestOf_179
    refine j_iload (pc' := 181) rfl rfl rfl ?_
    refine j_bipush (pc' := 183) (x := (121 : Int32)) rfl rfl rfl ?_
    refine j_two (pT := 186) (pF := 221) (L1 := [some (.ref 75), none, none, some (.int l3), some (.int l4), some (.int l5)]) (st1 := []) (fun o kT kF => ?_) (fun h3 => ?_) (fun h3 => ?_)
    · refine j_icge (t := 221) (pc' := 186) rfl rfl rfl (fun h4 => ?_) (fun h4 => ?_)
      · exact kF h4
      · exact kT h4
    · refine j_aload_n (pc' := 187) rfl rfl rfl ?_
      refine j_gfr (pc' := 190) (x := 89) rfl rfl j_a75 rfl rfl ?_
      refine j_iload (pc' := 192) rfl rfl rfl ?_
      refine j_iload (pc' := 194) rfl rfl rfl ?_
      refine j_callTi (pc' := 197) (ai := 266) (vs := [.int l4, .int l5]) (rest := [.ref 89]) rfl rfl (fun _ _ => rfl) (c_X12_cell l4 l5 σ) (j_dd rfl hd) rfl ?_
      refine j_iald (pc' := 198) rfl rfl j_a89 ?_
      refine j_ldc_w (pc' := 201) (x := (1000000 : Int32)) rfl rfl rfl ?_
      refine j_ql (Φl := (fun r Q => j_Tr false τ M_cX12_bestOf d 214 [some (.ref 75), none, none, none, some (.int l4), some (.int l5)] [.int r] σ Q)) ?_ (fun v1 => ?_)
      · refine j_twoT (pT := 204) (pF := 213) (L1 := [some (.ref 75), none, none, some (.int l3), some (.int l4), some (.int l5)]) (st1 := []) (fun o kT kF => ?_) (fun h1 => ?_) (fun h1 => ?_)
        · refine j_icge (t := 213) (pc' := 204) rfl rfl rfl (fun h2 => ?_) (fun h2 => ?_)
          · exact kF h2
          · exact kT h2
        · refine j_iload_n (pc' := 205) rfl rfl rfl ?_
          refine j_iload (pc' := 207) rfl rfl rfl ?_
          refine j_max (pc' := 210) rfl rfl rfl ?_
          refine j_goto (t := 214) rfl rfl ?_
          refine j_wk [true, true, true, false, true, true] (L' := [some (.ref 75), none, none, none, some (.int l4), some (.int l5)]) rfl ?_
          exact j_end (fun _ h => h)
        · refine j_iload_n (pc' := 214) rfl rfl rfl ?_
          refine j_wk [true, true, true, false, true, true] (L' := [some (.ref 75), none, none, none, some (.int l4), some (.int l5)]) rfl ?_
          exact j_end (fun _ h => h)
      show j_J false τ M_cX12_bestOf d 214 [some (.ref 75), none, none, none, some (.int l4), some (.int l5)] [.int v1] σ _ _
      refine j_istore_n (pc' := 215) (L' := [some (.ref 75), none, none, some (.int v1), some (.int l4), some (.int l5)]) rfl rfl rfl ?_
      refine j_iincx (pc' := 218) (y := (1 : Int32)) (L' := [some (.ref 75), none, none, some (.int v1), some (.int l4), some (.int (l5 + (1 : Int32)))]) rfl rfl rfl rfl rfl ?_
      refine j_goto (t := 179) rfl rfl ?_
      exact ih v1 (l5 + (1 : Int32))
    · refine j_wk [true, true, true, true, true, false] (L' := [some (.ref 75), none, none, some (.int l3), some (.int l4), none]) rfl ?_
      exact j_end (fun _ h => h)

theorem l_X12_bestOf_167 {d : Nat} (hd : 4 ≤ d) (τ : j_G) (σ : j_G) : ∀ (n : Nat) (l3 : Int32) (l4 : Int32), j_J false τ M_cX12_bestOf d 167 [some (.ref 75), none, none, some (.int l3), some (.int l4), none] [] σ (p_X12_bestOf_167 σ n l3 l4) (fun r Q => j_Tr false τ M_cX12_bestOf d 227 [none, none, none, some (.int r), none, none] [] σ Q) := by
  intro n
  induction n with
  | zero => intro l3 l4; exact j_none
  | succ n ih =>
    intro l3 l4
    unfold p_X12_bestOf_167
    refine j_iload (pc' := 169) rfl rfl rfl ?_
    refine j_aload_n (pc' := 170) rfl rfl rfl ?_
    refine j_callPi (pc' := 173) (ai := 200) (vs := [.ref 75]) (rest := [.int l4]) rfl rfl (fun _ _ => rfl) (c_X12_holes  σ) (j_dd rfl hd) rfl (fun v1 => ?_)
    refine j_two (pT := 176) (pF := 227) (L1 := [some (.ref 75), none, none, some (.int l3), some (.int l4), none]) (st1 := []) (fun o kT kF => ?_) (fun h1 => ?_) (fun h1 => ?_)
    · refine j_icge (t := 227) (pc' := 176) rfl rfl rfl (fun h2 => ?_) (fun h2 => ?_)
      · exact kF h2
      · exact kT h2
    · refine j_iconst (pc' := 177) (x := (0 : Int32)) rfl rfl rfl ?_
      refine j_istore (pc' := 179) (L' := [some (.ref 75), none, none, some (.int l3), some (.int l4), some (.int (0 : Int32))]) rfl rfl rfl ?_
      refine j_q1 (l_X12_bestOf_179 hd τ l4 σ j_F l3 (0 : Int32)) (fun v2 => ?_)
      show j_J false τ M_cX12_bestOf d 221 [some (.ref 75), none, none, some (.int v2), some (.int l4), none] [] σ _ _
      refine j_iincx (pc' := 224) (y := (1 : Int32)) (L' := [some (.ref 75), none, none, some (.int v2), some (.int (l4 + (1 : Int32))), none]) rfl rfl rfl rfl rfl ?_
      refine j_goto (t := 167) rfl rfl ?_
      exact ih v2 (l4 + (1 : Int32))
    · refine j_wk [false, true, true, true, false, true] (L' := [none, none, none, some (.int l3), none, none]) rfl ?_
      exact j_end (fun _ h => h)

theorem c_X12_bestOf (l1 : Int32) (l2 : Int32) (σ : j_G) : j_K false 4 270 [.ref 75, .int l1, .int l2] σ (f_X12_bestOf l1 l2 σ) j_Ri := by
  refine j_mkK (M := M_cX12_bestOf) (L := [some (.ref 75), some (.int l1), some (.int l2), none, none, none]) (m := 3) t_270 rfl (j_rcvO j_a75 rfl) rfl (fun d hd τ => ?_)
  unfold f_X12_bestOf
  refine j_aload_n (pc' := 1) rfl rfl rfl ?_
  refine j_callRv (pc' := 4) (ai := 237) (vs := [.ref 75]) (rest := []) rfl rfl (fun _ _ => rfl) (c_X12_lay  σ) (j_dd rfl hd) rfl (fun σ1 => ?_)
  refine j_aload_n (pc' := 5) rfl rfl rfl ?_
  refine j_iload_n (pc' := 6) rfl rfl rfl ?_
  refine j_pfi (pc' := 9) rfl rfl j_a75 rfl rfl (fun σ2 => ?_)
  refine j_iconst (pc' := 10) (x := (0 : Int32)) rfl rfl rfl ?_
  refine j_istore_n (pc' := 11) (L' := [some (.ref 75), some (.int l1), some (.int l2), some (.int (0 : Int32)), none, none]) rfl rfl rfl ?_
  refine j_q1 (l_X12_bestOf_11 hd τ l1 l2 j_F (0 : Int32) σ2) (fun σ3 => ?_)
  show j_J false τ M_cX12_bestOf d 35 [some (.ref 75), some (.int l1), some (.int l2), none, none, none] [] σ3 _ _
  refine j_aload_n (pc' := 36) rfl rfl rfl ?_
  refine j_gfr (pc' := 39) (x := 89) rfl rfl j_a75 rfl rfl ?_
  refine j_aload_n (pc' := 40) rfl rfl rfl ?_
  refine j_iload_n (pc' := 41) rfl rfl rfl ?_
  refine j_iconst (pc' := 42) (x := (4 : Int32)) rfl rfl rfl ?_
  refine j_callPi (pc' := 45) (ai := 207) (vs := [.ref 75, .int l1, .int (4 : Int32)]) (rest := [.ref 89]) rfl rfl (fun _ _ => rfl) (c_X12_of l1 (4 : Int32) σ3) (j_dd rfl hd) rfl (fun v4 => ?_)
  refine j_iconst (pc' := 46) (x := (0 : Int32)) rfl rfl rfl ?_
  refine j_callTi (pc' := 49) (ai := 266) (vs := [.int v4, .int (0 : Int32)]) (rest := [.ref 89]) rfl rfl (fun _ _ => rfl) (c_X12_cell v4 (0 : Int32) σ3) (j_dd rfl hd) rfl ?_
  refine j_iconst (pc' := 50) (x := (0 : Int32)) rfl rfl rfl ?_
  refine j_iast (pc' := 51) rfl rfl j_a89 (fun σ5 => ?_)
  refine j_iconst (pc' := 52) (x := (0 : Int32)) rfl rfl rfl ?_
  refine j_istore_n (pc' := 53) (L' := [some (.ref 75), some (.int l1), some (.int l2), some (.int (0 : Int32)), none, none]) rfl rfl rfl ?_
  refine j_wk [true, false, true, true, true, true] (L' := [some (.ref 75), none, some (.int l2), some (.int (0 : Int32)), none, none]) rfl ?_
  refine j_q1 (l_X12_bestOf_53 hd τ l2 j_F (0 : Int32) σ5) (fun σ6 => ?_)
  show j_J false τ M_cX12_bestOf d 162 [some (.ref 75), none, none, none, none, none] [] σ6 _ _
  refine j_iconst (pc' := 163) (x := (0 : Int32)) rfl rfl rfl ?_
  refine j_istore_n (pc' := 164) (L' := [some (.ref 75), none, none, some (.int (0 : Int32)), none, none]) rfl rfl rfl ?_
  refine j_iconst (pc' := 165) (x := (0 : Int32)) rfl rfl rfl ?_
  refine j_istore (pc' := 167) (L' := [some (.ref 75), none, none, some (.int (0 : Int32)), some (.int (0 : Int32)), none]) rfl rfl rfl ?_
  refine j_q1 (l_X12_bestOf_167 hd τ σ6 j_F (0 : Int32) (0 : Int32)) (fun v7 => ?_)
  show j_J false τ M_cX12_bestOf d 227 [none, none, none, some (.int v7), none, none] [] σ6 _ _
  refine j_iload_n (pc' := 228) rfl rfl rfl ?_
  exact j_ret rfl rfl rfl (fun _ h => h)

noncomputable def f_X12_best (l1 : Int32) (σ : j_G) : Option (Int32 × j_G) :=
  j_b1 (f_X12_isPlayer l1 σ) fun v1 =>
  if ¬ v1 = 0 then (j_b2 (f_X12_bestOf l1 (60 : Int32) σ) fun v3 σ2 =>
  some (v3, σ2)) else (some ((-2 : Int32), σ))
theorem c_X12_best (l1 : Int32) (σ : j_G) : j_K false 5 271 [.ref 75, .int l1] σ (f_X12_best l1 σ) j_Ri := by
  refine j_mkK (M := M_cX12_best) (L := [some (.ref 75), some (.int l1)]) (m := 0) t_271 rfl (j_rcvO j_a75 rfl) rfl (fun d hd τ => ?_)
  unfold f_X12_best
  refine j_aload_n (pc' := 1) rfl rfl rfl ?_
  refine j_iload_n (pc' := 2) rfl rfl rfl ?_
  refine j_callPi (pc' := 5) (ai := 205) (vs := [.ref 75, .int l1]) (rest := []) rfl rfl (fun _ _ => rfl) (c_X12_isPlayer l1 σ) (j_dd rfl hd) rfl (fun v1 => ?_)
  refine j_two (pT := 8) (pF := 18) (L1 := [some (.ref 75), some (.int l1)]) (st1 := []) (fun o kT kF => ?_) (fun h1 => ?_) (fun h1 => ?_)
  · refine j_ifeq (t := 18) (pc' := 8) rfl rfl rfl (fun h2 => ?_) (fun h2 => ?_)
    · exact kF (fun z => z h2)
    · exact kT h2
  · refine j_aload_n (pc' := 9) rfl rfl rfl ?_
    refine j_iload_n (pc' := 10) rfl rfl rfl ?_
    refine j_bipush (pc' := 12) (x := (60 : Int32)) rfl rfl rfl ?_
    refine j_callRi (pc' := 15) (ai := 270) (vs := [.ref 75, .int l1, .int (60 : Int32)]) (rest := []) rfl rfl (fun _ _ => rfl) (c_X12_bestOf l1 (60 : Int32) σ) (j_dd rfl hd) rfl (fun v3 σ2 => ?_)
    refine j_goto (t := 20) rfl rfl ?_
    exact j_ret rfl rfl rfl (fun _ h => h)
  · refine j_bipush (pc' := 20) (x := (-2 : Int32)) rfl rfl rfl ?_
    exact j_ret rfl rfl rfl (fun _ h => h)

noncomputable def f_X12_ahead (l1 : Int32) (l2 : Int32) (σ : j_G) : Option (Int32 × j_G) :=
  j_b1 (f_X12_isPlayer l1 σ) fun v1 =>
  if (¬ v1 = 0) ∧ (¬ (f_X12_in (l2).toInt64 (0 : Int64) (60 : Int64)) = 0) then (j_b2 (f_X12_bestOf l1 l2 σ) fun v3 σ2 =>
  some (v3, σ2)) else (some ((-2 : Int32), σ))
theorem c_X12_ahead (l1 : Int32) (l2 : Int32) (σ : j_G) : j_K false 5 272 [.ref 75, .int l1, .int l2] σ (f_X12_ahead l1 l2 σ) j_Ri := by
  refine j_mkK (M := M_cX12_ahead) (L := [some (.ref 75), some (.int l1), some (.int l2)]) (m := 0) t_272 rfl (j_rcvO j_a75 rfl) rfl (fun d hd τ => ?_)
  unfold f_X12_ahead
  refine j_aload_n (pc' := 1) rfl rfl rfl ?_
  refine j_iload_n (pc' := 2) rfl rfl rfl ?_
  refine j_callPi (pc' := 5) (ai := 205) (vs := [.ref 75, .int l1]) (rest := []) rfl rfl (fun _ _ => rfl) (c_X12_isPlayer l1 σ) (j_dd rfl hd) rfl (fun v1 => ?_)
  refine j_two (pT := 20) (pF := 29) (L1 := [some (.ref 75), some (.int l1), some (.int l2)]) (st1 := []) (fun o kT kF => ?_) (fun h1 => ?_) (fun h1 => ?_)
  · refine j_ifeq (t := 29) (pc' := 8) rfl rfl rfl (fun h2 => ?_) (fun h2 => ?_)
    · exact kF (fun z => z.1 h2)
    · refine j_iload_n (pc' := 9) rfl rfl rfl ?_
      refine j_i2l (pc' := 10) rfl rfl ?_
      refine j_lconst (pc' := 11) (x := (0 : Int64)) rfl rfl rfl ?_
      refine j_ldc2_w (pc' := 14) (x := (60 : Int64)) rfl rfl rfl ?_
      refine j_callTi (pc' := 17) (ai := 196) (vs := [.long (l2).toInt64, .long (0 : Int64), .long (60 : Int64)]) (rest := []) rfl rfl (fun _ _ => rfl) (c_X12_in (l2).toInt64 (0 : Int64) (60 : Int64) σ) (j_dd rfl hd) rfl ?_
      refine j_ifeq (t := 29) (pc' := 20) rfl rfl rfl (fun h3 => ?_) (fun h3 => ?_)
      · exact kF (fun z => (fun z => z h3) z.2)
      · exact kT (⟨h2, h3⟩)
  · refine j_aload_n (pc' := 21) rfl rfl rfl ?_
    refine j_iload_n (pc' := 22) rfl rfl rfl ?_
    refine j_iload_n (pc' := 23) rfl rfl rfl ?_
    refine j_callRi (pc' := 26) (ai := 270) (vs := [.ref 75, .int l1, .int l2]) (rest := []) rfl rfl (fun _ _ => rfl) (c_X12_bestOf l1 l2 σ) (j_dd rfl hd) rfl (fun v3 σ2 => ?_)
    refine j_goto (t := 31) rfl rfl ?_
    exact j_ret rfl rfl rfl (fun _ h => h)
  · refine j_bipush (pc' := 31) (x := (-2 : Int32)) rfl rfl rfl ?_
    exact j_ret rfl rfl rfl (fun _ h => h)

noncomputable def f_X11_hitsKnowing (l1 : Int32) (σ : j_G) : Option (Int32 × j_G) :=
  j_lt (j_si σ 28 3 l1) fun σ1 =>
  j_b2 (f_X9_good 30 28 22 31 32 25 23 24 26 33 34 (-1 : Int32) σ1) fun v3 σ2 =>
  some (v3, σ2)
theorem c_X11_hitsKnowing (l1 : Int32) (σ : j_G) : j_K true 5 188 [.ref 0, .int l1] σ (f_X11_hitsKnowing l1 σ) j_Ri := by
  refine j_mkK (M := M_cX11_hitsKnowing) (L := [some (.ref 0), some (.int l1)]) (m := 0) t_188 rfl (j_rcvO j_a0 rfl) rfl (fun d hd τ => ?_)
  unfold f_X11_hitsKnowing
  refine j_aload_n (pc' := 1) rfl rfl rfl ?_
  refine j_gfr (pc' := 4) (x := 28) rfl rfl j_a0 rfl rfl ?_
  refine j_iload_n (pc' := 5) rfl rfl rfl ?_
  refine j_pfi (pc' := 8) rfl rfl j_a28 rfl rfl (fun σ1 => ?_)
  refine j_aload_n (pc' := 9) rfl rfl rfl ?_
  refine j_gfr (pc' := 12) (x := 30) rfl rfl j_a0 rfl rfl ?_
  refine j_aload_n (pc' := 13) rfl rfl rfl ?_
  refine j_gfr (pc' := 16) (x := 1) rfl rfl j_a0 rfl rfl ?_
  refine j_aload_n (pc' := 17) rfl rfl rfl ?_
  refine j_gfr (pc' := 20) (x := 22) rfl rfl j_a0 rfl rfl ?_
  refine j_aload_n (pc' := 21) rfl rfl rfl ?_
  refine j_gfr (pc' := 24) (x := 28) rfl rfl j_a0 rfl rfl ?_
  refine j_iconst (pc' := 25) (x := (-1 : Int32)) rfl rfl rfl ?_
  refine j_callRi (pc' := 28) (ai := 100) (vs := [.ref 30, .ref 1, .ref 22, .ref 28, .int (-1 : Int32)]) (rest := []) rfl rfl (fun _ _ => rfl) (c_X9_good_30_1_22_28 (-1 : Int32) σ1) (j_dd rfl hd) rfl (fun v3 σ2 => ?_)
  exact j_ret rfl rfl rfl (fun _ h => h)

noncomputable def f_X11_learns (l1 : Int32) (l2 : Int32) (σ : j_G) : Option (Int32 × j_G) :=
  if (¬ l2 < 0) ∧ (¬ (9 : Int32) < l2) then (j_b2 (f_X11_makeReady l1 σ) fun v2 σ1 =>
  if v2 = 0 then (some ((-2 : Int32), σ1)) else (j_b2 (f_X11_hitsKnowing l2 σ1) fun v4 σ3 =>
  some (v4, σ3))) else (some ((-2 : Int32), σ))
theorem c_X11_learns (l1 : Int32) (l2 : Int32) (σ : j_G) : j_K true 6 135 [.ref 0, .int l1, .int l2] σ (f_X11_learns l1 l2 σ) j_Ri := by
  refine j_mkK (M := M_cX11_learns) (L := [some (.ref 0), some (.int l1), some (.int l2)]) (m := 0) t_135 rfl (j_rcvO j_a0 rfl) rfl (fun d hd τ => ?_)
  unfold f_X11_learns
  refine j_iload_n (pc' := 1) rfl rfl rfl ?_
  refine j_two (pT := 10) (pF := 18) (L1 := [some (.ref 0), some (.int l1), some (.int l2)]) (st1 := []) (fun o kT kF => ?_) (fun h3 => ?_) (fun h3 => ?_)
  · refine j_iflt (t := 18) (pc' := 4) rfl rfl rfl (fun h4 => ?_) (fun h4 => ?_)
    · exact kF (fun z => z.1 h4)
    · refine j_iload_n (pc' := 5) rfl rfl rfl ?_
      refine j_bipush (pc' := 7) (x := (9 : Int32)) rfl rfl rfl ?_
      refine j_icgt (t := 18) (pc' := 10) rfl rfl rfl (fun h5 => ?_) (fun h5 => ?_)
      · exact kF (fun z => (fun z => z h5) z.2)
      · exact kT (⟨h4, h5⟩)
  · refine j_aload_n (pc' := 11) rfl rfl rfl ?_
    refine j_iload_n (pc' := 12) rfl rfl rfl ?_
    refine j_callRi (pc' := 15) (ai := 186) (vs := [.ref 0, .int l1]) (rest := []) rfl rfl (fun _ _ => rfl) (c_X11_makeReady l1 σ) (j_dd rfl hd) rfl (fun v2 σ1 => ?_)
    refine j_two (pT := 18) (pF := 21) (L1 := [some (.ref 0), some (.int l1), some (.int l2)]) (st1 := []) (fun o kT kF => ?_) (fun h1 => ?_) (fun h1 => ?_)
    · refine j_ifne (t := 21) (pc' := 18) rfl rfl rfl (fun h2 => ?_) (fun h2 => ?_)
      · exact kF h2
      · exact kT h2
    · refine j_bipush (pc' := 20) (x := (-2 : Int32)) rfl rfl rfl ?_
      exact j_ret rfl rfl rfl (fun _ h => h)
    · refine j_aload_n (pc' := 22) rfl rfl rfl ?_
      refine j_iload_n (pc' := 23) rfl rfl rfl ?_
      refine j_callRi (pc' := 26) (ai := 188) (vs := [.ref 0, .int l2]) (rest := []) rfl rfl (fun _ _ => rfl) (c_X11_hitsKnowing l2 σ1) (j_dd rfl hd) rfl (fun v4 σ3 => ?_)
      exact j_ret rfl rfl rfl (fun _ h => h)
  · refine j_bipush (pc' := 20) (x := (-2 : Int32)) rfl rfl rfl ?_
    exact j_ret rfl rfl rfl (fun _ h => h)

noncomputable def f_X12_learnsBy (l1 : Int32) (l2 : Int32) (σ : j_G) : Option (Int32 × j_G) :=
  j_b1 (f_X12_asTold l1 σ) fun σ1 =>
  j_lt (j_si σ1 75 21 l2) fun σ2 =>
  j_b1 (f_X12_run σ2) fun σ3 =>
  some ((σ3.1 75 29), σ3)
theorem c_X12_learnsBy (l1 : Int32) (l2 : Int32) (σ : j_G) : j_K false 5 273 [.ref 75, .int l1, .int l2] σ (f_X12_learnsBy l1 l2 σ) j_Ri := by
  refine j_mkK (M := M_cX12_learnsBy) (L := [some (.ref 75), some (.int l1), some (.int l2)]) (m := 0) t_273 rfl (j_rcvO j_a75 rfl) rfl (fun d hd τ => ?_)
  unfold f_X12_learnsBy
  refine j_aload_n (pc' := 1) rfl rfl rfl ?_
  refine j_iload_n (pc' := 2) rfl rfl rfl ?_
  refine j_callRv (pc' := 5) (ai := 252) (vs := [.ref 75, .int l1]) (rest := []) rfl rfl (fun _ _ => rfl) (c_X12_asTold l1 σ) (j_dd rfl hd) rfl (fun σ1 => ?_)
  refine j_aload_n (pc' := 6) rfl rfl rfl ?_
  refine j_iload_n (pc' := 7) rfl rfl rfl ?_
  refine j_pfi (pc' := 10) rfl rfl j_a75 rfl rfl (fun σ2 => ?_)
  refine j_aload_n (pc' := 11) rfl rfl rfl ?_
  refine j_callRv (pc' := 14) (ai := 258) (vs := [.ref 75]) (rest := []) rfl rfl (fun _ _ => rfl) (c_X12_run  σ2) (j_dd rfl hd) rfl (fun σ3 => ?_)
  refine j_aload_n (pc' := 15) rfl rfl rfl ?_
  refine j_gfi (pc' := 18) rfl rfl j_a75 rfl ?_
  exact j_ret rfl rfl rfl (fun _ h => h)

noncomputable def f_X12_learns (l1 : Int32) (l2 : Int32) (σ : j_G) : Option (Int32 × j_G) :=
  j_b1 (f_X12_isPlayer l1 σ) fun v1 =>
  if (v1 = 0) ∨ ((f_X12_in (l2).toInt64 (0 : Int64) (9 : Int64)) = 0) then (some ((-2 : Int32), σ)) else (j_b1 (f_X12_lay σ) fun σ2 =>
  j_b2 (f_X12_learnsBy l1 l2 σ2) fun v4 σ3 =>
  some (v4, σ3))
theorem c_X12_learns (l1 : Int32) (l2 : Int32) (σ : j_G) : j_K false 6 274 [.ref 75, .int l1, .int l2] σ (f_X12_learns l1 l2 σ) j_Ri := by
  refine j_mkK (M := M_cX12_learns) (L := [some (.ref 75), some (.int l1), some (.int l2)]) (m := 0) t_274 rfl (j_rcvO j_a75 rfl) rfl (fun d hd τ => ?_)
  unfold f_X12_learns
  refine j_aload_n (pc' := 1) rfl rfl rfl ?_
  refine j_iload_n (pc' := 2) rfl rfl rfl ?_
  refine j_callPi (pc' := 5) (ai := 205) (vs := [.ref 75, .int l1]) (rest := []) rfl rfl (fun _ _ => rfl) (c_X12_isPlayer l1 σ) (j_dd rfl hd) rfl (fun v1 => ?_)
  refine j_two (pT := 20) (pF := 23) (L1 := [some (.ref 75), some (.int l1), some (.int l2)]) (st1 := []) (fun o kT kF => ?_) (fun h1 => ?_) (fun h1 => ?_)
  · refine j_ifeq (t := 20) (pc' := 8) rfl rfl rfl (fun h2 => ?_) (fun h2 => ?_)
    · exact kT (Or.inl h2)
    · refine j_iload_n (pc' := 9) rfl rfl rfl ?_
      refine j_i2l (pc' := 10) rfl rfl ?_
      refine j_lconst (pc' := 11) (x := (0 : Int64)) rfl rfl rfl ?_
      refine j_ldc2_w (pc' := 14) (x := (9 : Int64)) rfl rfl rfl ?_
      refine j_callTi (pc' := 17) (ai := 196) (vs := [.long (l2).toInt64, .long (0 : Int64), .long (9 : Int64)]) (rest := []) rfl rfl (fun _ _ => rfl) (c_X12_in (l2).toInt64 (0 : Int64) (9 : Int64) σ) (j_dd rfl hd) rfl ?_
      refine j_ifne (t := 23) (pc' := 20) rfl rfl rfl (fun h3 => ?_) (fun h3 => ?_)
      · exact kF (fun z => z.elim h2 (h3))
      · exact kT (Or.inr (h3))
  · refine j_bipush (pc' := 22) (x := (-2 : Int32)) rfl rfl rfl ?_
    exact j_ret rfl rfl rfl (fun _ h => h)
  · refine j_aload_n (pc' := 24) rfl rfl rfl ?_
    refine j_callRv (pc' := 27) (ai := 237) (vs := [.ref 75]) (rest := []) rfl rfl (fun _ _ => rfl) (c_X12_lay  σ) (j_dd rfl hd) rfl (fun σ2 => ?_)
    refine j_aload_n (pc' := 28) rfl rfl rfl ?_
    refine j_iload_n (pc' := 29) rfl rfl rfl ?_
    refine j_iload_n (pc' := 30) rfl rfl rfl ?_
    refine j_callRi (pc' := 33) (ai := 273) (vs := [.ref 75, .int l1, .int l2]) (rest := []) rfl rfl (fun _ _ => rfl) (c_X12_learnsBy l1 l2 σ2) (j_dd rfl hd) rfl (fun v4 σ3 => ?_)
    exact j_ret rfl rfl rfl (fun _ h => h)

noncomputable def p_X11_enough_22 : Nat → Int32 → Int32 → Int32 → j_G → Option (Int32 × j_G)
  | 0, _, _, _, _ => none
  | n + 1, l2, l3, l4, σ =>
    if ¬ (9 : Int32) < l4 then (j_b2 (f_X11_hitsKnowing l4 σ) fun v2 σ1 =>
    j_lt (if l3 < v2 then ((l4, v2)) else ((l2, l3))) fun r5 =>
    p_X11_enough_22 n (r5.1) (r5.2) (l4 + (1 : Int32)) σ1) else (some (l2, σ))

noncomputable def f_X11_enough (l1 : Int32) (σ : j_G) : Option (Int32 × j_G) :=
  j_b2 (f_X11_makeReady l1 σ) fun v2 σ1 =>
  if v2 = 0 then (some ((-2 : Int32), σ1)) else (j_b2 (f_X11_hitsKnowing (0 : Int32) σ1) fun v4 σ3 =>
  j_b2 (p_X11_enough_22 j_F (0 : Int32) v4 (1 : Int32) σ3) fun v5 σ6 =>
  some (v5, σ6))
theorem l_X11_enough_22 {d : Nat} (hd : 6 ≤ d) (τ : j_G) : ∀ (n : Nat) (l2 : Int32) (l3 : Int32) (l4 : Int32) (σ : j_G), j_J true τ M_cX11_enough d 22 [some (.ref 0), none, some (.int l2), some (.int l3), some (.int l4), none] [] σ (p_X11_enough_22 n l2 l3 l4 σ) (fun r Q => j_Tr true τ M_cX11_enough d 55 [none, none, some (.int r.1), none, none, none] [] r.2 Q) := by
  intro n
  induction n with
  | zero => intro l2 l3 l4 σ; exact j_none
  | succ n ih =>
    intro l2 l3 l4 σ
    unfold p_X11_enough_22
    refine j_iload (pc' := 24) rfl rfl rfl ?_
    refine j_bipush (pc' := 26) (x := (9 : Int32)) rfl rfl rfl ?_
    refine j_two (pT := 29) (pF := 55) (L1 := [some (.ref 0), none, some (.int l2), some (.int l3), some (.int l4), none]) (st1 := []) (fun o kT kF => ?_) (fun h3 => ?_) (fun h3 => ?_)
    · refine j_icgt (t := 55) (pc' := 29) rfl rfl rfl (fun h4 => ?_) (fun h4 => ?_)
      · exact kF (fun z => z h4)
      · exact kT h4
    · refine j_aload_n (pc' := 30) rfl rfl rfl ?_
      refine j_iload (pc' := 32) rfl rfl rfl ?_
      refine j_callRi (pc' := 35) (ai := 188) (vs := [.ref 0, .int l4]) (rest := []) rfl rfl (fun _ _ => rfl) (c_X11_hitsKnowing l4 σ) (j_dd rfl hd) rfl (fun v2 σ1 => ?_)
      refine j_istore (pc' := 37) (L' := [some (.ref 0), none, some (.int l2), some (.int l3), some (.int l4), some (.int v2)]) rfl rfl rfl ?_
      refine j_iload (pc' := 39) rfl rfl rfl ?_
      refine j_iload_n (pc' := 40) rfl rfl rfl ?_
      refine j_ql (Φl := (fun r Q => j_Tr true τ M_cX11_enough d 49 [some (.ref 0), none, some (.int r.1), some (.int r.2), some (.int l4), none] [] σ1 Q)) ?_ (fun r5 => ?_)
      · refine j_twoT (pT := 43) (pF := 49) (L1 := [some (.ref 0), none, some (.int l2), some (.int l3), some (.int l4), some (.int v2)]) (st1 := []) (fun o kT kF => ?_) (fun h1 => ?_) (fun h1 => ?_)
        · refine j_icle (t := 49) (pc' := 43) rfl rfl rfl (fun h2 => ?_) (fun h2 => ?_)
          · exact kF h2
          · exact kT h2
        · refine j_iload (pc' := 45) rfl rfl rfl ?_
          refine j_istore_n (pc' := 46) (L' := [some (.ref 0), none, some (.int l2), some (.int v2), some (.int l4), some (.int v2)]) rfl rfl rfl ?_
          refine j_iload (pc' := 48) rfl rfl rfl ?_
          refine j_istore_n (pc' := 49) (L' := [some (.ref 0), none, some (.int l4), some (.int v2), some (.int l4), some (.int v2)]) rfl rfl rfl ?_
          refine j_wk [true, true, true, true, true, false] (L' := [some (.ref 0), none, some (.int l4), some (.int v2), some (.int l4), none]) rfl ?_
          exact j_end (fun _ h => h)
        · refine j_wk [true, true, true, true, true, false] (L' := [some (.ref 0), none, some (.int l2), some (.int l3), some (.int l4), none]) rfl ?_
          exact j_end (fun _ h => h)
      show j_J true τ M_cX11_enough d 49 [some (.ref 0), none, some (.int (r5.1)), some (.int (r5.2)), some (.int l4), none] [] σ1 _ _
      refine j_iincx (pc' := 52) (y := (1 : Int32)) (L' := [some (.ref 0), none, some (.int (r5.1)), some (.int (r5.2)), some (.int (l4 + (1 : Int32))), none]) rfl rfl rfl rfl rfl ?_
      refine j_goto (t := 22) rfl rfl ?_
      exact ih (r5.1) (r5.2) (l4 + (1 : Int32)) σ1
    · refine j_wk [false, true, true, false, false, true] (L' := [none, none, some (.int l2), none, none, none]) rfl ?_
      exact j_end (fun _ h => h)

theorem c_X11_enough (l1 : Int32) (σ : j_G) : j_K true 6 136 [.ref 0, .int l1] σ (f_X11_enough l1 σ) j_Ri := by
  refine j_mkK (M := M_cX11_enough) (L := [some (.ref 0), some (.int l1), none, none, none, none]) (m := 4) t_136 rfl (j_rcvO j_a0 rfl) rfl (fun d hd τ => ?_)
  unfold f_X11_enough
  refine j_aload_n (pc' := 1) rfl rfl rfl ?_
  refine j_iload_n (pc' := 2) rfl rfl rfl ?_
  refine j_callRi (pc' := 5) (ai := 186) (vs := [.ref 0, .int l1]) (rest := []) rfl rfl (fun _ _ => rfl) (c_X11_makeReady l1 σ) (j_dd rfl hd) rfl (fun v2 σ1 => ?_)
  refine j_two (pT := 8) (pF := 11) (L1 := [some (.ref 0), some (.int l1), none, none, none, none]) (st1 := []) (fun o kT kF => ?_) (fun h1 => ?_) (fun h1 => ?_)
  · refine j_ifne (t := 11) (pc' := 8) rfl rfl rfl (fun h2 => ?_) (fun h2 => ?_)
    · exact kF h2
    · exact kT h2
  · refine j_bipush (pc' := 10) (x := (-2 : Int32)) rfl rfl rfl ?_
    exact j_ret rfl rfl rfl (fun _ h => h)
  · refine j_iconst (pc' := 12) (x := (0 : Int32)) rfl rfl rfl ?_
    refine j_istore_n (pc' := 13) (L' := [some (.ref 0), some (.int l1), some (.int (0 : Int32)), none, none, none]) rfl rfl rfl ?_
    refine j_aload_n (pc' := 14) rfl rfl rfl ?_
    refine j_iconst (pc' := 15) (x := (0 : Int32)) rfl rfl rfl ?_
    refine j_callRi (pc' := 18) (ai := 188) (vs := [.ref 0, .int (0 : Int32)]) (rest := []) rfl rfl (fun _ _ => rfl) (c_X11_hitsKnowing (0 : Int32) σ1) (j_dd rfl hd) rfl (fun v4 σ3 => ?_)
    refine j_istore_n (pc' := 19) (L' := [some (.ref 0), some (.int l1), some (.int (0 : Int32)), some (.int v4), none, none]) rfl rfl rfl ?_
    refine j_iconst (pc' := 20) (x := (1 : Int32)) rfl rfl rfl ?_
    refine j_istore (pc' := 22) (L' := [some (.ref 0), some (.int l1), some (.int (0 : Int32)), some (.int v4), some (.int (1 : Int32)), none]) rfl rfl rfl ?_
    refine j_wk [true, false, true, true, true, true] (L' := [some (.ref 0), none, some (.int (0 : Int32)), some (.int v4), some (.int (1 : Int32)), none]) rfl ?_
    refine j_q2 (l_X11_enough_22 hd τ j_F (0 : Int32) v4 (1 : Int32) σ3) (fun v5 σ6 => ?_)
    show j_J true τ M_cX11_enough d 55 [none, none, some (.int v5), none, none, none] [] σ6 _ _
    refine j_iload_n (pc' := 56) rfl rfl rfl ?_
    exact j_ret rfl rfl rfl (fun _ h => h)

noncomputable def p_X12_enough_19 (l1 : Int32) : Nat → Int32 → Int32 → j_G → Option (Int32 × j_G)
  | 0, _, _, _ => none
  | n + 1, l2, l3, σ =>
    if l3 < (10 : Int32) then (j_b2 (f_X12_learnsBy l1 l3 σ) fun v2 σ1 =>
    j_b2 (f_X12_learnsBy l1 l2 σ1) fun v4 σ3 =>
    j_lt (if v4 < v2 then (l3) else (l2)) fun v5 =>
    p_X12_enough_19 l1 n v5 (l3 + (1 : Int32)) σ3) else (some (l2, σ))

noncomputable def f_X12_enough (l1 : Int32) (σ : j_G) : Option (Int32 × j_G) :=
  j_b1 (f_X12_isPlayer l1 σ) fun v1 =>
  if v1 = 0 then (some ((-2 : Int32), σ)) else (j_b1 (f_X12_lay σ) fun σ2 =>
  j_b2 (p_X12_enough_19 l1 j_F (0 : Int32) (1 : Int32) σ2) fun v3 σ4 =>
  some (v3, σ4))
theorem l_X12_enough_19 {d : Nat} (hd : 6 ≤ d) (τ : j_G) (l1 : Int32) : ∀ (n : Nat) (l2 : Int32) (l3 : Int32) (σ : j_G), j_J false τ M_cX12_enough d 19 [some (.ref 75), some (.int l1), some (.int l2), some (.int l3)] [] σ (p_X12_enough_19 l1 n l2 l3 σ) (fun r Q => j_Tr false τ M_cX12_enough d 52 [none, none, some (.int r.1), none] [] r.2 Q) := by
  intro n
  induction n with
  | zero => intro l2 l3 σ; exact j_none
  | succ n ih =>
    intro l2 l3 σ
    unfold p_X12_enough_19
    refine j_iload_n (pc' := 20) rfl rfl rfl ?_
    refine j_bipush (pc' := 22) (x := (10 : Int32)) rfl rfl rfl ?_
    refine j_two (pT := 25) (pF := 52) (L1 := [some (.ref 75), some (.int l1), some (.int l2), some (.int l3)]) (st1 := []) (fun o kT kF => ?_) (fun h3 => ?_) (fun h3 => ?_)
    · refine j_icge (t := 52) (pc' := 25) rfl rfl rfl (fun h4 => ?_) (fun h4 => ?_)
      · exact kF h4
      · exact kT h4
    · refine j_aload_n (pc' := 26) rfl rfl rfl ?_
      refine j_iload_n (pc' := 27) rfl rfl rfl ?_
      refine j_iload_n (pc' := 28) rfl rfl rfl ?_
      refine j_callRi (pc' := 31) (ai := 273) (vs := [.ref 75, .int l1, .int l3]) (rest := []) rfl rfl (fun _ _ => rfl) (c_X12_learnsBy l1 l3 σ) (j_dd rfl hd) rfl (fun v2 σ1 => ?_)
      refine j_aload_n (pc' := 32) rfl rfl rfl ?_
      refine j_iload_n (pc' := 33) rfl rfl rfl ?_
      refine j_iload_n (pc' := 34) rfl rfl rfl ?_
      refine j_callRi (pc' := 37) (ai := 273) (vs := [.ref 75, .int l1, .int l2]) (rest := [.int v2]) rfl rfl (fun _ _ => rfl) (c_X12_learnsBy l1 l2 σ1) (j_dd rfl hd) rfl (fun v4 σ3 => ?_)
      refine j_ql (Φl := (fun r Q => j_Tr false τ M_cX12_enough d 45 [some (.ref 75), some (.int l1), none, some (.int l3)] [.int r] σ3 Q)) ?_ (fun v5 => ?_)
      · refine j_twoT (pT := 40) (pF := 44) (L1 := [some (.ref 75), some (.int l1), some (.int l2), some (.int l3)]) (st1 := []) (fun o kT kF => ?_) (fun h1 => ?_) (fun h1 => ?_)
        · refine j_icle (t := 44) (pc' := 40) rfl rfl rfl (fun h2 => ?_) (fun h2 => ?_)
          · exact kF h2
          · exact kT h2
        · refine j_iload_n (pc' := 41) rfl rfl rfl ?_
          refine j_goto (t := 45) rfl rfl ?_
          refine j_wk [true, true, false, true] (L' := [some (.ref 75), some (.int l1), none, some (.int l3)]) rfl ?_
          exact j_end (fun _ h => h)
        · refine j_iload_n (pc' := 45) rfl rfl rfl ?_
          refine j_wk [true, true, false, true] (L' := [some (.ref 75), some (.int l1), none, some (.int l3)]) rfl ?_
          exact j_end (fun _ h => h)
      show j_J false τ M_cX12_enough d 45 [some (.ref 75), some (.int l1), none, some (.int l3)] [.int v5] σ3 _ _
      refine j_istore_n (pc' := 46) (L' := [some (.ref 75), some (.int l1), some (.int v5), some (.int l3)]) rfl rfl rfl ?_
      refine j_iincx (pc' := 49) (y := (1 : Int32)) (L' := [some (.ref 75), some (.int l1), some (.int v5), some (.int (l3 + (1 : Int32)))]) rfl rfl rfl rfl rfl ?_
      refine j_goto (t := 19) rfl rfl ?_
      exact ih v5 (l3 + (1 : Int32)) σ3
    · refine j_wk [false, false, true, false] (L' := [none, none, some (.int l2), none]) rfl ?_
      exact j_end (fun _ h => h)

theorem c_X12_enough (l1 : Int32) (σ : j_G) : j_K false 6 275 [.ref 75, .int l1] σ (f_X12_enough l1 σ) j_Ri := by
  refine j_mkK (M := M_cX12_enough) (L := [some (.ref 75), some (.int l1), none, none]) (m := 2) t_275 rfl (j_rcvO j_a75 rfl) rfl (fun d hd τ => ?_)
  unfold f_X12_enough
  refine j_aload_n (pc' := 1) rfl rfl rfl ?_
  refine j_iload_n (pc' := 2) rfl rfl rfl ?_
  refine j_callPi (pc' := 5) (ai := 205) (vs := [.ref 75, .int l1]) (rest := []) rfl rfl (fun _ _ => rfl) (c_X12_isPlayer l1 σ) (j_dd rfl hd) rfl (fun v1 => ?_)
  refine j_two (pT := 8) (pF := 11) (L1 := [some (.ref 75), some (.int l1), none, none]) (st1 := []) (fun o kT kF => ?_) (fun h1 => ?_) (fun h1 => ?_)
  · refine j_ifne (t := 11) (pc' := 8) rfl rfl rfl (fun h2 => ?_) (fun h2 => ?_)
    · exact kF h2
    · exact kT h2
  · refine j_bipush (pc' := 10) (x := (-2 : Int32)) rfl rfl rfl ?_
    exact j_ret rfl rfl rfl (fun _ h => h)
  · refine j_aload_n (pc' := 12) rfl rfl rfl ?_
    refine j_callRv (pc' := 15) (ai := 237) (vs := [.ref 75]) (rest := []) rfl rfl (fun _ _ => rfl) (c_X12_lay  σ) (j_dd rfl hd) rfl (fun σ2 => ?_)
    refine j_iconst (pc' := 16) (x := (0 : Int32)) rfl rfl rfl ?_
    refine j_istore_n (pc' := 17) (L' := [some (.ref 75), some (.int l1), some (.int (0 : Int32)), none]) rfl rfl rfl ?_
    refine j_iconst (pc' := 18) (x := (1 : Int32)) rfl rfl rfl ?_
    refine j_istore_n (pc' := 19) (L' := [some (.ref 75), some (.int l1), some (.int (0 : Int32)), some (.int (1 : Int32))]) rfl rfl rfl ?_
    refine j_q2 (l_X12_enough_19 hd τ l1 j_F (0 : Int32) (1 : Int32) σ2) (fun v3 σ4 => ?_)
    show j_J false τ M_cX12_enough d 52 [none, none, some (.int v3), none] [] σ4 _ _
    refine j_iload_n (pc' := 53) rfl rfl rfl ?_
    exact j_ret rfl rfl rfl (fun _ h => h)

noncomputable def p_X11_waits_28 (l2 : Int32) : Nat → Int32 → Int32 → Int32 → j_G → Option (Int32 × Int32 × j_G)
  | 0, _, _, _, _ => none
  | n + 1, l3, l4, l5, σ =>
    if l5 < (f_X2_holes 1 σ) then (j_lt (j_si σ 28 4 l5) fun σ1 =>
    j_b2 (f_X9_good 30 28 22 31 32 25 23 24 26 33 34 (-1 : Int32) σ1) fun v3 σ2 =>
    j_lt (if l4 < v3 then ((l5, v3)) else ((l3, l4))) fun r6 =>
    p_X11_waits_28 l2 n (r6.1) (r6.2) (l5 + (1 : Int32)) σ2) else (some (l3, l4, σ))

noncomputable def f_X11_waits (l1 : Int32) (l2 : Int32) (σ : j_G) : Option (Int32 × j_G) :=
  if (¬ l2 < 0) ∧ (¬ (1 : Int32) < l2) then (j_b2 (f_X11_makeReady l1 σ) fun v2 σ1 =>
  if v2 = 0 then (some ((-2 : Int32), σ1)) else (j_b3 (p_X11_waits_28 l2 j_F (0 : Int32) (-1 : Int32) (0 : Int32) σ1) fun v3 v4 σ5 =>
  if l2 = 0 then (some (v3, σ5)) else (some (v4, σ5)))) else (some ((-2 : Int32), σ))
theorem l_X11_waits_28 {d : Nat} (hd : 5 ≤ d) (τ : j_G) (l2 : Int32) : ∀ (n : Nat) (l3 : Int32) (l4 : Int32) (l5 : Int32) (σ : j_G), j_J true τ M_cX11_waits d 28 [some (.ref 0), none, some (.int l2), some (.int l3), some (.int l4), some (.int l5), none] [] σ (p_X11_waits_28 l2 n l3 l4 l5 σ) (fun r Q => j_Tr true τ M_cX11_waits d 91 [none, none, some (.int l2), some (.int r.1), some (.int r.2.1), none, none] [] r.2.2 Q) := by
  intro n
  induction n with
  | zero => intro l3 l4 l5 σ; exact j_none
  | succ n ih =>
    intro l3 l4 l5 σ
    unfold p_X11_waits_28
    refine j_iload (pc' := 30) rfl rfl rfl ?_
    refine j_aload_n (pc' := 31) rfl rfl rfl ?_
    refine j_gfr (pc' := 34) (x := 1) rfl rfl j_a0 rfl rfl ?_
    refine j_callTi (pc' := 37) (ai := 12) (vs := [.ref 1]) (rest := [.int l5]) rfl rfl (fun _ _ => rfl) (c_X2_holes_1  σ) (j_dd rfl hd) rfl ?_
    refine j_two (pT := 40) (pF := 91) (L1 := [some (.ref 0), none, some (.int l2), some (.int l3), some (.int l4), some (.int l5), none]) (st1 := []) (fun o kT kF => ?_) (fun h3 => ?_) (fun h3 => ?_)
    · refine j_icge (t := 91) (pc' := 40) rfl rfl rfl (fun h4 => ?_) (fun h4 => ?_)
      · exact kF h4
      · exact kT h4
    · refine j_aload_n (pc' := 41) rfl rfl rfl ?_
      refine j_gfr (pc' := 44) (x := 28) rfl rfl j_a0 rfl rfl ?_
      refine j_iload (pc' := 46) rfl rfl rfl ?_
      refine j_pfi (pc' := 49) rfl rfl j_a28 rfl rfl (fun σ1 => ?_)
      refine j_aload_n (pc' := 50) rfl rfl rfl ?_
      refine j_gfr (pc' := 53) (x := 30) rfl rfl j_a0 rfl rfl ?_
      refine j_aload_n (pc' := 54) rfl rfl rfl ?_
      refine j_gfr (pc' := 57) (x := 1) rfl rfl j_a0 rfl rfl ?_
      refine j_aload_n (pc' := 58) rfl rfl rfl ?_
      refine j_gfr (pc' := 61) (x := 22) rfl rfl j_a0 rfl rfl ?_
      refine j_aload_n (pc' := 62) rfl rfl rfl ?_
      refine j_gfr (pc' := 65) (x := 28) rfl rfl j_a0 rfl rfl ?_
      refine j_iconst (pc' := 66) (x := (-1 : Int32)) rfl rfl rfl ?_
      refine j_callRi (pc' := 69) (ai := 100) (vs := [.ref 30, .ref 1, .ref 22, .ref 28, .int (-1 : Int32)]) (rest := []) rfl rfl (fun _ _ => rfl) (c_X9_good_30_1_22_28 (-1 : Int32) σ1) (j_dd rfl hd) rfl (fun v3 σ2 => ?_)
      refine j_istore (pc' := 71) (L' := [some (.ref 0), none, some (.int l2), some (.int l3), some (.int l4), some (.int l5), some (.int v3)]) rfl rfl rfl ?_
      refine j_iload (pc' := 73) rfl rfl rfl ?_
      refine j_iload (pc' := 75) rfl rfl rfl ?_
      refine j_ql (Φl := (fun r Q => j_Tr true τ M_cX11_waits d 85 [some (.ref 0), none, some (.int l2), some (.int r.1), some (.int r.2), some (.int l5), none] [] σ2 Q)) ?_ (fun r6 => ?_)
      · refine j_twoT (pT := 78) (pF := 85) (L1 := [some (.ref 0), none, some (.int l2), some (.int l3), some (.int l4), some (.int l5), some (.int v3)]) (st1 := []) (fun o kT kF => ?_) (fun h1 => ?_) (fun h1 => ?_)
        · refine j_icle (t := 85) (pc' := 78) rfl rfl rfl (fun h2 => ?_) (fun h2 => ?_)
          · exact kF h2
          · exact kT h2
        · refine j_iload (pc' := 80) rfl rfl rfl ?_
          refine j_istore (pc' := 82) (L' := [some (.ref 0), none, some (.int l2), some (.int l3), some (.int v3), some (.int l5), some (.int v3)]) rfl rfl rfl ?_
          refine j_iload (pc' := 84) rfl rfl rfl ?_
          refine j_istore_n (pc' := 85) (L' := [some (.ref 0), none, some (.int l2), some (.int l5), some (.int v3), some (.int l5), some (.int v3)]) rfl rfl rfl ?_
          refine j_wk [true, true, true, true, true, true, false] (L' := [some (.ref 0), none, some (.int l2), some (.int l5), some (.int v3), some (.int l5), none]) rfl ?_
          exact j_end (fun _ h => h)
        · refine j_wk [true, true, true, true, true, true, false] (L' := [some (.ref 0), none, some (.int l2), some (.int l3), some (.int l4), some (.int l5), none]) rfl ?_
          exact j_end (fun _ h => h)
      show j_J true τ M_cX11_waits d 85 [some (.ref 0), none, some (.int l2), some (.int (r6.1)), some (.int (r6.2)), some (.int l5), none] [] σ2 _ _
      refine j_iincx (pc' := 88) (y := (1 : Int32)) (L' := [some (.ref 0), none, some (.int l2), some (.int (r6.1)), some (.int (r6.2)), some (.int (l5 + (1 : Int32))), none]) rfl rfl rfl rfl rfl ?_
      refine j_goto (t := 28) rfl rfl ?_
      exact ih (r6.1) (r6.2) (l5 + (1 : Int32)) σ2
    · refine j_wk [false, true, true, true, true, false, true] (L' := [none, none, some (.int l2), some (.int l3), some (.int l4), none, none]) rfl ?_
      exact j_end (fun _ h => h)

theorem c_X11_waits (l1 : Int32) (l2 : Int32) (σ : j_G) : j_K true 5 137 [.ref 0, .int l1, .int l2] σ (f_X11_waits l1 l2 σ) j_Ri := by
  refine j_mkK (M := M_cX11_waits) (L := [some (.ref 0), some (.int l1), some (.int l2), none, none, none, none]) (m := 4) t_137 rfl (j_rcvO j_a0 rfl) rfl (fun d hd τ => ?_)
  unfold f_X11_waits
  refine j_iload_n (pc' := 1) rfl rfl rfl ?_
  refine j_two (pT := 9) (pF := 17) (L1 := [some (.ref 0), some (.int l1), some (.int l2), none, none, none, none]) (st1 := []) (fun o kT kF => ?_) (fun h5 => ?_) (fun h5 => ?_)
  · refine j_iflt (t := 17) (pc' := 4) rfl rfl rfl (fun h6 => ?_) (fun h6 => ?_)
    · exact kF (fun z => z.1 h6)
    · refine j_iload_n (pc' := 5) rfl rfl rfl ?_
      refine j_iconst (pc' := 6) (x := (1 : Int32)) rfl rfl rfl ?_
      refine j_icgt (t := 17) (pc' := 9) rfl rfl rfl (fun h7 => ?_) (fun h7 => ?_)
      · exact kF (fun z => (fun z => z h7) z.2)
      · exact kT (⟨h6, h7⟩)
  · refine j_aload_n (pc' := 10) rfl rfl rfl ?_
    refine j_iload_n (pc' := 11) rfl rfl rfl ?_
    refine j_callRi (pc' := 14) (ai := 186) (vs := [.ref 0, .int l1]) (rest := []) rfl rfl (fun _ _ => rfl) (c_X11_makeReady l1 σ) (j_dd rfl hd) rfl (fun v2 σ1 => ?_)
    refine j_two (pT := 17) (pF := 20) (L1 := [some (.ref 0), some (.int l1), some (.int l2), none, none, none, none]) (st1 := []) (fun o kT kF => ?_) (fun h3 => ?_) (fun h3 => ?_)
    · refine j_ifne (t := 20) (pc' := 17) rfl rfl rfl (fun h4 => ?_) (fun h4 => ?_)
      · exact kF h4
      · exact kT h4
    · refine j_bipush (pc' := 19) (x := (-2 : Int32)) rfl rfl rfl ?_
      exact j_ret rfl rfl rfl (fun _ h => h)
    · refine j_iconst (pc' := 21) (x := (0 : Int32)) rfl rfl rfl ?_
      refine j_istore_n (pc' := 22) (L' := [some (.ref 0), some (.int l1), some (.int l2), some (.int (0 : Int32)), none, none, none]) rfl rfl rfl ?_
      refine j_iconst (pc' := 23) (x := (-1 : Int32)) rfl rfl rfl ?_
      refine j_istore (pc' := 25) (L' := [some (.ref 0), some (.int l1), some (.int l2), some (.int (0 : Int32)), some (.int (-1 : Int32)), none, none]) rfl rfl rfl ?_
      refine j_iconst (pc' := 26) (x := (0 : Int32)) rfl rfl rfl ?_
      refine j_istore (pc' := 28) (L' := [some (.ref 0), some (.int l1), some (.int l2), some (.int (0 : Int32)), some (.int (-1 : Int32)), some (.int (0 : Int32)), none]) rfl rfl rfl ?_
      refine j_wk [true, false, true, true, true, true, true] (L' := [some (.ref 0), none, some (.int l2), some (.int (0 : Int32)), some (.int (-1 : Int32)), some (.int (0 : Int32)), none]) rfl ?_
      refine j_q3 (l_X11_waits_28 hd τ l2 j_F (0 : Int32) (-1 : Int32) (0 : Int32) σ1) (fun v3 v4 σ5 => ?_)
      show j_J true τ M_cX11_waits d 91 [none, none, some (.int l2), some (.int v3), some (.int v4), none, none] [] σ5 _ _
      refine j_iload_n (pc' := 92) rfl rfl rfl ?_
      refine j_two (pT := 95) (pF := 99) (L1 := [none, none, some (.int l2), some (.int v3), some (.int v4), none, none]) (st1 := []) (fun o kT kF => ?_) (fun h1 => ?_) (fun h1 => ?_)
      · refine j_ifne (t := 99) (pc' := 95) rfl rfl rfl (fun h2 => ?_) (fun h2 => ?_)
        · exact kF h2
        · exact kT h2
      · refine j_iload_n (pc' := 96) rfl rfl rfl ?_
        refine j_goto (t := 101) rfl rfl ?_
        exact j_ret rfl rfl rfl (fun _ h => h)
      · refine j_iload (pc' := 101) rfl rfl rfl ?_
        exact j_ret rfl rfl rfl (fun _ h => h)
  · refine j_bipush (pc' := 19) (x := (-2 : Int32)) rfl rfl rfl ?_
    exact j_ret rfl rfl rfl (fun _ h => h)

noncomputable def f_X12_waitingAt (l1 : Int32) (l2 : Int32) (σ : j_G) : Option (Int32 × j_G) :=
  j_b1 (f_X12_asTold l1 σ) fun σ1 =>
  j_lt (j_si σ1 75 22 l2) fun σ2 =>
  j_b1 (f_X12_run σ2) fun σ3 =>
  some ((σ3.1 75 29), σ3)
theorem c_X12_waitingAt (l1 : Int32) (l2 : Int32) (σ : j_G) : j_K false 5 276 [.ref 75, .int l1, .int l2] σ (f_X12_waitingAt l1 l2 σ) j_Ri := by
  refine j_mkK (M := M_cX12_waitingAt) (L := [some (.ref 75), some (.int l1), some (.int l2)]) (m := 0) t_276 rfl (j_rcvO j_a75 rfl) rfl (fun d hd τ => ?_)
  unfold f_X12_waitingAt
  refine j_aload_n (pc' := 1) rfl rfl rfl ?_
  refine j_iload_n (pc' := 2) rfl rfl rfl ?_
  refine j_callRv (pc' := 5) (ai := 252) (vs := [.ref 75, .int l1]) (rest := []) rfl rfl (fun _ _ => rfl) (c_X12_asTold l1 σ) (j_dd rfl hd) rfl (fun σ1 => ?_)
  refine j_aload_n (pc' := 6) rfl rfl rfl ?_
  refine j_iload_n (pc' := 7) rfl rfl rfl ?_
  refine j_pfi (pc' := 10) rfl rfl j_a75 rfl rfl (fun σ2 => ?_)
  refine j_aload_n (pc' := 11) rfl rfl rfl ?_
  refine j_callRv (pc' := 14) (ai := 258) (vs := [.ref 75]) (rest := []) rfl rfl (fun _ _ => rfl) (c_X12_run  σ2) (j_dd rfl hd) rfl (fun σ3 => ?_)
  refine j_aload_n (pc' := 15) rfl rfl rfl ?_
  refine j_gfi (pc' := 18) rfl rfl j_a75 rfl ?_
  exact j_ret rfl rfl rfl (fun _ h => h)

noncomputable def p_X12_waits_30 (l1 : Int32) (l2 : Int32) : Nat → Int32 → Int32 → j_G → Option (Int32 × j_G)
  | 0, _, _, _ => none
  | n + 1, l3, l4, σ =>
    j_b1 (f_X12_holes σ) fun v1 =>
    if l4 < v1 then (j_b2 (f_X12_waitingAt l1 l4 σ) fun v3 σ2 =>
    j_b2 (f_X12_waitingAt l1 l3 σ2) fun v5 σ4 =>
    j_lt (if v5 < v3 then (l4) else (l3)) fun v6 =>
    p_X12_waits_30 l1 l2 n v6 (l4 + (1 : Int32)) σ4) else (some (l3, σ))

noncomputable def f_X12_waits (l1 : Int32) (l2 : Int32) (σ : j_G) : Option (Int32 × j_G) :=
  j_b1 (f_X12_isPlayer l1 σ) fun v1 =>
  if (v1 = 0) ∨ ((f_X12_in (l2).toInt64 (0 : Int64) (1 : Int64)) = 0) then (some ((-2 : Int32), σ)) else (j_b1 (f_X12_lay σ) fun σ2 =>
  j_b2 (p_X12_waits_30 l1 l2 j_F (0 : Int32) (1 : Int32) σ2) fun v3 σ4 =>
  if l2 = 0 then (some (v3, σ4)) else (j_b2 (f_X12_waitingAt l1 v3 σ4) fun v6 σ5 =>
  some (v6, σ5)))
theorem l_X12_waits_30 {d : Nat} (hd : 6 ≤ d) (τ : j_G) (l1 : Int32) (l2 : Int32) : ∀ (n : Nat) (l3 : Int32) (l4 : Int32) (σ : j_G), j_J false τ M_cX12_waits d 30 [some (.ref 75), some (.int l1), some (.int l2), some (.int l3), some (.int l4)] [] σ (p_X12_waits_30 l1 l2 n l3 l4 σ) (fun r Q => j_Tr false τ M_cX12_waits d 68 [some (.ref 75), some (.int l1), some (.int l2), some (.int r.1), none] [] r.2 Q) := by
  intro n
  induction n with
  | zero => intro l3 l4 σ; exact j_none
  | succ n ih =>
    intro l3 l4 σ
    unfold p_X12_waits_30
    refine j_iload (pc' := 32) rfl rfl rfl ?_
    refine j_aload_n (pc' := 33) rfl rfl rfl ?_
    refine j_callPi (pc' := 36) (ai := 200) (vs := [.ref 75]) (rest := [.int l4]) rfl rfl (fun _ _ => rfl) (c_X12_holes  σ) (j_dd rfl hd) rfl (fun v1 => ?_)
    refine j_two (pT := 39) (pF := 68) (L1 := [some (.ref 75), some (.int l1), some (.int l2), some (.int l3), some (.int l4)]) (st1 := []) (fun o kT kF => ?_) (fun h3 => ?_) (fun h3 => ?_)
    · refine j_icge (t := 68) (pc' := 39) rfl rfl rfl (fun h4 => ?_) (fun h4 => ?_)
      · exact kF h4
      · exact kT h4
    · refine j_aload_n (pc' := 40) rfl rfl rfl ?_
      refine j_iload_n (pc' := 41) rfl rfl rfl ?_
      refine j_iload (pc' := 43) rfl rfl rfl ?_
      refine j_callRi (pc' := 46) (ai := 276) (vs := [.ref 75, .int l1, .int l4]) (rest := []) rfl rfl (fun _ _ => rfl) (c_X12_waitingAt l1 l4 σ) (j_dd rfl hd) rfl (fun v3 σ2 => ?_)
      refine j_aload_n (pc' := 47) rfl rfl rfl ?_
      refine j_iload_n (pc' := 48) rfl rfl rfl ?_
      refine j_iload_n (pc' := 49) rfl rfl rfl ?_
      refine j_callRi (pc' := 52) (ai := 276) (vs := [.ref 75, .int l1, .int l3]) (rest := [.int v3]) rfl rfl (fun _ _ => rfl) (c_X12_waitingAt l1 l3 σ2) (j_dd rfl hd) rfl (fun v5 σ4 => ?_)
      refine j_ql (Φl := (fun r Q => j_Tr false τ M_cX12_waits d 61 [some (.ref 75), some (.int l1), some (.int l2), none, some (.int l4)] [.int r] σ4 Q)) ?_ (fun v6 => ?_)
      · refine j_twoT (pT := 55) (pF := 60) (L1 := [some (.ref 75), some (.int l1), some (.int l2), some (.int l3), some (.int l4)]) (st1 := []) (fun o kT kF => ?_) (fun h1 => ?_) (fun h1 => ?_)
        · refine j_icle (t := 60) (pc' := 55) rfl rfl rfl (fun h2 => ?_) (fun h2 => ?_)
          · exact kF h2
          · exact kT h2
        · refine j_iload (pc' := 57) rfl rfl rfl ?_
          refine j_goto (t := 61) rfl rfl ?_
          refine j_wk [true, true, true, false, true] (L' := [some (.ref 75), some (.int l1), some (.int l2), none, some (.int l4)]) rfl ?_
          exact j_end (fun _ h => h)
        · refine j_iload_n (pc' := 61) rfl rfl rfl ?_
          refine j_wk [true, true, true, false, true] (L' := [some (.ref 75), some (.int l1), some (.int l2), none, some (.int l4)]) rfl ?_
          exact j_end (fun _ h => h)
      show j_J false τ M_cX12_waits d 61 [some (.ref 75), some (.int l1), some (.int l2), none, some (.int l4)] [.int v6] σ4 _ _
      refine j_istore_n (pc' := 62) (L' := [some (.ref 75), some (.int l1), some (.int l2), some (.int v6), some (.int l4)]) rfl rfl rfl ?_
      refine j_iincx (pc' := 65) (y := (1 : Int32)) (L' := [some (.ref 75), some (.int l1), some (.int l2), some (.int v6), some (.int (l4 + (1 : Int32)))]) rfl rfl rfl rfl rfl ?_
      refine j_goto (t := 30) rfl rfl ?_
      exact ih v6 (l4 + (1 : Int32)) σ4
    · refine j_wk [true, true, true, true, false] (L' := [some (.ref 75), some (.int l1), some (.int l2), some (.int l3), none]) rfl ?_
      exact j_end (fun _ h => h)

theorem c_X12_waits (l1 : Int32) (l2 : Int32) (σ : j_G) : j_K false 6 277 [.ref 75, .int l1, .int l2] σ (f_X12_waits l1 l2 σ) j_Ri := by
  refine j_mkK (M := M_cX12_waits) (L := [some (.ref 75), some (.int l1), some (.int l2), none, none]) (m := 2) t_277 rfl (j_rcvO j_a75 rfl) rfl (fun d hd τ => ?_)
  unfold f_X12_waits
  refine j_aload_n (pc' := 1) rfl rfl rfl ?_
  refine j_iload_n (pc' := 2) rfl rfl rfl ?_
  refine j_callPi (pc' := 5) (ai := 205) (vs := [.ref 75, .int l1]) (rest := []) rfl rfl (fun _ _ => rfl) (c_X12_isPlayer l1 σ) (j_dd rfl hd) rfl (fun v1 => ?_)
  refine j_two (pT := 18) (pF := 21) (L1 := [some (.ref 75), some (.int l1), some (.int l2), none, none]) (st1 := []) (fun o kT kF => ?_) (fun h3 => ?_) (fun h3 => ?_)
  · refine j_ifeq (t := 18) (pc' := 8) rfl rfl rfl (fun h4 => ?_) (fun h4 => ?_)
    · exact kT (Or.inl h4)
    · refine j_iload_n (pc' := 9) rfl rfl rfl ?_
      refine j_i2l (pc' := 10) rfl rfl ?_
      refine j_lconst (pc' := 11) (x := (0 : Int64)) rfl rfl rfl ?_
      refine j_lconst (pc' := 12) (x := (1 : Int64)) rfl rfl rfl ?_
      refine j_callTi (pc' := 15) (ai := 196) (vs := [.long (l2).toInt64, .long (0 : Int64), .long (1 : Int64)]) (rest := []) rfl rfl (fun _ _ => rfl) (c_X12_in (l2).toInt64 (0 : Int64) (1 : Int64) σ) (j_dd rfl hd) rfl ?_
      refine j_ifne (t := 21) (pc' := 18) rfl rfl rfl (fun h5 => ?_) (fun h5 => ?_)
      · exact kF (fun z => z.elim h4 (h5))
      · exact kT (Or.inr (h5))
  · refine j_bipush (pc' := 20) (x := (-2 : Int32)) rfl rfl rfl ?_
    exact j_ret rfl rfl rfl (fun _ h => h)
  · refine j_aload_n (pc' := 22) rfl rfl rfl ?_
    refine j_callRv (pc' := 25) (ai := 237) (vs := [.ref 75]) (rest := []) rfl rfl (fun _ _ => rfl) (c_X12_lay  σ) (j_dd rfl hd) rfl (fun σ2 => ?_)
    refine j_iconst (pc' := 26) (x := (0 : Int32)) rfl rfl rfl ?_
    refine j_istore_n (pc' := 27) (L' := [some (.ref 75), some (.int l1), some (.int l2), some (.int (0 : Int32)), none]) rfl rfl rfl ?_
    refine j_iconst (pc' := 28) (x := (1 : Int32)) rfl rfl rfl ?_
    refine j_istore (pc' := 30) (L' := [some (.ref 75), some (.int l1), some (.int l2), some (.int (0 : Int32)), some (.int (1 : Int32))]) rfl rfl rfl ?_
    refine j_q2 (l_X12_waits_30 hd τ l1 l2 j_F (0 : Int32) (1 : Int32) σ2) (fun v3 σ4 => ?_)
    show j_J false τ M_cX12_waits d 68 [some (.ref 75), some (.int l1), some (.int l2), some (.int v3), none] [] σ4 _ _
    refine j_iload_n (pc' := 69) rfl rfl rfl ?_
    refine j_two (pT := 72) (pF := 76) (L1 := [some (.ref 75), some (.int l1), some (.int l2), some (.int v3), none]) (st1 := []) (fun o kT kF => ?_) (fun h1 => ?_) (fun h1 => ?_)
    · refine j_ifne (t := 76) (pc' := 72) rfl rfl rfl (fun h2 => ?_) (fun h2 => ?_)
      · exact kF h2
      · exact kT h2
    · refine j_iload_n (pc' := 73) rfl rfl rfl ?_
      refine j_goto (t := 82) rfl rfl ?_
      exact j_ret rfl rfl rfl (fun _ h => h)
    · refine j_aload_n (pc' := 77) rfl rfl rfl ?_
      refine j_iload_n (pc' := 78) rfl rfl rfl ?_
      refine j_iload_n (pc' := 79) rfl rfl rfl ?_
      refine j_callRi (pc' := 82) (ai := 276) (vs := [.ref 75, .int l1, .int v3]) (rest := []) rfl rfl (fun _ _ => rfl) (c_X12_waitingAt l1 v3 σ4) (j_dd rfl hd) rfl (fun v6 σ5 => ?_)
      exact j_ret rfl rfl rfl (fun _ h => h)

noncomputable def f_X11_hitsLagging (l1 : Int32) (σ : j_G) : Option (Int32 × j_G) :=
  j_lt (j_si σ 28 1 l1) fun σ1 =>
  j_b2 (f_X9_good 30 28 22 31 32 25 23 24 26 33 34 (-1 : Int32) σ1) fun v3 σ2 =>
  some (v3, σ2)
theorem c_X11_hitsLagging (l1 : Int32) (σ : j_G) : j_K true 5 189 [.ref 0, .int l1] σ (f_X11_hitsLagging l1 σ) j_Ri := by
  refine j_mkK (M := M_cX11_hitsLagging) (L := [some (.ref 0), some (.int l1)]) (m := 0) t_189 rfl (j_rcvO j_a0 rfl) rfl (fun d hd τ => ?_)
  unfold f_X11_hitsLagging
  refine j_aload_n (pc' := 1) rfl rfl rfl ?_
  refine j_gfr (pc' := 4) (x := 28) rfl rfl j_a0 rfl rfl ?_
  refine j_iload_n (pc' := 5) rfl rfl rfl ?_
  refine j_pfi (pc' := 8) rfl rfl j_a28 rfl rfl (fun σ1 => ?_)
  refine j_aload_n (pc' := 9) rfl rfl rfl ?_
  refine j_gfr (pc' := 12) (x := 30) rfl rfl j_a0 rfl rfl ?_
  refine j_aload_n (pc' := 13) rfl rfl rfl ?_
  refine j_gfr (pc' := 16) (x := 1) rfl rfl j_a0 rfl rfl ?_
  refine j_aload_n (pc' := 17) rfl rfl rfl ?_
  refine j_gfr (pc' := 20) (x := 22) rfl rfl j_a0 rfl rfl ?_
  refine j_aload_n (pc' := 21) rfl rfl rfl ?_
  refine j_gfr (pc' := 24) (x := 28) rfl rfl j_a0 rfl rfl ?_
  refine j_iconst (pc' := 25) (x := (-1 : Int32)) rfl rfl rfl ?_
  refine j_callRi (pc' := 28) (ai := 100) (vs := [.ref 30, .ref 1, .ref 22, .ref 28, .int (-1 : Int32)]) (rest := []) rfl rfl (fun _ _ => rfl) (c_X9_good_30_1_22_28 (-1 : Int32) σ1) (j_dd rfl hd) rfl (fun v3 σ2 => ?_)
  exact j_ret rfl rfl rfl (fun _ h => h)

noncomputable def p_X11_slack_22 (l3 : Int32) : Nat → Int32 → Int32 → j_G → Option (Int32 × j_G)
  | 0, _, _, _ => none
  | n + 1, l2, l4, σ =>
    if ¬ (20 : Int32) < l4 then (j_b2 (f_X11_hitsLagging l4 σ) fun v2 σ1 =>
    j_lt (if v2 = l3 then (l4) else (l2)) fun v3 =>
    p_X11_slack_22 l3 n v3 (l4 + (1 : Int32)) σ1) else (some (l2, σ))

noncomputable def f_X11_slack (l1 : Int32) (σ : j_G) : Option (Int32 × j_G) :=
  j_b2 (f_X11_makeReady l1 σ) fun v2 σ1 =>
  if v2 = 0 then (some ((-2 : Int32), σ1)) else (j_b2 (f_X11_hitsLagging (0 : Int32) σ1) fun v4 σ3 =>
  j_b2 (p_X11_slack_22 v4 j_F (0 : Int32) (1 : Int32) σ3) fun v5 σ6 =>
  some (v5, σ6))
theorem l_X11_slack_22 {d : Nat} (hd : 6 ≤ d) (τ : j_G) (l3 : Int32) : ∀ (n : Nat) (l2 : Int32) (l4 : Int32) (σ : j_G), j_J true τ M_cX11_slack d 22 [some (.ref 0), none, some (.int l2), some (.int l3), some (.int l4)] [] σ (p_X11_slack_22 l3 n l2 l4 σ) (fun r Q => j_Tr true τ M_cX11_slack d 48 [none, none, some (.int r.1), none, none] [] r.2 Q) := by
  intro n
  induction n with
  | zero => intro l2 l4 σ; exact j_none
  | succ n ih =>
    intro l2 l4 σ
    unfold p_X11_slack_22
    refine j_iload (pc' := 24) rfl rfl rfl ?_
    refine j_bipush (pc' := 26) (x := (20 : Int32)) rfl rfl rfl ?_
    refine j_two (pT := 29) (pF := 48) (L1 := [some (.ref 0), none, some (.int l2), some (.int l3), some (.int l4)]) (st1 := []) (fun o kT kF => ?_) (fun h3 => ?_) (fun h3 => ?_)
    · refine j_icgt (t := 48) (pc' := 29) rfl rfl rfl (fun h4 => ?_) (fun h4 => ?_)
      · exact kF (fun z => z h4)
      · exact kT h4
    · refine j_aload_n (pc' := 30) rfl rfl rfl ?_
      refine j_iload (pc' := 32) rfl rfl rfl ?_
      refine j_callRi (pc' := 35) (ai := 189) (vs := [.ref 0, .int l4]) (rest := []) rfl rfl (fun _ _ => rfl) (c_X11_hitsLagging l4 σ) (j_dd rfl hd) rfl (fun v2 σ1 => ?_)
      refine j_iload_n (pc' := 36) rfl rfl rfl ?_
      refine j_ql (Φl := (fun r Q => j_Tr true τ M_cX11_slack d 42 [some (.ref 0), none, some (.int r), some (.int l3), some (.int l4)] [] σ1 Q)) ?_ (fun v3 => ?_)
      · refine j_twoT (pT := 39) (pF := 42) (L1 := [some (.ref 0), none, some (.int l2), some (.int l3), some (.int l4)]) (st1 := []) (fun o kT kF => ?_) (fun h1 => ?_) (fun h1 => ?_)
        · refine j_icne (t := 42) (pc' := 39) rfl rfl rfl (fun h2 => ?_) (fun h2 => ?_)
          · exact kF h2
          · exact kT h2
        · refine j_iload (pc' := 41) rfl rfl rfl ?_
          refine j_istore_n (pc' := 42) (L' := [some (.ref 0), none, some (.int l4), some (.int l3), some (.int l4)]) rfl rfl rfl ?_
          exact j_end (fun _ h => h)
        · exact j_end (fun _ h => h)
      show j_J true τ M_cX11_slack d 42 [some (.ref 0), none, some (.int v3), some (.int l3), some (.int l4)] [] σ1 _ _
      refine j_iincx (pc' := 45) (y := (1 : Int32)) (L' := [some (.ref 0), none, some (.int v3), some (.int l3), some (.int (l4 + (1 : Int32)))]) rfl rfl rfl rfl rfl ?_
      refine j_goto (t := 22) rfl rfl ?_
      exact ih v3 (l4 + (1 : Int32)) σ1
    · refine j_wk [false, true, true, false, false] (L' := [none, none, some (.int l2), none, none]) rfl ?_
      exact j_end (fun _ h => h)

theorem c_X11_slack (l1 : Int32) (σ : j_G) : j_K true 6 138 [.ref 0, .int l1] σ (f_X11_slack l1 σ) j_Ri := by
  refine j_mkK (M := M_cX11_slack) (L := [some (.ref 0), some (.int l1), none, none, none]) (m := 3) t_138 rfl (j_rcvO j_a0 rfl) rfl (fun d hd τ => ?_)
  unfold f_X11_slack
  refine j_aload_n (pc' := 1) rfl rfl rfl ?_
  refine j_iload_n (pc' := 2) rfl rfl rfl ?_
  refine j_callRi (pc' := 5) (ai := 186) (vs := [.ref 0, .int l1]) (rest := []) rfl rfl (fun _ _ => rfl) (c_X11_makeReady l1 σ) (j_dd rfl hd) rfl (fun v2 σ1 => ?_)
  refine j_two (pT := 8) (pF := 11) (L1 := [some (.ref 0), some (.int l1), none, none, none]) (st1 := []) (fun o kT kF => ?_) (fun h1 => ?_) (fun h1 => ?_)
  · refine j_ifne (t := 11) (pc' := 8) rfl rfl rfl (fun h2 => ?_) (fun h2 => ?_)
    · exact kF h2
    · exact kT h2
  · refine j_bipush (pc' := 10) (x := (-2 : Int32)) rfl rfl rfl ?_
    exact j_ret rfl rfl rfl (fun _ h => h)
  · refine j_iconst (pc' := 12) (x := (0 : Int32)) rfl rfl rfl ?_
    refine j_istore_n (pc' := 13) (L' := [some (.ref 0), some (.int l1), some (.int (0 : Int32)), none, none]) rfl rfl rfl ?_
    refine j_aload_n (pc' := 14) rfl rfl rfl ?_
    refine j_iconst (pc' := 15) (x := (0 : Int32)) rfl rfl rfl ?_
    refine j_callRi (pc' := 18) (ai := 189) (vs := [.ref 0, .int (0 : Int32)]) (rest := []) rfl rfl (fun _ _ => rfl) (c_X11_hitsLagging (0 : Int32) σ1) (j_dd rfl hd) rfl (fun v4 σ3 => ?_)
    refine j_istore_n (pc' := 19) (L' := [some (.ref 0), some (.int l1), some (.int (0 : Int32)), some (.int v4), none]) rfl rfl rfl ?_
    refine j_iconst (pc' := 20) (x := (1 : Int32)) rfl rfl rfl ?_
    refine j_istore (pc' := 22) (L' := [some (.ref 0), some (.int l1), some (.int (0 : Int32)), some (.int v4), some (.int (1 : Int32))]) rfl rfl rfl ?_
    refine j_wk [true, false, true, true, true] (L' := [some (.ref 0), none, some (.int (0 : Int32)), some (.int v4), some (.int (1 : Int32))]) rfl ?_
    refine j_q2 (l_X11_slack_22 hd τ v4 j_F (0 : Int32) (1 : Int32) σ3) (fun v5 σ6 => ?_)
    show j_J true τ M_cX11_slack d 48 [none, none, some (.int v5), none, none] [] σ6 _ _
    refine j_iload_n (pc' := 49) rfl rfl rfl ?_
    exact j_ret rfl rfl rfl (fun _ h => h)

noncomputable def f_X12_lagging (l1 : Int32) (l2 : Int32) (σ : j_G) : Option (Int32 × j_G) :=
  j_b1 (f_X12_asTold l1 σ) fun σ1 =>
  j_lt (j_si σ1 75 20 l2) fun σ2 =>
  j_b1 (f_X12_run σ2) fun σ3 =>
  some ((σ3.1 75 29), σ3)
theorem c_X12_lagging (l1 : Int32) (l2 : Int32) (σ : j_G) : j_K false 5 287 [.ref 75, .int l1, .int l2] σ (f_X12_lagging l1 l2 σ) j_Ri := by
  refine j_mkK (M := M_cX12_lagging) (L := [some (.ref 75), some (.int l1), some (.int l2)]) (m := 0) t_287 rfl (j_rcvO j_a75 rfl) rfl (fun d hd τ => ?_)
  unfold f_X12_lagging
  refine j_aload_n (pc' := 1) rfl rfl rfl ?_
  refine j_iload_n (pc' := 2) rfl rfl rfl ?_
  refine j_callRv (pc' := 5) (ai := 252) (vs := [.ref 75, .int l1]) (rest := []) rfl rfl (fun _ _ => rfl) (c_X12_asTold l1 σ) (j_dd rfl hd) rfl (fun σ1 => ?_)
  refine j_aload_n (pc' := 6) rfl rfl rfl ?_
  refine j_iload_n (pc' := 7) rfl rfl rfl ?_
  refine j_pfi (pc' := 10) rfl rfl j_a75 rfl rfl (fun σ2 => ?_)
  refine j_aload_n (pc' := 11) rfl rfl rfl ?_
  refine j_callRv (pc' := 14) (ai := 258) (vs := [.ref 75]) (rest := []) rfl rfl (fun _ _ => rfl) (c_X12_run  σ2) (j_dd rfl hd) rfl (fun σ3 => ?_)
  refine j_aload_n (pc' := 15) rfl rfl rfl ?_
  refine j_gfi (pc' := 18) rfl rfl j_a75 rfl ?_
  exact j_ret rfl rfl rfl (fun _ h => h)

noncomputable def p_X12_slack_27 (l1 : Int32) (l2 : Int32) : Nat → Int32 → Int32 → j_G → Option (Int32 × j_G)
  | 0, _, _, _ => none
  | n + 1, l3, l4, σ =>
    if ¬ (20 : Int32) < l4 then (j_b2 (f_X12_lagging l1 l4 σ) fun v2 σ1 =>
    j_lt (if v2 = l2 then (l4) else (l3)) fun v3 =>
    p_X12_slack_27 l1 l2 n v3 (l4 + (1 : Int32)) σ1) else (some (l3, σ))

noncomputable def f_X12_slack (l1 : Int32) (σ : j_G) : Option (Int32 × j_G) :=
  j_b1 (f_X12_isPlayer l1 σ) fun v1 =>
  if v1 = 0 then (some ((-2 : Int32), σ)) else (j_b1 (f_X12_lay σ) fun σ2 =>
  j_b2 (f_X12_lagging l1 (0 : Int32) σ2) fun v4 σ3 =>
  j_b2 (p_X12_slack_27 l1 v4 j_F (0 : Int32) (1 : Int32) σ3) fun v5 σ6 =>
  some (v5, σ6))
theorem l_X12_slack_27 {d : Nat} (hd : 6 ≤ d) (τ : j_G) (l1 : Int32) (l2 : Int32) : ∀ (n : Nat) (l3 : Int32) (l4 : Int32) (σ : j_G), j_J false τ M_cX12_slack d 27 [some (.ref 75), some (.int l1), some (.int l2), some (.int l3), some (.int l4)] [] σ (p_X12_slack_27 l1 l2 n l3 l4 σ) (fun r Q => j_Tr false τ M_cX12_slack d 58 [none, none, none, some (.int r.1), none] [] r.2 Q) := by
  intro n
  induction n with
  | zero => intro l3 l4 σ; exact j_none
  | succ n ih =>
    intro l3 l4 σ
    unfold p_X12_slack_27
    refine j_iload (pc' := 29) rfl rfl rfl ?_
    refine j_bipush (pc' := 31) (x := (20 : Int32)) rfl rfl rfl ?_
    refine j_two (pT := 34) (pF := 58) (L1 := [some (.ref 75), some (.int l1), some (.int l2), some (.int l3), some (.int l4)]) (st1 := []) (fun o kT kF => ?_) (fun h3 => ?_) (fun h3 => ?_)
    · refine j_icgt (t := 58) (pc' := 34) rfl rfl rfl (fun h4 => ?_) (fun h4 => ?_)
      · exact kF (fun z => z h4)
      · exact kT h4
    · refine j_aload_n (pc' := 35) rfl rfl rfl ?_
      refine j_iload_n (pc' := 36) rfl rfl rfl ?_
      refine j_iload (pc' := 38) rfl rfl rfl ?_
      refine j_callRi (pc' := 41) (ai := 287) (vs := [.ref 75, .int l1, .int l4]) (rest := []) rfl rfl (fun _ _ => rfl) (c_X12_lagging l1 l4 σ) (j_dd rfl hd) rfl (fun v2 σ1 => ?_)
      refine j_iload_n (pc' := 42) rfl rfl rfl ?_
      refine j_ql (Φl := (fun r Q => j_Tr false τ M_cX12_slack d 51 [some (.ref 75), some (.int l1), some (.int l2), none, some (.int l4)] [.int r] σ1 Q)) ?_ (fun v3 => ?_)
      · refine j_twoT (pT := 45) (pF := 50) (L1 := [some (.ref 75), some (.int l1), some (.int l2), some (.int l3), some (.int l4)]) (st1 := []) (fun o kT kF => ?_) (fun h1 => ?_) (fun h1 => ?_)
        · refine j_icne (t := 50) (pc' := 45) rfl rfl rfl (fun h2 => ?_) (fun h2 => ?_)
          · exact kF h2
          · exact kT h2
        · refine j_iload (pc' := 47) rfl rfl rfl ?_
          refine j_goto (t := 51) rfl rfl ?_
          refine j_wk [true, true, true, false, true] (L' := [some (.ref 75), some (.int l1), some (.int l2), none, some (.int l4)]) rfl ?_
          exact j_end (fun _ h => h)
        · refine j_iload_n (pc' := 51) rfl rfl rfl ?_
          refine j_wk [true, true, true, false, true] (L' := [some (.ref 75), some (.int l1), some (.int l2), none, some (.int l4)]) rfl ?_
          exact j_end (fun _ h => h)
      show j_J false τ M_cX12_slack d 51 [some (.ref 75), some (.int l1), some (.int l2), none, some (.int l4)] [.int v3] σ1 _ _
      refine j_istore_n (pc' := 52) (L' := [some (.ref 75), some (.int l1), some (.int l2), some (.int v3), some (.int l4)]) rfl rfl rfl ?_
      refine j_iincx (pc' := 55) (y := (1 : Int32)) (L' := [some (.ref 75), some (.int l1), some (.int l2), some (.int v3), some (.int (l4 + (1 : Int32)))]) rfl rfl rfl rfl rfl ?_
      refine j_goto (t := 27) rfl rfl ?_
      exact ih v3 (l4 + (1 : Int32)) σ1
    · refine j_wk [false, false, false, true, false] (L' := [none, none, none, some (.int l3), none]) rfl ?_
      exact j_end (fun _ h => h)

theorem c_X12_slack (l1 : Int32) (σ : j_G) : j_K false 6 288 [.ref 75, .int l1] σ (f_X12_slack l1 σ) j_Ri := by
  refine j_mkK (M := M_cX12_slack) (L := [some (.ref 75), some (.int l1), none, none, none]) (m := 3) t_288 rfl (j_rcvO j_a75 rfl) rfl (fun d hd τ => ?_)
  unfold f_X12_slack
  refine j_aload_n (pc' := 1) rfl rfl rfl ?_
  refine j_iload_n (pc' := 2) rfl rfl rfl ?_
  refine j_callPi (pc' := 5) (ai := 205) (vs := [.ref 75, .int l1]) (rest := []) rfl rfl (fun _ _ => rfl) (c_X12_isPlayer l1 σ) (j_dd rfl hd) rfl (fun v1 => ?_)
  refine j_two (pT := 8) (pF := 11) (L1 := [some (.ref 75), some (.int l1), none, none, none]) (st1 := []) (fun o kT kF => ?_) (fun h1 => ?_) (fun h1 => ?_)
  · refine j_ifne (t := 11) (pc' := 8) rfl rfl rfl (fun h2 => ?_) (fun h2 => ?_)
    · exact kF h2
    · exact kT h2
  · refine j_bipush (pc' := 10) (x := (-2 : Int32)) rfl rfl rfl ?_
    exact j_ret rfl rfl rfl (fun _ h => h)
  · refine j_aload_n (pc' := 12) rfl rfl rfl ?_
    refine j_callRv (pc' := 15) (ai := 237) (vs := [.ref 75]) (rest := []) rfl rfl (fun _ _ => rfl) (c_X12_lay  σ) (j_dd rfl hd) rfl (fun σ2 => ?_)
    refine j_aload_n (pc' := 16) rfl rfl rfl ?_
    refine j_iload_n (pc' := 17) rfl rfl rfl ?_
    refine j_iconst (pc' := 18) (x := (0 : Int32)) rfl rfl rfl ?_
    refine j_callRi (pc' := 21) (ai := 287) (vs := [.ref 75, .int l1, .int (0 : Int32)]) (rest := []) rfl rfl (fun _ _ => rfl) (c_X12_lagging l1 (0 : Int32) σ2) (j_dd rfl hd) rfl (fun v4 σ3 => ?_)
    refine j_istore_n (pc' := 22) (L' := [some (.ref 75), some (.int l1), some (.int v4), none, none]) rfl rfl rfl ?_
    refine j_iconst (pc' := 23) (x := (0 : Int32)) rfl rfl rfl ?_
    refine j_istore_n (pc' := 24) (L' := [some (.ref 75), some (.int l1), some (.int v4), some (.int (0 : Int32)), none]) rfl rfl rfl ?_
    refine j_iconst (pc' := 25) (x := (1 : Int32)) rfl rfl rfl ?_
    refine j_istore (pc' := 27) (L' := [some (.ref 75), some (.int l1), some (.int v4), some (.int (0 : Int32)), some (.int (1 : Int32))]) rfl rfl rfl ?_
    refine j_q2 (l_X12_slack_27 hd τ l1 v4 j_F (0 : Int32) (1 : Int32) σ3) (fun v5 σ6 => ?_)
    show j_J false τ M_cX12_slack d 58 [none, none, none, some (.int v5), none] [] σ6 _ _
    refine j_iload_n (pc' := 59) rfl rfl rfl ?_
    exact j_ret rfl rfl rfl (fun _ h => h)

noncomputable def p_X11_lucky_33 : Nat → Int32 → Int32 → Int32 → j_G → Option (Int32 × j_G)
  | 0, _, _, _, _ => none
  | n + 1, l2, l3, l4, σ =>
    if l4 < (σ.1 5 0) then (j_b1 (f_X4_deal l4 σ) fun σ1 =>
    j_b2 (f_X9_good 30 28 22 31 32 25 23 24 26 33 34 (-1 : Int32) σ1) fun v3 σ2 =>
    j_lt (if l3 < v3 then ((l4, v3)) else ((l2, l3))) fun r6 =>
    p_X11_lucky_33 n (r6.1) (r6.2) (l4 + (1 : Int32)) σ2) else (some (l2, σ))

noncomputable def f_X11_lucky (l1 : Int32) (σ : j_G) : Option (Int32 × j_G) :=
  if (f_X2_isPlayer l1 σ) = 0 then (some ((-2 : Int32), σ)) else (j_b1 (f_X6_take 28 l1 σ) fun σ1 =>
  j_b2 (p_X11_lucky_33 j_F (-1 : Int32) (-1 : Int32) (0 : Int32) σ1) fun v2 σ3 =>
  some (v2, σ3))
theorem l_X11_lucky_33 {d : Nat} (hd : 5 ≤ d) (τ : j_G) : ∀ (n : Nat) (l2 : Int32) (l3 : Int32) (l4 : Int32) (σ : j_G), j_J true τ M_cX11_lucky d 33 [some (.ref 0), none, some (.int l2), some (.int l3), some (.int l4), none] [] σ (p_X11_lucky_33 n l2 l3 l4 σ) (fun r Q => j_Tr true τ M_cX11_lucky d 101 [none, none, some (.int r.1), none, none, none] [] r.2 Q) := by
  intro n
  induction n with
  | zero => intro l2 l3 l4 σ; exact j_none
  | succ n ih =>
    intro l2 l3 l4 σ
    unfold p_X11_lucky_33
    refine j_iload (pc' := 35) rfl rfl rfl ?_
    refine j_aload_n (pc' := 36) rfl rfl rfl ?_
    refine j_gfr (pc' := 39) (x := 1) rfl rfl j_a0 rfl rfl ?_
    refine j_gfr (pc' := 42) (x := 5) rfl rfl j_a1 rfl rfl ?_
    refine j_gfi (pc' := 45) rfl rfl j_a5 rfl ?_
    refine j_two (pT := 48) (pF := 101) (L1 := [some (.ref 0), none, some (.int l2), some (.int l3), some (.int l4), none]) (st1 := []) (fun o kT kF => ?_) (fun h3 => ?_) (fun h3 => ?_)
    · refine j_icge (t := 101) (pc' := 48) rfl rfl rfl (fun h4 => ?_) (fun h4 => ?_)
      · exact kF h4
      · exact kT h4
    · refine j_aload_n (pc' := 49) rfl rfl rfl ?_
      refine j_gfr (pc' := 52) (x := 22) rfl rfl j_a0 rfl rfl ?_
      refine j_aload_n (pc' := 53) rfl rfl rfl ?_
      refine j_gfr (pc' := 56) (x := 1) rfl rfl j_a0 rfl rfl ?_
      refine j_iload (pc' := 58) rfl rfl rfl ?_
      refine j_callRv (pc' := 61) (ai := 42) (vs := [.ref 22, .ref 1, .int l4]) (rest := []) rfl rfl (fun _ _ => rfl) (c_X4_deal l4 σ) (j_dd rfl hd) rfl (fun σ1 => ?_)
      refine j_aload_n (pc' := 62) rfl rfl rfl ?_
      refine j_gfr (pc' := 65) (x := 30) rfl rfl j_a0 rfl rfl ?_
      refine j_aload_n (pc' := 66) rfl rfl rfl ?_
      refine j_gfr (pc' := 69) (x := 1) rfl rfl j_a0 rfl rfl ?_
      refine j_aload_n (pc' := 70) rfl rfl rfl ?_
      refine j_gfr (pc' := 73) (x := 22) rfl rfl j_a0 rfl rfl ?_
      refine j_aload_n (pc' := 74) rfl rfl rfl ?_
      refine j_gfr (pc' := 77) (x := 28) rfl rfl j_a0 rfl rfl ?_
      refine j_iconst (pc' := 78) (x := (-1 : Int32)) rfl rfl rfl ?_
      refine j_callRi (pc' := 81) (ai := 100) (vs := [.ref 30, .ref 1, .ref 22, .ref 28, .int (-1 : Int32)]) (rest := []) rfl rfl (fun _ _ => rfl) (c_X9_good_30_1_22_28 (-1 : Int32) σ1) (j_dd rfl hd) rfl (fun v3 σ2 => ?_)
      refine j_istore (pc' := 83) (L' := [some (.ref 0), none, some (.int l2), some (.int l3), some (.int l4), some (.int v3)]) rfl rfl rfl ?_
      refine j_iload (pc' := 85) rfl rfl rfl ?_
      refine j_iload_n (pc' := 86) rfl rfl rfl ?_
      refine j_ql (Φl := (fun r Q => j_Tr true τ M_cX11_lucky d 95 [some (.ref 0), none, some (.int r.1), some (.int r.2), some (.int l4), none] [] σ2 Q)) ?_ (fun r6 => ?_)
      · refine j_twoT (pT := 89) (pF := 95) (L1 := [some (.ref 0), none, some (.int l2), some (.int l3), some (.int l4), some (.int v3)]) (st1 := []) (fun o kT kF => ?_) (fun h1 => ?_) (fun h1 => ?_)
        · refine j_icle (t := 95) (pc' := 89) rfl rfl rfl (fun h2 => ?_) (fun h2 => ?_)
          · exact kF h2
          · exact kT h2
        · refine j_iload (pc' := 91) rfl rfl rfl ?_
          refine j_istore_n (pc' := 92) (L' := [some (.ref 0), none, some (.int l2), some (.int v3), some (.int l4), some (.int v3)]) rfl rfl rfl ?_
          refine j_iload (pc' := 94) rfl rfl rfl ?_
          refine j_istore_n (pc' := 95) (L' := [some (.ref 0), none, some (.int l4), some (.int v3), some (.int l4), some (.int v3)]) rfl rfl rfl ?_
          refine j_wk [true, true, true, true, true, false] (L' := [some (.ref 0), none, some (.int l4), some (.int v3), some (.int l4), none]) rfl ?_
          exact j_end (fun _ h => h)
        · refine j_wk [true, true, true, true, true, false] (L' := [some (.ref 0), none, some (.int l2), some (.int l3), some (.int l4), none]) rfl ?_
          exact j_end (fun _ h => h)
      show j_J true τ M_cX11_lucky d 95 [some (.ref 0), none, some (.int (r6.1)), some (.int (r6.2)), some (.int l4), none] [] σ2 _ _
      refine j_iincx (pc' := 98) (y := (1 : Int32)) (L' := [some (.ref 0), none, some (.int (r6.1)), some (.int (r6.2)), some (.int (l4 + (1 : Int32))), none]) rfl rfl rfl rfl rfl ?_
      refine j_goto (t := 33) rfl rfl ?_
      exact ih (r6.1) (r6.2) (l4 + (1 : Int32)) σ2
    · refine j_wk [false, true, true, false, false, true] (L' := [none, none, some (.int l2), none, none, none]) rfl ?_
      exact j_end (fun _ h => h)

theorem c_X11_lucky (l1 : Int32) (σ : j_G) : j_K true 5 139 [.ref 0, .int l1] σ (f_X11_lucky l1 σ) j_Ri := by
  refine j_mkK (M := M_cX11_lucky) (L := [some (.ref 0), some (.int l1), none, none, none, none]) (m := 4) t_139 rfl (j_rcvO j_a0 rfl) rfl (fun d hd τ => ?_)
  unfold f_X11_lucky
  refine j_aload_n (pc' := 1) rfl rfl rfl ?_
  refine j_gfr (pc' := 4) (x := 1) rfl rfl j_a0 rfl rfl ?_
  refine j_iload_n (pc' := 5) rfl rfl rfl ?_
  refine j_callTi (pc' := 8) (ai := 15) (vs := [.ref 1, .int l1]) (rest := []) rfl rfl (fun _ _ => rfl) (c_X2_isPlayer l1 σ) (j_dd rfl hd) rfl ?_
  refine j_two (pT := 11) (pF := 14) (L1 := [some (.ref 0), some (.int l1), none, none, none, none]) (st1 := []) (fun o kT kF => ?_) (fun h1 => ?_) (fun h1 => ?_)
  · refine j_ifne (t := 14) (pc' := 11) rfl rfl rfl (fun h2 => ?_) (fun h2 => ?_)
    · exact kF h2
    · exact kT h2
  · refine j_bipush (pc' := 13) (x := (-2 : Int32)) rfl rfl rfl ?_
    exact j_ret rfl rfl rfl (fun _ h => h)
  · refine j_aload_n (pc' := 15) rfl rfl rfl ?_
    refine j_gfr (pc' := 18) (x := 28) rfl rfl j_a0 rfl rfl ?_
    refine j_aload_n (pc' := 19) rfl rfl rfl ?_
    refine j_gfr (pc' := 22) (x := 1) rfl rfl j_a0 rfl rfl ?_
    refine j_iload_n (pc' := 23) rfl rfl rfl ?_
    refine j_callRv (pc' := 26) (ai := 64) (vs := [.ref 28, .ref 1, .int l1]) (rest := []) rfl rfl (fun _ _ => rfl) (c_X6_take_28_1 l1 σ) (j_dd rfl hd) rfl (fun σ1 => ?_)
    refine j_iconst (pc' := 27) (x := (-1 : Int32)) rfl rfl rfl ?_
    refine j_istore_n (pc' := 28) (L' := [some (.ref 0), some (.int l1), some (.int (-1 : Int32)), none, none, none]) rfl rfl rfl ?_
    refine j_iconst (pc' := 29) (x := (-1 : Int32)) rfl rfl rfl ?_
    refine j_istore_n (pc' := 30) (L' := [some (.ref 0), some (.int l1), some (.int (-1 : Int32)), some (.int (-1 : Int32)), none, none]) rfl rfl rfl ?_
    refine j_iconst (pc' := 31) (x := (0 : Int32)) rfl rfl rfl ?_
    refine j_istore (pc' := 33) (L' := [some (.ref 0), some (.int l1), some (.int (-1 : Int32)), some (.int (-1 : Int32)), some (.int (0 : Int32)), none]) rfl rfl rfl ?_
    refine j_wk [true, false, true, true, true, true] (L' := [some (.ref 0), none, some (.int (-1 : Int32)), some (.int (-1 : Int32)), some (.int (0 : Int32)), none]) rfl ?_
    refine j_q2 (l_X11_lucky_33 hd τ j_F (-1 : Int32) (-1 : Int32) (0 : Int32) σ1) (fun v2 σ3 => ?_)
    show j_J true τ M_cX11_lucky d 101 [none, none, some (.int v2), none, none, none] [] σ3 _ _
    refine j_iload_n (pc' := 102) rfl rfl rfl ?_
    exact j_ret rfl rfl rfl (fun _ h => h)

noncomputable def p_X12_lucky_27 (l1 : Int32) (l2 : Int32) : Nat → Int32 → Int32 → Int32 → j_G → Option (Int32 × j_G)
  | 0, _, _, _, _ => none
  | n + 1, l3, l4, l5, σ =>
    j_ix (5 : Int32) 116 (
    if l5 < (σ.1 76 ((5 : Int32)).toNatClampNeg) then (j_ix (8 : Int32) 116 (
    j_lt (j_si σ 76 ((8 : Int32)).toNatClampNeg l5) fun σ1 =>
    j_b1 (f_X12_runAsTold l1 σ1) fun σ2 =>
    j_lt (if ¬ l4 < (σ2.1 75 29) then ((l3, l4)) else (j_lt (σ2.1 75 29) fun v5 =>
    (l5, v5))) fun r6 =>
    p_X12_lucky_27 l1 l2 n (r6.1) (r6.2) (l5 + (1 : Int32)) σ2)) else (some (l3, σ)))

noncomputable def f_X12_lucky (l1 : Int32) (σ : j_G) : Option (Int32 × j_G) :=
  j_b1 (f_X12_isPlayer l1 σ) fun v1 =>
  if v1 = 0 then (some ((-2 : Int32), σ)) else (j_ix (8 : Int32) 116 (
  j_lt (σ.1 76 ((8 : Int32)).toNatClampNeg) fun v2 =>
  j_b2 (p_X12_lucky_27 l1 v2 j_F (-1 : Int32) (-1 : Int32) (0 : Int32) σ) fun v3 σ4 =>
  j_ix (8 : Int32) 116 (
  j_lt (j_si σ4 76 ((8 : Int32)).toNatClampNeg v2) fun σ5 =>
  some (v3, σ5))))
theorem l_X12_lucky_27 {d : Nat} (hd : 6 ≤ d) (τ : j_G) (l1 : Int32) (l2 : Int32) : ∀ (n : Nat) (l3 : Int32) (l4 : Int32) (l5 : Int32) (σ : j_G), j_J false τ M_cX12_lucky d 27 [some (.ref 75), some (.int l1), some (.int l2), some (.int l3), some (.int l4), some (.int l5)] [] σ (p_X12_lucky_27 l1 l2 n l3 l4 l5 σ) (fun r Q => j_Tr false τ M_cX12_lucky d 79 [some (.ref 75), none, some (.int l2), some (.int r.1), none, none] [] r.2 Q) := by
  intro n
  induction n with
  | zero => intro l3 l4 l5 σ; exact j_none
  | succ n ih =>
    intro l3 l4 l5 σ
    unfold p_X12_lucky_27
    refine j_iload (pc' := 29) rfl rfl rfl ?_
    refine j_aload_n (pc' := 30) rfl rfl rfl ?_
    refine j_gfr (pc' := 33) (x := 76) rfl rfl j_a75 rfl rfl ?_
    refine j_iconst (pc' := 34) (x := (5 : Int32)) rfl rfl rfl ?_
    refine j_iald (pc' := 35) rfl rfl j_a76 ?_
    refine j_two (pT := 38) (pF := 79) (L1 := [some (.ref 75), some (.int l1), some (.int l2), some (.int l3), some (.int l4), some (.int l5)]) (st1 := []) (fun o kT kF => ?_) (fun h3 => ?_) (fun h3 => ?_)
    · refine j_icge (t := 79) (pc' := 38) rfl rfl rfl (fun h4 => ?_) (fun h4 => ?_)
      · exact kF h4
      · exact kT h4
    · refine j_aload_n (pc' := 39) rfl rfl rfl ?_
      refine j_gfr (pc' := 42) (x := 76) rfl rfl j_a75 rfl rfl ?_
      refine j_bipush (pc' := 44) (x := (8 : Int32)) rfl rfl rfl ?_
      refine j_iload (pc' := 46) rfl rfl rfl ?_
      refine j_iast (pc' := 47) rfl rfl j_a76 (fun σ1 => ?_)
      refine j_aload_n (pc' := 48) rfl rfl rfl ?_
      refine j_iload_n (pc' := 49) rfl rfl rfl ?_
      refine j_callRv (pc' := 52) (ai := 259) (vs := [.ref 75, .int l1]) (rest := []) rfl rfl (fun _ _ => rfl) (c_X12_runAsTold l1 σ1) (j_dd rfl hd) rfl (fun σ2 => ?_)
      refine j_aload_n (pc' := 53) rfl rfl rfl ?_
      refine j_gfi (pc' := 56) rfl rfl j_a75 rfl ?_
      refine j_iload (pc' := 58) rfl rfl rfl ?_
      refine j_ql (Φl := (fun r Q => j_Tr false τ M_cX12_lucky d 73 [some (.ref 75), some (.int l1), some (.int l2), some (.int r.1), some (.int r.2), some (.int l5)] [] σ2 Q)) ?_ (fun r6 => ?_)
      · refine j_twoT (pT := 61) (pF := 64) (L1 := [some (.ref 75), some (.int l1), some (.int l2), some (.int l3), some (.int l4), some (.int l5)]) (st1 := []) (fun o kT kF => ?_) (fun h1 => ?_) (fun h1 => ?_)
        · refine j_icgt (t := 64) (pc' := 61) rfl rfl rfl (fun h2 => ?_) (fun h2 => ?_)
          · exact kF (fun z => z h2)
          · exact kT h2
        · refine j_goto (t := 73) rfl rfl ?_
          exact j_end (fun _ h => h)
        · refine j_iload (pc' := 66) rfl rfl rfl ?_
          refine j_istore_n (pc' := 67) (L' := [some (.ref 75), some (.int l1), some (.int l2), some (.int l5), some (.int l4), some (.int l5)]) rfl rfl rfl ?_
          refine j_aload_n (pc' := 68) rfl rfl rfl ?_
          refine j_gfi (pc' := 71) rfl rfl j_a75 rfl ?_
          refine j_letiT (fun v5 => ?_)
          refine j_istore (pc' := 73) (L' := [some (.ref 75), some (.int l1), some (.int l2), some (.int l5), some (.int v5), some (.int l5)]) rfl rfl rfl ?_
          exact j_end (fun _ h => h)
      show j_J false τ M_cX12_lucky d 73 [some (.ref 75), some (.int l1), some (.int l2), some (.int (r6.1)), some (.int (r6.2)), some (.int l5)] [] σ2 _ _
      refine j_iincx (pc' := 76) (y := (1 : Int32)) (L' := [some (.ref 75), some (.int l1), some (.int l2), some (.int (r6.1)), some (.int (r6.2)), some (.int (l5 + (1 : Int32)))]) rfl rfl rfl rfl rfl ?_
      refine j_goto (t := 27) rfl rfl ?_
      exact ih (r6.1) (r6.2) (l5 + (1 : Int32)) σ2
    · refine j_wk [true, false, true, true, false, false] (L' := [some (.ref 75), none, some (.int l2), some (.int l3), none, none]) rfl ?_
      exact j_end (fun _ h => h)

theorem c_X12_lucky (l1 : Int32) (σ : j_G) : j_K false 6 339 [.ref 75, .int l1] σ (f_X12_lucky l1 σ) j_Ri := by
  refine j_mkK (M := M_cX12_lucky) (L := [some (.ref 75), some (.int l1), none, none, none, none]) (m := 4) t_339 rfl (j_rcvO j_a75 rfl) rfl (fun d hd τ => ?_)
  unfold f_X12_lucky
  refine j_aload_n (pc' := 1) rfl rfl rfl ?_
  refine j_iload_n (pc' := 2) rfl rfl rfl ?_
  refine j_callPi (pc' := 5) (ai := 205) (vs := [.ref 75, .int l1]) (rest := []) rfl rfl (fun _ _ => rfl) (c_X12_isPlayer l1 σ) (j_dd rfl hd) rfl (fun v1 => ?_)
  refine j_two (pT := 8) (pF := 11) (L1 := [some (.ref 75), some (.int l1), none, none, none, none]) (st1 := []) (fun o kT kF => ?_) (fun h1 => ?_) (fun h1 => ?_)
  · refine j_ifne (t := 11) (pc' := 8) rfl rfl rfl (fun h2 => ?_) (fun h2 => ?_)
    · exact kF h2
    · exact kT h2
  · refine j_bipush (pc' := 10) (x := (-2 : Int32)) rfl rfl rfl ?_
    exact j_ret rfl rfl rfl (fun _ h => h)
  · refine j_aload_n (pc' := 12) rfl rfl rfl ?_
    refine j_gfr (pc' := 15) (x := 76) rfl rfl j_a75 rfl rfl ?_
    refine j_bipush (pc' := 17) (x := (8 : Int32)) rfl rfl rfl ?_
    refine j_iald (pc' := 18) rfl rfl j_a76 ?_
    refine j_leti (fun v2 => ?_)
    refine j_istore_n (pc' := 19) (L' := [some (.ref 75), some (.int l1), some (.int v2), none, none, none]) rfl rfl rfl ?_
    refine j_iconst (pc' := 20) (x := (-1 : Int32)) rfl rfl rfl ?_
    refine j_istore_n (pc' := 21) (L' := [some (.ref 75), some (.int l1), some (.int v2), some (.int (-1 : Int32)), none, none]) rfl rfl rfl ?_
    refine j_iconst (pc' := 22) (x := (-1 : Int32)) rfl rfl rfl ?_
    refine j_istore (pc' := 24) (L' := [some (.ref 75), some (.int l1), some (.int v2), some (.int (-1 : Int32)), some (.int (-1 : Int32)), none]) rfl rfl rfl ?_
    refine j_iconst (pc' := 25) (x := (0 : Int32)) rfl rfl rfl ?_
    refine j_istore (pc' := 27) (L' := [some (.ref 75), some (.int l1), some (.int v2), some (.int (-1 : Int32)), some (.int (-1 : Int32)), some (.int (0 : Int32))]) rfl rfl rfl ?_
    refine j_q2 (l_X12_lucky_27 hd τ l1 v2 j_F (-1 : Int32) (-1 : Int32) (0 : Int32) σ) (fun v3 σ4 => ?_)
    show j_J false τ M_cX12_lucky d 79 [some (.ref 75), none, some (.int v2), some (.int v3), none, none] [] σ4 _ _
    refine j_aload_n (pc' := 80) rfl rfl rfl ?_
    refine j_gfr (pc' := 83) (x := 76) rfl rfl j_a75 rfl rfl ?_
    refine j_bipush (pc' := 85) (x := (8 : Int32)) rfl rfl rfl ?_
    refine j_iload_n (pc' := 86) rfl rfl rfl ?_
    refine j_iast (pc' := 87) rfl rfl j_a76 (fun σ5 => ?_)
    refine j_iload_n (pc' := 88) rfl rfl rfl ?_
    exact j_ret rfl rfl rfl (fun _ h => h)

noncomputable def f_X2_openHoles (σ : j_G) : Int32 :=
  ((f_X2_holes 1 σ) - (f_J6_bitCount_0f7a4 (σ.1 1 6)))
theorem c_X2_openHoles (σ : j_G) : j_K true 1 17 [.ref 1] σ (some (f_X2_openHoles σ)) (j_Pi σ) := by
  refine j_mkK (M := M_cX2_openHoles) (L := [some (.ref 1)]) (m := 0) t_17 rfl (j_rcvO j_a1 rfl) rfl (fun d hd τ => ?_)
  unfold f_X2_openHoles
  refine j_aload_n (pc' := 1) rfl rfl rfl ?_
  refine j_callTi (pc' := 4) (ai := 12) (vs := [.ref 1]) (rest := []) rfl rfl (fun _ _ => rfl) (c_X2_holes_1  σ) (j_dd rfl hd) rfl ?_
  refine j_aload_n (pc' := 5) rfl rfl rfl ?_
  refine j_gfi (pc' := 8) rfl rfl j_a1 rfl ?_
  refine j_callTi (pc' := 11) (ai := 356) (vs := [.int (σ.1 1 6)]) (rest := [.int (f_X2_holes 1 σ)]) rfl rfl (fun _ _ => rfl) (c_J6_bitCount_0f7a4 (σ.1 1 6) σ) (j_dd rfl hd) rfl ?_
  refine j_isub (pc' := 12) rfl rfl ?_
  exact j_ret rfl rfl rfl (fun _ h => h)

theorem c_X2_isShut_1 (l1 : Int32) (σ : j_G) : j_K true 0 16 [.ref 1, .int l1] σ (some (f_X2_isShut 1 l1 σ)) (j_Pi σ) := by
  refine j_mkK (M := M_cX2_isShut) (L := [some (.ref 1), some (.int l1)]) (m := 0) t_16 rfl (j_rcvO j_a1 rfl) rfl (fun d hd τ => ?_)
  unfold f_X2_isShut
  refine j_aload_n (pc' := 1) rfl rfl rfl ?_
  refine j_gfi (pc' := 4) rfl rfl j_a1 rfl ?_
  refine j_iload_n (pc' := 5) rfl rfl rfl ?_
  refine j_ishr (pc' := 6) rfl rfl ?_
  refine j_iconst (pc' := 7) (x := (1 : Int32)) rfl rfl rfl ?_
  refine j_iand (pc' := 8) rfl rfl ?_
  refine j_twoT (pT := 11) (pF := 15) (L1 := [some (.ref 1), some (.int l1)]) (st1 := []) (fun o kT kF => ?_) (fun h1 => ?_) (fun h1 => ?_)
  · refine j_ifeq (t := 15) (pc' := 11) rfl rfl rfl (fun h2 => ?_) (fun h2 => ?_)
    · exact kF (fun z => z h2)
    · exact kT h2
  · refine j_iconst (pc' := 12) (x := (1 : Int32)) rfl rfl rfl ?_
    refine j_goto (t := 16) rfl rfl ?_
    exact j_ret rfl rfl rfl (fun _ h => h)
  · refine j_iconst (pc' := 16) (x := (0 : Int32)) rfl rfl rfl ?_
    exact j_ret rfl rfl rfl (fun _ h => h)

noncomputable def p_X2_stepsToAll_4 (l1 : Int32) (σ : j_G) : Nat → Int32 → Int32 → Option Int32
  | 0, _, _ => none
  | n + 1, l2, l3 =>
    if l3 < (f_X2_holes 1 σ) then (j_b1 (if (f_X2_isShut 1 l3 σ) = 0 then (j_b1 (f_X2_apart l1 l3 σ) fun v2 =>
    j_lt (l2 + v2) fun v3 =>
    some v3) else (some l2)) fun v1 =>
    p_X2_stepsToAll_4 l1 σ n v1 (l3 + (1 : Int32))) else (some l2)

noncomputable def f_X2_stepsToAll (l1 : Int32) (σ : j_G) : Option Int32 :=
  j_b1 (p_X2_stepsToAll_4 l1 σ j_F (0 : Int32) (0 : Int32)) fun v1 =>
  some v1
theorem l_X2_stepsToAll_4 {d : Nat} (hd : 1 ≤ d) (τ : j_G) (l1 : Int32) (σ : j_G) : ∀ (n : Nat) (l2 : Int32) (l3 : Int32), j_J true τ M_cX2_stepsToAll d 4 [some (.ref 1), some (.int l1), some (.int l2), some (.int l3)] [] σ (p_X2_stepsToAll_4 l1 σ n l2 l3) (fun r Q => j_Tr true τ M_cX2_stepsToAll d 35 [none, none, some (.int r), none] [] σ Q) := by
  intro n
  induction n with
  | zero => intro l2 l3; exact j_none
  | succ n ih =>
    intro l2 l3
    unfold p_X2_stepsToAll_4
    refine j_iload_n (pc' := 5) rfl rfl rfl ?_
    refine j_aload_n (pc' := 6) rfl rfl rfl ?_
    refine j_callTi (pc' := 9) (ai := 12) (vs := [.ref 1]) (rest := [.int l3]) rfl rfl (fun _ _ => rfl) (c_X2_holes_1  σ) (j_dd rfl hd) rfl ?_
    refine j_two (pT := 12) (pF := 35) (L1 := [some (.ref 1), some (.int l1), some (.int l2), some (.int l3)]) (st1 := []) (fun o kT kF => ?_) (fun h3 => ?_) (fun h3 => ?_)
    · refine j_icge (t := 35) (pc' := 12) rfl rfl rfl (fun h4 => ?_) (fun h4 => ?_)
      · exact kF h4
      · exact kT h4
    · refine j_aload_n (pc' := 13) rfl rfl rfl ?_
      refine j_iload_n (pc' := 14) rfl rfl rfl ?_
      refine j_callTi (pc' := 17) (ai := 16) (vs := [.ref 1, .int l3]) (rest := []) rfl rfl (fun _ _ => rfl) (c_X2_isShut_1 l3 σ) (j_dd rfl hd) rfl ?_
      refine j_q1 (Φl := (fun r Q => j_Tr true τ M_cX2_stepsToAll d 29 [some (.ref 1), some (.int l1), some (.int r), some (.int l3)] [] σ Q)) ?_ (fun v1 => ?_)
      · refine j_two (pT := 20) (pF := 29) (L1 := [some (.ref 1), some (.int l1), some (.int l2), some (.int l3)]) (st1 := []) (fun o kT kF => ?_) (fun h1 => ?_) (fun h1 => ?_)
        · refine j_ifne (t := 29) (pc' := 20) rfl rfl rfl (fun h2 => ?_) (fun h2 => ?_)
          · exact kF h2
          · exact kT h2
        · refine j_iload_n (pc' := 21) rfl rfl rfl ?_
          refine j_aload_n (pc' := 22) rfl rfl rfl ?_
          refine j_iload_n (pc' := 23) rfl rfl rfl ?_
          refine j_iload_n (pc' := 24) rfl rfl rfl ?_
          refine j_callPi (pc' := 27) (ai := 18) (vs := [.ref 1, .int l1, .int l3]) (rest := [.int l2]) rfl rfl (fun _ _ => rfl) (c_X2_apart l1 l3 σ) (j_dd rfl hd) rfl (fun v2 => ?_)
          refine j_iadd (pc' := 28) rfl rfl ?_
          refine j_leti (fun v3 => ?_)
          refine j_istore_n (pc' := 29) (L' := [some (.ref 1), some (.int l1), some (.int v3), some (.int l3)]) rfl rfl rfl ?_
          exact j_end (fun _ h => h)
        · exact j_end (fun _ h => h)
      show j_J true τ M_cX2_stepsToAll d 29 [some (.ref 1), some (.int l1), some (.int v1), some (.int l3)] [] σ _ _
      refine j_iincx (pc' := 32) (y := (1 : Int32)) (L' := [some (.ref 1), some (.int l1), some (.int v1), some (.int (l3 + (1 : Int32)))]) rfl rfl rfl rfl rfl ?_
      refine j_goto (t := 4) rfl rfl ?_
      exact ih v1 (l3 + (1 : Int32))
    · refine j_wk [false, false, true, false] (L' := [none, none, some (.int l2), none]) rfl ?_
      exact j_end (fun _ h => h)

theorem c_X2_stepsToAll (l1 : Int32) (σ : j_G) : j_K true 1 19 [.ref 1, .int l1] σ (f_X2_stepsToAll l1 σ) (j_Pi σ) := by
  refine j_mkK (M := M_cX2_stepsToAll) (L := [some (.ref 1), some (.int l1), none, none]) (m := 2) t_19 rfl (j_rcvO j_a1 rfl) rfl (fun d hd τ => ?_)
  unfold f_X2_stepsToAll
  refine j_iconst (pc' := 1) (x := (0 : Int32)) rfl rfl rfl ?_
  refine j_istore_n (pc' := 2) (L' := [some (.ref 1), some (.int l1), some (.int (0 : Int32)), none]) rfl rfl rfl ?_
  refine j_iconst (pc' := 3) (x := (0 : Int32)) rfl rfl rfl ?_
  refine j_istore_n (pc' := 4) (L' := [some (.ref 1), some (.int l1), some (.int (0 : Int32)), some (.int (0 : Int32))]) rfl rfl rfl ?_
  refine j_q1 (l_X2_stepsToAll_4 hd τ l1 σ j_F (0 : Int32) (0 : Int32)) (fun v1 => ?_)
  show j_J true τ M_cX2_stepsToAll d 35 [none, none, some (.int v1), none] [] σ _ _
  refine j_iload_n (pc' := 36) rfl rfl rfl ?_
  exact j_ret rfl rfl rfl (fun _ h => h)

noncomputable def f_X11_mean (l1 : Int32) (l2 : Int32) (σ : j_G) : Option Int32 :=
  if ((f_X2_isHole 1 l1 σ) = 0) ∨ ((l2 < 0) ∨ ((1 : Int32) < l2)) then (some (-2 : Int32)) else (j_lt (f_X2_openHoles σ) fun v1 =>
  if v1 = 0 then (some (-1 : Int32)) else (if l2 = 0 then (j_b1 (f_X2_stepsToAll l1 σ) fun v2 =>
  some v2) else (some v1)))
theorem c_X11_mean (l1 : Int32) (l2 : Int32) (σ : j_G) : j_K true 2 140 [.ref 0, .int l1, .int l2] σ (f_X11_mean l1 l2 σ) (j_Pi σ) := by
  refine j_mkK (M := M_cX11_mean) (L := [some (.ref 0), some (.int l1), some (.int l2), none]) (m := 1) t_140 rfl (j_rcvO j_a0 rfl) rfl (fun d hd τ => ?_)
  unfold f_X11_mean
  refine j_aload_n (pc' := 1) rfl rfl rfl ?_
  refine j_gfr (pc' := 4) (x := 1) rfl rfl j_a0 rfl rfl ?_
  refine j_iload_n (pc' := 5) rfl rfl rfl ?_
  refine j_callTi (pc' := 8) (ai := 13) (vs := [.ref 1, .int l1]) (rest := []) rfl rfl (fun _ _ => rfl) (c_X2_isHole_1 l1 σ) (j_dd rfl hd) rfl ?_
  refine j_two (pT := 20) (pF := 23) (L1 := [some (.ref 0), some (.int l1), some (.int l2), none]) (st1 := []) (fun o kT kF => ?_) (fun h5 => ?_) (fun h5 => ?_)
  · refine j_ifeq (t := 20) (pc' := 11) rfl rfl rfl (fun h6 => ?_) (fun h6 => ?_)
    · exact kT (Or.inl h6)
    · refine j_iload_n (pc' := 12) rfl rfl rfl ?_
      refine j_iflt (t := 20) (pc' := 15) rfl rfl rfl (fun h7 => ?_) (fun h7 => ?_)
      · exact kT (Or.inr (Or.inl h7))
      · refine j_iload_n (pc' := 16) rfl rfl rfl ?_
        refine j_iconst (pc' := 17) (x := (1 : Int32)) rfl rfl rfl ?_
        refine j_icle (t := 23) (pc' := 20) rfl rfl rfl (fun h8 => ?_) (fun h8 => ?_)
        · exact kF (fun z => z.elim h6 (fun z => z.elim h7 (h8)))
        · exact kT (Or.inr (Or.inr (h8)))
  · refine j_bipush (pc' := 22) (x := (-2 : Int32)) rfl rfl rfl ?_
    exact j_ret rfl rfl rfl (fun _ h => h)
  · refine j_aload_n (pc' := 24) rfl rfl rfl ?_
    refine j_gfr (pc' := 27) (x := 1) rfl rfl j_a0 rfl rfl ?_
    refine j_callTi (pc' := 30) (ai := 17) (vs := [.ref 1]) (rest := []) rfl rfl (fun _ _ => rfl) (c_X2_openHoles  σ) (j_dd rfl hd) rfl ?_
    refine j_leti (fun v1 => ?_)
    refine j_istore_n (pc' := 31) (L' := [some (.ref 0), some (.int l1), some (.int l2), some (.int v1)]) rfl rfl rfl ?_
    refine j_iload_n (pc' := 32) rfl rfl rfl ?_
    refine j_two (pT := 35) (pF := 37) (L1 := [some (.ref 0), some (.int l1), some (.int l2), some (.int v1)]) (st1 := []) (fun o kT kF => ?_) (fun h3 => ?_) (fun h3 => ?_)
    · refine j_ifne (t := 37) (pc' := 35) rfl rfl rfl (fun h4 => ?_) (fun h4 => ?_)
      · exact kF h4
      · exact kT h4
    · refine j_iconst (pc' := 36) (x := (-1 : Int32)) rfl rfl rfl ?_
      exact j_ret rfl rfl rfl (fun _ h => h)
    · refine j_iload_n (pc' := 38) rfl rfl rfl ?_
      refine j_two (pT := 41) (pF := 52) (L1 := [some (.ref 0), some (.int l1), some (.int l2), some (.int v1)]) (st1 := []) (fun o kT kF => ?_) (fun h1 => ?_) (fun h1 => ?_)
      · refine j_ifne (t := 52) (pc' := 41) rfl rfl rfl (fun h2 => ?_) (fun h2 => ?_)
        · exact kF h2
        · exact kT h2
      · refine j_aload_n (pc' := 42) rfl rfl rfl ?_
        refine j_gfr (pc' := 45) (x := 1) rfl rfl j_a0 rfl rfl ?_
        refine j_iload_n (pc' := 46) rfl rfl rfl ?_
        refine j_callPi (pc' := 49) (ai := 19) (vs := [.ref 1, .int l1]) (rest := []) rfl rfl (fun _ _ => rfl) (c_X2_stepsToAll l1 σ) (j_dd rfl hd) rfl (fun v2 => ?_)
        refine j_goto (t := 53) rfl rfl ?_
        exact j_ret rfl rfl rfl (fun _ h => h)
      · refine j_iload_n (pc' := 53) rfl rfl rfl ?_
        exact j_ret rfl rfl rfl (fun _ h => h)

noncomputable def f_X12_isShut (l1 : Int32) (σ : j_G) : Option Int32 :=
  j_ix (7 : Int32) 116 (
  if (((σ.1 76 ((7 : Int32)).toNatClampNeg) >>> (l1 &&& 31)) &&& (1 : Int32)) = (1 : Int32) then (some (1 : Int32)) else (some (0 : Int32)))
theorem c_X12_isShut (l1 : Int32) (σ : j_G) : j_K false 0 202 [.ref 75, .int l1] σ (f_X12_isShut l1 σ) (j_Pi σ) := by
  refine j_mkK (M := M_cX12_isShut) (L := [some (.ref 75), some (.int l1)]) (m := 0) t_202 rfl (j_rcvO j_a75 rfl) rfl (fun d hd τ => ?_)
  unfold f_X12_isShut
  refine j_aload_n (pc' := 1) rfl rfl rfl ?_
  refine j_gfr (pc' := 4) (x := 76) rfl rfl j_a75 rfl rfl ?_
  refine j_bipush (pc' := 6) (x := (7 : Int32)) rfl rfl rfl ?_
  refine j_iald (pc' := 7) rfl rfl j_a76 ?_
  refine j_iload_n (pc' := 8) rfl rfl rfl ?_
  refine j_ishr (pc' := 9) rfl rfl ?_
  refine j_iconst (pc' := 10) (x := (1 : Int32)) rfl rfl rfl ?_
  refine j_iand (pc' := 11) rfl rfl ?_
  refine j_iconst (pc' := 12) (x := (1 : Int32)) rfl rfl rfl ?_
  refine j_two (pT := 15) (pF := 19) (L1 := [some (.ref 75), some (.int l1)]) (st1 := []) (fun o kT kF => ?_) (fun h1 => ?_) (fun h1 => ?_)
  · refine j_icne (t := 19) (pc' := 15) rfl rfl rfl (fun h2 => ?_) (fun h2 => ?_)
    · exact kF h2
    · exact kT h2
  · refine j_iconst (pc' := 16) (x := (1 : Int32)) rfl rfl rfl ?_
    refine j_goto (t := 20) rfl rfl ?_
    exact j_ret rfl rfl rfl (fun _ h => h)
  · refine j_iconst (pc' := 20) (x := (0 : Int32)) rfl rfl rfl ?_
    exact j_ret rfl rfl rfl (fun _ h => h)

noncomputable def p_X12_openHoles_4 (σ : j_G) : Nat → Int32 → Int32 → Option Int32
  | 0, _, _ => none
  | n + 1, l1, l2 =>
    j_b1 (f_X12_holes σ) fun v1 =>
    if l2 < v1 then (j_b1 (f_X12_isShut l2 σ) fun v2 =>
    j_lt (if ¬ v2 = 0 then ((0 : Int32)) else ((1 : Int32))) fun v3 =>
    j_lt (l1 + v3) fun v4 =>
    p_X12_openHoles_4 σ n v4 (l2 + (1 : Int32))) else (some l1)

noncomputable def f_X12_openHoles (σ : j_G) : Option Int32 :=
  j_b1 (p_X12_openHoles_4 σ j_F (0 : Int32) (0 : Int32)) fun v1 =>
  some v1
theorem l_X12_openHoles_4 {d : Nat} (hd : 1 ≤ d) (τ : j_G) (σ : j_G) : ∀ (n : Nat) (l1 : Int32) (l2 : Int32), j_J false τ M_cX12_openHoles d 4 [some (.ref 75), some (.int l1), some (.int l2)] [] σ (p_X12_openHoles_4 σ n l1 l2) (fun r Q => j_Tr false τ M_cX12_openHoles d 34 [none, some (.int r), none] [] σ Q) := by
  intro n
  induction n with
  | zero => intro l1 l2; exact j_none
  | succ n ih =>
    intro l1 l2
    unfold p_X12_openHoles_4
    refine j_iload_n (pc' := 5) rfl rfl rfl ?_
    refine j_aload_n (pc' := 6) rfl rfl rfl ?_
    refine j_callPi (pc' := 9) (ai := 200) (vs := [.ref 75]) (rest := [.int l2]) rfl rfl (fun _ _ => rfl) (c_X12_holes  σ) (j_dd rfl hd) rfl (fun v1 => ?_)
    refine j_two (pT := 12) (pF := 34) (L1 := [some (.ref 75), some (.int l1), some (.int l2)]) (st1 := []) (fun o kT kF => ?_) (fun h3 => ?_) (fun h3 => ?_)
    · refine j_icge (t := 34) (pc' := 12) rfl rfl rfl (fun h4 => ?_) (fun h4 => ?_)
      · exact kF h4
      · exact kT h4
    · refine j_iload_n (pc' := 13) rfl rfl rfl ?_
      refine j_aload_n (pc' := 14) rfl rfl rfl ?_
      refine j_iload_n (pc' := 15) rfl rfl rfl ?_
      refine j_callPi (pc' := 18) (ai := 202) (vs := [.ref 75, .int l2]) (rest := [.int l1]) rfl rfl (fun _ _ => rfl) (c_X12_isShut l2 σ) (j_dd rfl hd) rfl (fun v2 => ?_)
      refine j_ql (Φl := (fun r Q => j_Tr false τ M_cX12_openHoles d 26 [some (.ref 75), none, some (.int l2)] [.int r, .int l1] σ Q)) ?_ (fun v3 => ?_)
      · refine j_twoT (pT := 21) (pF := 25) (L1 := [some (.ref 75), some (.int l1), some (.int l2)]) (st1 := [.int l1]) (fun o kT kF => ?_) (fun h1 => ?_) (fun h1 => ?_)
        · refine j_ifeq (t := 25) (pc' := 21) rfl rfl rfl (fun h2 => ?_) (fun h2 => ?_)
          · exact kF (fun z => z h2)
          · exact kT h2
        · refine j_iconst (pc' := 22) (x := (0 : Int32)) rfl rfl rfl ?_
          refine j_goto (t := 26) rfl rfl ?_
          refine j_wk [true, false, true] (L' := [some (.ref 75), none, some (.int l2)]) rfl ?_
          exact j_end (fun _ h => h)
        · refine j_iconst (pc' := 26) (x := (1 : Int32)) rfl rfl rfl ?_
          refine j_wk [true, false, true] (L' := [some (.ref 75), none, some (.int l2)]) rfl ?_
          exact j_end (fun _ h => h)
      show j_J false τ M_cX12_openHoles d 26 [some (.ref 75), none, some (.int l2)] [.int v3, .int l1] σ _ _
      refine j_iadd (pc' := 27) rfl rfl ?_
      refine j_leti (fun v4 => ?_)
      refine j_istore_n (pc' := 28) (L' := [some (.ref 75), some (.int v4), some (.int l2)]) rfl rfl rfl ?_
      refine j_iincx (pc' := 31) (y := (1 : Int32)) (L' := [some (.ref 75), some (.int v4), some (.int (l2 + (1 : Int32)))]) rfl rfl rfl rfl rfl ?_
      refine j_goto (t := 4) rfl rfl ?_
      exact ih v4 (l2 + (1 : Int32))
    · refine j_wk [false, true, false] (L' := [none, some (.int l1), none]) rfl ?_
      exact j_end (fun _ h => h)

theorem c_X12_openHoles (σ : j_G) : j_K false 1 278 [.ref 75] σ (f_X12_openHoles σ) (j_Pi σ) := by
  refine j_mkK (M := M_cX12_openHoles) (L := [some (.ref 75), none, none]) (m := 2) t_278 rfl (j_rcvO j_a75 rfl) rfl (fun d hd τ => ?_)
  unfold f_X12_openHoles
  refine j_iconst (pc' := 1) (x := (0 : Int32)) rfl rfl rfl ?_
  refine j_istore_n (pc' := 2) (L' := [some (.ref 75), some (.int (0 : Int32)), none]) rfl rfl rfl ?_
  refine j_iconst (pc' := 3) (x := (0 : Int32)) rfl rfl rfl ?_
  refine j_istore_n (pc' := 4) (L' := [some (.ref 75), some (.int (0 : Int32)), some (.int (0 : Int32))]) rfl rfl rfl ?_
  refine j_q1 (l_X12_openHoles_4 hd τ σ j_F (0 : Int32) (0 : Int32)) (fun v1 => ?_)
  show j_J false τ M_cX12_openHoles d 34 [none, some (.int v1), none] [] σ _ _
  refine j_iload_n (pc' := 35) rfl rfl rfl ?_
  exact j_ret rfl rfl rfl (fun _ h => h)

noncomputable def p_X12_stepsToAll_4 (l1 : Int32) (σ : j_G) : Nat → Int32 → Int32 → Option Int32
  | 0, _, _ => none
  | n + 1, l2, l3 =>
    j_b1 (f_X12_holes σ) fun v1 =>
    if l3 < v1 then (j_b1 (f_X12_isShut l3 σ) fun v2 =>
    j_b1 (if ¬ v2 = 0 then (some (0 : Int32)) else (j_b1 (f_X12_stepsOf l1 l3 σ) fun v4 =>
    some v4)) fun v3 =>
    j_lt (l2 + v3) fun v5 =>
    p_X12_stepsToAll_4 l1 σ n v5 (l3 + (1 : Int32))) else (some l2)

noncomputable def f_X12_stepsToAll (l1 : Int32) (σ : j_G) : Option Int32 :=
  j_b1 (p_X12_stepsToAll_4 l1 σ j_F (0 : Int32) (0 : Int32)) fun v1 =>
  some v1
theorem l_X12_stepsToAll_4 {d : Nat} (hd : 1 ≤ d) (τ : j_G) (l1 : Int32) (σ : j_G) : ∀ (n : Nat) (l2 : Int32) (l3 : Int32), j_J false τ M_cX12_stepsToAll d 4 [some (.ref 75), some (.int l1), some (.int l2), some (.int l3)] [] σ (p_X12_stepsToAll_4 l1 σ n l2 l3) (fun r Q => j_Tr false τ M_cX12_stepsToAll d 39 [none, none, some (.int r), none] [] σ Q) := by
  intro n
  induction n with
  | zero => intro l2 l3; exact j_none
  | succ n ih =>
    intro l2 l3
    unfold p_X12_stepsToAll_4
    refine j_iload_n (pc' := 5) rfl rfl rfl ?_
    refine j_aload_n (pc' := 6) rfl rfl rfl ?_
    refine j_callPi (pc' := 9) (ai := 200) (vs := [.ref 75]) (rest := [.int l3]) rfl rfl (fun _ _ => rfl) (c_X12_holes  σ) (j_dd rfl hd) rfl (fun v1 => ?_)
    refine j_two (pT := 12) (pF := 39) (L1 := [some (.ref 75), some (.int l1), some (.int l2), some (.int l3)]) (st1 := []) (fun o kT kF => ?_) (fun h3 => ?_) (fun h3 => ?_)
    · refine j_icge (t := 39) (pc' := 12) rfl rfl rfl (fun h4 => ?_) (fun h4 => ?_)
      · exact kF h4
      · exact kT h4
    · refine j_iload_n (pc' := 13) rfl rfl rfl ?_
      refine j_aload_n (pc' := 14) rfl rfl rfl ?_
      refine j_iload_n (pc' := 15) rfl rfl rfl ?_
      refine j_callPi (pc' := 18) (ai := 202) (vs := [.ref 75, .int l3]) (rest := [.int l2]) rfl rfl (fun _ _ => rfl) (c_X12_isShut l3 σ) (j_dd rfl hd) rfl (fun v2 => ?_)
      refine j_q1 (Φl := (fun r Q => j_Tr false τ M_cX12_stepsToAll d 31 [some (.ref 75), some (.int l1), none, some (.int l3)] [.int r, .int l2] σ Q)) ?_ (fun v3 => ?_)
      · refine j_two (pT := 21) (pF := 25) (L1 := [some (.ref 75), some (.int l1), some (.int l2), some (.int l3)]) (st1 := [.int l2]) (fun o kT kF => ?_) (fun h1 => ?_) (fun h1 => ?_)
        · refine j_ifeq (t := 25) (pc' := 21) rfl rfl rfl (fun h2 => ?_) (fun h2 => ?_)
          · exact kF (fun z => z h2)
          · exact kT h2
        · refine j_iconst (pc' := 22) (x := (0 : Int32)) rfl rfl rfl ?_
          refine j_goto (t := 31) rfl rfl ?_
          refine j_wk [true, true, false, true] (L' := [some (.ref 75), some (.int l1), none, some (.int l3)]) rfl ?_
          exact j_end (fun _ h => h)
        · refine j_aload_n (pc' := 26) rfl rfl rfl ?_
          refine j_iload_n (pc' := 27) rfl rfl rfl ?_
          refine j_iload_n (pc' := 28) rfl rfl rfl ?_
          refine j_callPi (pc' := 31) (ai := 248) (vs := [.ref 75, .int l1, .int l3]) (rest := [.int l2]) rfl rfl (fun _ _ => rfl) (c_X12_stepsOf l1 l3 σ) (j_dd rfl hd) rfl (fun v4 => ?_)
          refine j_wk [true, true, false, true] (L' := [some (.ref 75), some (.int l1), none, some (.int l3)]) rfl ?_
          exact j_end (fun _ h => h)
      show j_J false τ M_cX12_stepsToAll d 31 [some (.ref 75), some (.int l1), none, some (.int l3)] [.int v3, .int l2] σ _ _
      refine j_iadd (pc' := 32) rfl rfl ?_
      refine j_leti (fun v5 => ?_)
      refine j_istore_n (pc' := 33) (L' := [some (.ref 75), some (.int l1), some (.int v5), some (.int l3)]) rfl rfl rfl ?_
      refine j_iincx (pc' := 36) (y := (1 : Int32)) (L' := [some (.ref 75), some (.int l1), some (.int v5), some (.int (l3 + (1 : Int32)))]) rfl rfl rfl rfl rfl ?_
      refine j_goto (t := 4) rfl rfl ?_
      exact ih v5 (l3 + (1 : Int32))
    · refine j_wk [false, false, true, false] (L' := [none, none, some (.int l2), none]) rfl ?_
      exact j_end (fun _ h => h)

theorem c_X12_stepsToAll (l1 : Int32) (σ : j_G) : j_K false 1 279 [.ref 75, .int l1] σ (f_X12_stepsToAll l1 σ) (j_Pi σ) := by
  refine j_mkK (M := M_cX12_stepsToAll) (L := [some (.ref 75), some (.int l1), none, none]) (m := 2) t_279 rfl (j_rcvO j_a75 rfl) rfl (fun d hd τ => ?_)
  unfold f_X12_stepsToAll
  refine j_iconst (pc' := 1) (x := (0 : Int32)) rfl rfl rfl ?_
  refine j_istore_n (pc' := 2) (L' := [some (.ref 75), some (.int l1), some (.int (0 : Int32)), none]) rfl rfl rfl ?_
  refine j_iconst (pc' := 3) (x := (0 : Int32)) rfl rfl rfl ?_
  refine j_istore_n (pc' := 4) (L' := [some (.ref 75), some (.int l1), some (.int (0 : Int32)), some (.int (0 : Int32))]) rfl rfl rfl ?_
  refine j_q1 (l_X12_stepsToAll_4 hd τ l1 σ j_F (0 : Int32) (0 : Int32)) (fun v1 => ?_)
  show j_J false τ M_cX12_stepsToAll d 39 [none, none, some (.int v1), none] [] σ _ _
  refine j_iload_n (pc' := 40) rfl rfl rfl ?_
  exact j_ret rfl rfl rfl (fun _ h => h)

noncomputable def p_X12_divisor_4 : Nat → Int32 → Int32 → Option Int32
  | 0, _, _ => none
  | n + 1, l2, l3 =>
    if ¬ l3 = 0 then (if l3 = 0 then none else (
    j_lt (l2 - l2 / l3 * l3) fun v1 =>
    p_X12_divisor_4 n l3 v1)) else (some l2)

noncomputable def f_X12_divisor (l0 : Int32) (l1 : Int32) : Option Int32 :=
  j_b1 (p_X12_divisor_4 j_F l0 l1) fun v1 =>
  some v1
theorem l_X12_divisor_4 {d : Nat} (hd : 0 ≤ d) (τ : j_G) (σ : j_G) : ∀ (n : Nat) (l2 : Int32) (l3 : Int32), j_J false τ M_cX12_divisor d 4 [none, none, some (.int l2), some (.int l3), none] [] σ (p_X12_divisor_4 n l2 l3) (fun r Q => j_Tr false τ M_cX12_divisor d 21 [none, none, some (.int r), none, none] [] σ Q) := by
  intro n
  induction n with
  | zero => intro l2 l3; exact j_none
  | succ n ih =>
    intro l2 l3
    unfold p_X12_divisor_4
    refine j_iload_n (pc' := 5) rfl rfl rfl ?_
    refine j_two (pT := 8) (pF := 21) (L1 := [none, none, some (.int l2), some (.int l3), none]) (st1 := []) (fun o kT kF => ?_) (fun h1 => ?_) (fun h1 => ?_)
    · refine j_ifeq (t := 21) (pc' := 8) rfl rfl rfl (fun h2 => ?_) (fun h2 => ?_)
      · exact kF (fun z => z h2)
      · exact kT h2
    · refine j_iload_n (pc' := 9) rfl rfl rfl ?_
      refine j_iload_n (pc' := 10) rfl rfl rfl ?_
      refine j_irem (pc' := 11) rfl rfl ?_
      refine j_leti (fun v1 => ?_)
      refine j_istore (pc' := 13) (L' := [none, none, some (.int l2), some (.int l3), some (.int v1)]) rfl rfl rfl ?_
      refine j_iload_n (pc' := 14) rfl rfl rfl ?_
      refine j_istore_n (pc' := 15) (L' := [none, none, some (.int l3), some (.int l3), some (.int v1)]) rfl rfl rfl ?_
      refine j_iload (pc' := 17) rfl rfl rfl ?_
      refine j_istore_n (pc' := 18) (L' := [none, none, some (.int l3), some (.int v1), some (.int v1)]) rfl rfl rfl ?_
      refine j_goto (t := 4) rfl rfl ?_
      refine j_wk [true, true, true, true, false] (L' := [none, none, some (.int l3), some (.int v1), none]) rfl ?_
      exact ih l3 v1
    · refine j_wk [true, true, true, false, true] (L' := [none, none, some (.int l2), none, none]) rfl ?_
      exact j_end (fun _ h => h)

theorem c_X12_divisor (l0 : Int32) (l1 : Int32) (σ : j_G) : j_K false 0 280 [.int l0, .int l1] σ (f_X12_divisor l0 l1) (j_Pi σ) := by
  refine j_mkK (M := M_cX12_divisor) (L := [some (.int l0), some (.int l1), none, none, none]) (m := 3) t_280 rfl (j_rcvS rfl) rfl (fun d hd τ => ?_)
  unfold f_X12_divisor
  refine j_iload_n (pc' := 1) rfl rfl rfl ?_
  refine j_istore_n (pc' := 2) (L' := [some (.int l0), some (.int l1), some (.int l0), none, none]) rfl rfl rfl ?_
  refine j_iload_n (pc' := 3) rfl rfl rfl ?_
  refine j_istore_n (pc' := 4) (L' := [some (.int l0), some (.int l1), some (.int l0), some (.int l1), none]) rfl rfl rfl ?_
  refine j_wk [false, false, true, true, true] (L' := [none, none, some (.int l0), some (.int l1), none]) rfl ?_
  refine j_q1 (l_X12_divisor_4 hd τ σ j_F l0 l1) (fun v1 => ?_)
  show j_J false τ M_cX12_divisor d 21 [none, none, some (.int v1), none, none] [] σ _ _
  refine j_iload_n (pc' := 22) rfl rfl rfl ?_
  exact j_ret rfl rfl rfl (fun _ h => h)

noncomputable def f_X12_mean (l1 : Int32) (l2 : Int32) (σ : j_G) : Option Int32 :=
  j_b1 (f_X12_isHole (l1).toInt64 σ) fun v1 =>
  if (v1 = 0) ∨ ((f_X12_in (l2).toInt64 (0 : Int64) (1 : Int64)) = 0) then (some (-2 : Int32)) else (j_b1 (f_X12_openHoles σ) fun v2 =>
  if v2 = 0 then (some (-1 : Int32)) else (j_b1 (f_X12_stepsToAll l1 σ) fun v3 =>
  j_lt (if l2 = 0 then (v3) else (v2)) fun v4 =>
  j_b1 (f_X12_divisor v3 v2) fun v5 =>
  if v5 = 0 then none else (
  some (v4 / v5))))
theorem c_X12_mean (l1 : Int32) (l2 : Int32) (σ : j_G) : j_K false 2 281 [.ref 75, .int l1, .int l2] σ (f_X12_mean l1 l2 σ) (j_Pi σ) := by
  refine j_mkK (M := M_cX12_mean) (L := [some (.ref 75), some (.int l1), some (.int l2), none, none]) (m := 2) t_281 rfl (j_rcvO j_a75 rfl) rfl (fun d hd τ => ?_)
  unfold f_X12_mean
  refine j_aload_n (pc' := 1) rfl rfl rfl ?_
  refine j_iload_n (pc' := 2) rfl rfl rfl ?_
  refine j_i2l (pc' := 3) rfl rfl ?_
  refine j_callPi (pc' := 6) (ai := 201) (vs := [.ref 75, .long (l1).toInt64]) (rest := []) rfl rfl (fun _ _ => rfl) (c_X12_isHole (l1).toInt64 σ) (j_dd rfl hd) rfl (fun v1 => ?_)
  refine j_two (pT := 19) (pF := 22) (L1 := [some (.ref 75), some (.int l1), some (.int l2), none, none]) (st1 := []) (fun o kT kF => ?_) (fun h5 => ?_) (fun h5 => ?_)
  · refine j_ifeq (t := 19) (pc' := 9) rfl rfl rfl (fun h6 => ?_) (fun h6 => ?_)
    · exact kT (Or.inl h6)
    · refine j_iload_n (pc' := 10) rfl rfl rfl ?_
      refine j_i2l (pc' := 11) rfl rfl ?_
      refine j_lconst (pc' := 12) (x := (0 : Int64)) rfl rfl rfl ?_
      refine j_lconst (pc' := 13) (x := (1 : Int64)) rfl rfl rfl ?_
      refine j_callTi (pc' := 16) (ai := 196) (vs := [.long (l2).toInt64, .long (0 : Int64), .long (1 : Int64)]) (rest := []) rfl rfl (fun _ _ => rfl) (c_X12_in (l2).toInt64 (0 : Int64) (1 : Int64) σ) (j_dd rfl hd) rfl ?_
      refine j_ifne (t := 22) (pc' := 19) rfl rfl rfl (fun h7 => ?_) (fun h7 => ?_)
      · exact kF (fun z => z.elim h6 (h7))
      · exact kT (Or.inr (h7))
  · refine j_bipush (pc' := 21) (x := (-2 : Int32)) rfl rfl rfl ?_
    exact j_ret rfl rfl rfl (fun _ h => h)
  · refine j_aload_n (pc' := 23) rfl rfl rfl ?_
    refine j_callPi (pc' := 26) (ai := 278) (vs := [.ref 75]) (rest := []) rfl rfl (fun _ _ => rfl) (c_X12_openHoles  σ) (j_dd rfl hd) rfl (fun v2 => ?_)
    refine j_istore_n (pc' := 27) (L' := [some (.ref 75), some (.int l1), some (.int l2), some (.int v2), none]) rfl rfl rfl ?_
    refine j_iload_n (pc' := 28) rfl rfl rfl ?_
    refine j_two (pT := 31) (pF := 33) (L1 := [some (.ref 75), some (.int l1), some (.int l2), some (.int v2), none]) (st1 := []) (fun o kT kF => ?_) (fun h3 => ?_) (fun h3 => ?_)
    · refine j_ifne (t := 33) (pc' := 31) rfl rfl rfl (fun h4 => ?_) (fun h4 => ?_)
      · exact kF h4
      · exact kT h4
    · refine j_iconst (pc' := 32) (x := (-1 : Int32)) rfl rfl rfl ?_
      exact j_ret rfl rfl rfl (fun _ h => h)
    · refine j_aload_n (pc' := 34) rfl rfl rfl ?_
      refine j_iload_n (pc' := 35) rfl rfl rfl ?_
      refine j_callPi (pc' := 38) (ai := 279) (vs := [.ref 75, .int l1]) (rest := []) rfl rfl (fun _ _ => rfl) (c_X12_stepsToAll l1 σ) (j_dd rfl hd) rfl (fun v3 => ?_)
      refine j_istore (pc' := 40) (L' := [some (.ref 75), some (.int l1), some (.int l2), some (.int v2), some (.int v3)]) rfl rfl rfl ?_
      refine j_iload_n (pc' := 41) rfl rfl rfl ?_
      refine j_ql (Φl := (fun r Q => j_Tr false τ M_cX12_mean d 50 [none, none, none, some (.int v2), some (.int v3)] [.int r] σ Q)) ?_ (fun v4 => ?_)
      · refine j_twoT (pT := 44) (pF := 49) (L1 := [some (.ref 75), some (.int l1), some (.int l2), some (.int v2), some (.int v3)]) (st1 := []) (fun o kT kF => ?_) (fun h1 => ?_) (fun h1 => ?_)
        · refine j_ifne (t := 49) (pc' := 44) rfl rfl rfl (fun h2 => ?_) (fun h2 => ?_)
          · exact kF h2
          · exact kT h2
        · refine j_iload (pc' := 46) rfl rfl rfl ?_
          refine j_goto (t := 50) rfl rfl ?_
          refine j_wk [false, false, false, true, true] (L' := [none, none, none, some (.int v2), some (.int v3)]) rfl ?_
          exact j_end (fun _ h => h)
        · refine j_iload_n (pc' := 50) rfl rfl rfl ?_
          refine j_wk [false, false, false, true, true] (L' := [none, none, none, some (.int v2), some (.int v3)]) rfl ?_
          exact j_end (fun _ h => h)
      show j_J false τ M_cX12_mean d 50 [none, none, none, some (.int v2), some (.int v3)] [.int v4] σ _ _
      refine j_iload (pc' := 52) rfl rfl rfl ?_
      refine j_iload_n (pc' := 53) rfl rfl rfl ?_
      refine j_callPi (pc' := 56) (ai := 280) (vs := [.int v3, .int v2]) (rest := [.int v4]) rfl rfl (fun _ _ => rfl) (c_X12_divisor v3 v2 σ) (j_dd rfl hd) rfl (fun v5 => ?_)
      refine j_idiv (pc' := 57) rfl rfl ?_
      exact j_ret rfl rfl rfl (fun _ h => h)

noncomputable def p_X11_middle_48 (l1 : Int32) (σ : j_G) : Nat → Int32 → Int32 → Int32 → Option Int32
  | 0, _, _, _ => none
  | n + 1, l2, l3, l4 =>
    if l4 < (f_X2_holes 1 σ) then (j_b1 (f_X2_stepsToAll l4 σ) fun v1 =>
    j_lt (if l1 = 0 then (if v1 < l3 then ((l4, v1)) else ((l2, l3))) else (if l3 < v1 then ((l4, v1)) else ((l2, l3)))) fun r4 =>
    p_X11_middle_48 l1 σ n (r4.1) (r4.2) (l4 + (1 : Int32))) else (some l2)

noncomputable def f_X11_middle (l1 : Int32) (σ : j_G) : Option Int32 :=
  if ((f_X2_isTold σ) = 0) ∨ ((l1 < 0) ∨ ((1 : Int32) < l1)) then (some (-2 : Int32)) else (if (f_X2_openHoles σ) = 0 then (some (-1 : Int32)) else (j_b1 (f_X2_stepsToAll (0 : Int32) σ) fun v1 =>
  j_b1 (p_X11_middle_48 l1 σ j_F (0 : Int32) v1 (1 : Int32)) fun v2 =>
  some v2))
theorem l_X11_middle_48 {d : Nat} (hd : 2 ≤ d) (τ : j_G) (l1 : Int32) (σ : j_G) : ∀ (n : Nat) (l2 : Int32) (l3 : Int32) (l4 : Int32), j_J true τ M_cX11_middle d 48 [some (.ref 0), some (.int l1), some (.int l2), some (.int l3), some (.int l4), none] [] σ (p_X11_middle_48 l1 σ n l2 l3 l4) (fun r Q => j_Tr true τ M_cX11_middle d 102 [none, none, some (.int r), none, none, none] [] σ Q) := by
  intro n
  induction n with
  | zero => intro l2 l3 l4; exact j_none
  | succ n ih =>
    intro l2 l3 l4
    unfold p_X11_middle_48
    refine j_iload (pc' := 50) rfl rfl rfl ?_
    refine j_aload_n (pc' := 51) rfl rfl rfl ?_
    refine j_gfr (pc' := 54) (x := 1) rfl rfl j_a0 rfl rfl ?_
    refine j_callTi (pc' := 57) (ai := 12) (vs := [.ref 1]) (rest := [.int l4]) rfl rfl (fun _ _ => rfl) (c_X2_holes_1  σ) (j_dd rfl hd) rfl ?_
    refine j_two (pT := 60) (pF := 102) (L1 := [some (.ref 0), some (.int l1), some (.int l2), some (.int l3), some (.int l4), none]) (st1 := []) (fun o kT kF => ?_) (fun h7 => ?_) (fun h7 => ?_)
    · refine j_icge (t := 102) (pc' := 60) rfl rfl rfl (fun h8 => ?_) (fun h8 => ?_)
      · exact kF h8
      · exact kT h8
    · refine j_aload_n (pc' := 61) rfl rfl rfl ?_
      refine j_gfr (pc' := 64) (x := 1) rfl rfl j_a0 rfl rfl ?_
      refine j_iload (pc' := 66) rfl rfl rfl ?_
      refine j_callPi (pc' := 69) (ai := 19) (vs := [.ref 1, .int l4]) (rest := []) rfl rfl (fun _ _ => rfl) (c_X2_stepsToAll l4 σ) (j_dd rfl hd) rfl (fun v1 => ?_)
      refine j_istore (pc' := 71) (L' := [some (.ref 0), some (.int l1), some (.int l2), some (.int l3), some (.int l4), some (.int v1)]) rfl rfl rfl ?_
      refine j_iload_n (pc' := 72) rfl rfl rfl ?_
      refine j_ql (Φl := (fun r Q => j_Tr true τ M_cX11_middle d 96 [some (.ref 0), some (.int l1), some (.int r.1), some (.int r.2), some (.int l4), none] [] σ Q)) ?_ (fun r4 => ?_)
      · refine j_twoT (pT := 75) (pF := 84) (L1 := [some (.ref 0), some (.int l1), some (.int l2), some (.int l3), some (.int l4), some (.int v1)]) (st1 := []) (fun o kT kF => ?_) (fun h5 => ?_) (fun h5 => ?_)
        · refine j_ifne (t := 84) (pc' := 75) rfl rfl rfl (fun h6 => ?_) (fun h6 => ?_)
          · exact kF h6
          · exact kT h6
        · refine j_iload (pc' := 77) rfl rfl rfl ?_
          refine j_iload_n (pc' := 78) rfl rfl rfl ?_
          refine j_twoT (pT := 81) (pF := 96) (L1 := [some (.ref 0), some (.int l1), some (.int l2), some (.int l3), some (.int l4), some (.int v1)]) (st1 := []) (fun o kT kF => ?_) (fun h1 => ?_) (fun h1 => ?_)
          · refine j_icge (t := 96) (pc' := 81) rfl rfl rfl (fun h2 => ?_) (fun h2 => ?_)
            · exact kF h2
            · exact kT h2
          · refine j_goto (t := 90) rfl rfl ?_
            refine j_iload (pc' := 92) rfl rfl rfl ?_
            refine j_istore_n (pc' := 93) (L' := [some (.ref 0), some (.int l1), some (.int l2), some (.int v1), some (.int l4), some (.int v1)]) rfl rfl rfl ?_
            refine j_iload (pc' := 95) rfl rfl rfl ?_
            refine j_istore_n (pc' := 96) (L' := [some (.ref 0), some (.int l1), some (.int l4), some (.int v1), some (.int l4), some (.int v1)]) rfl rfl rfl ?_
            refine j_wk [true, true, true, true, true, false] (L' := [some (.ref 0), some (.int l1), some (.int l4), some (.int v1), some (.int l4), none]) rfl ?_
            exact j_end (fun _ h => h)
          · refine j_wk [true, true, true, true, true, false] (L' := [some (.ref 0), some (.int l1), some (.int l2), some (.int l3), some (.int l4), none]) rfl ?_
            exact j_end (fun _ h => h)
        · refine j_iload (pc' := 86) rfl rfl rfl ?_
          refine j_iload_n (pc' := 87) rfl rfl rfl ?_
          refine j_twoT (pT := 90) (pF := 96) (L1 := [some (.ref 0), some (.int l1), some (.int l2), some (.int l3), some (.int l4), some (.int v1)]) (st1 := []) (fun o kT kF => ?_) (fun h3 => ?_) (fun h3 => ?_)
          · refine j_icle (t := 96) (pc' := 90) rfl rfl rfl (fun h4 => ?_) (fun h4 => ?_)
            · exact kF h4
            · exact kT h4
          · refine j_iload (pc' := 92) rfl rfl rfl ?_
            refine j_istore_n (pc' := 93) (L' := [some (.ref 0), some (.int l1), some (.int l2), some (.int v1), some (.int l4), some (.int v1)]) rfl rfl rfl ?_
            refine j_iload (pc' := 95) rfl rfl rfl ?_
            refine j_istore_n (pc' := 96) (L' := [some (.ref 0), some (.int l1), some (.int l4), some (.int v1), some (.int l4), some (.int v1)]) rfl rfl rfl ?_
            refine j_wk [true, true, true, true, true, false] (L' := [some (.ref 0), some (.int l1), some (.int l4), some (.int v1), some (.int l4), none]) rfl ?_
            exact j_end (fun _ h => h)
          · refine j_wk [true, true, true, true, true, false] (L' := [some (.ref 0), some (.int l1), some (.int l2), some (.int l3), some (.int l4), none]) rfl ?_
            exact j_end (fun _ h => h)
      show j_J true τ M_cX11_middle d 96 [some (.ref 0), some (.int l1), some (.int (r4.1)), some (.int (r4.2)), some (.int l4), none] [] σ _ _
      refine j_iincx (pc' := 99) (y := (1 : Int32)) (L' := [some (.ref 0), some (.int l1), some (.int (r4.1)), some (.int (r4.2)), some (.int (l4 + (1 : Int32))), none]) rfl rfl rfl rfl rfl ?_
      refine j_goto (t := 48) rfl rfl ?_
      exact ih (r4.1) (r4.2) (l4 + (1 : Int32))
    · refine j_wk [false, false, true, false, false, true] (L' := [none, none, some (.int l2), none, none, none]) rfl ?_
      exact j_end (fun _ h => h)

theorem c_X11_middle (l1 : Int32) (σ : j_G) : j_K true 2 141 [.ref 0, .int l1] σ (f_X11_middle l1 σ) (j_Pi σ) := by
  refine j_mkK (M := M_cX11_middle) (L := [some (.ref 0), some (.int l1), none, none, none, none]) (m := 4) t_141 rfl (j_rcvO j_a0 rfl) rfl (fun d hd τ => ?_)
  unfold f_X11_middle
  refine j_aload_n (pc' := 1) rfl rfl rfl ?_
  refine j_gfr (pc' := 4) (x := 1) rfl rfl j_a0 rfl rfl ?_
  refine j_callTi (pc' := 7) (ai := 11) (vs := [.ref 1]) (rest := []) rfl rfl (fun _ _ => rfl) (c_X2_isTold  σ) (j_dd rfl hd) rfl ?_
  refine j_two (pT := 19) (pF := 22) (L1 := [some (.ref 0), some (.int l1), none, none, none, none]) (st1 := []) (fun o kT kF => ?_) (fun h3 => ?_) (fun h3 => ?_)
  · refine j_ifeq (t := 19) (pc' := 10) rfl rfl rfl (fun h4 => ?_) (fun h4 => ?_)
    · exact kT (Or.inl h4)
    · refine j_iload_n (pc' := 11) rfl rfl rfl ?_
      refine j_iflt (t := 19) (pc' := 14) rfl rfl rfl (fun h5 => ?_) (fun h5 => ?_)
      · exact kT (Or.inr (Or.inl h5))
      · refine j_iload_n (pc' := 15) rfl rfl rfl ?_
        refine j_iconst (pc' := 16) (x := (1 : Int32)) rfl rfl rfl ?_
        refine j_icle (t := 22) (pc' := 19) rfl rfl rfl (fun h6 => ?_) (fun h6 => ?_)
        · exact kF (fun z => z.elim h4 (fun z => z.elim h5 (h6)))
        · exact kT (Or.inr (Or.inr (h6)))
  · refine j_bipush (pc' := 21) (x := (-2 : Int32)) rfl rfl rfl ?_
    exact j_ret rfl rfl rfl (fun _ h => h)
  · refine j_aload_n (pc' := 23) rfl rfl rfl ?_
    refine j_gfr (pc' := 26) (x := 1) rfl rfl j_a0 rfl rfl ?_
    refine j_callTi (pc' := 29) (ai := 17) (vs := [.ref 1]) (rest := []) rfl rfl (fun _ _ => rfl) (c_X2_openHoles  σ) (j_dd rfl hd) rfl ?_
    refine j_two (pT := 32) (pF := 34) (L1 := [some (.ref 0), some (.int l1), none, none, none, none]) (st1 := []) (fun o kT kF => ?_) (fun h1 => ?_) (fun h1 => ?_)
    · refine j_ifne (t := 34) (pc' := 32) rfl rfl rfl (fun h2 => ?_) (fun h2 => ?_)
      · exact kF h2
      · exact kT h2
    · refine j_iconst (pc' := 33) (x := (-1 : Int32)) rfl rfl rfl ?_
      exact j_ret rfl rfl rfl (fun _ h => h)
    · refine j_iconst (pc' := 35) (x := (0 : Int32)) rfl rfl rfl ?_
      refine j_istore_n (pc' := 36) (L' := [some (.ref 0), some (.int l1), some (.int (0 : Int32)), none, none, none]) rfl rfl rfl ?_
      refine j_aload_n (pc' := 37) rfl rfl rfl ?_
      refine j_gfr (pc' := 40) (x := 1) rfl rfl j_a0 rfl rfl ?_
      refine j_iconst (pc' := 41) (x := (0 : Int32)) rfl rfl rfl ?_
      refine j_callPi (pc' := 44) (ai := 19) (vs := [.ref 1, .int (0 : Int32)]) (rest := []) rfl rfl (fun _ _ => rfl) (c_X2_stepsToAll (0 : Int32) σ) (j_dd rfl hd) rfl (fun v1 => ?_)
      refine j_istore_n (pc' := 45) (L' := [some (.ref 0), some (.int l1), some (.int (0 : Int32)), some (.int v1), none, none]) rfl rfl rfl ?_
      refine j_iconst (pc' := 46) (x := (1 : Int32)) rfl rfl rfl ?_
      refine j_istore (pc' := 48) (L' := [some (.ref 0), some (.int l1), some (.int (0 : Int32)), some (.int v1), some (.int (1 : Int32)), none]) rfl rfl rfl ?_
      refine j_q1 (l_X11_middle_48 hd τ l1 σ j_F (0 : Int32) v1 (1 : Int32)) (fun v2 => ?_)
      show j_J true τ M_cX11_middle d 102 [none, none, some (.int v2), none, none, none] [] σ _ _
      refine j_iload_n (pc' := 103) rfl rfl rfl ?_
      exact j_ret rfl rfl rfl (fun _ h => h)

noncomputable def p_X12_middle_33 (l1 : Int32) (σ : j_G) : Nat → Int32 → Int32 → Option Int32
  | 0, _, _ => none
  | n + 1, l2, l3 =>
    j_b1 (f_X12_holes σ) fun v1 =>
    if l3 < v1 then (j_b1 (if l1 = 0 then (j_b1 (f_X12_stepsToAll l3 σ) fun v3 =>
    j_b1 (f_X12_stepsToAll l2 σ) fun v4 =>
    if v3 < v4 then (some l3) else (some l2)) else (j_b1 (f_X12_stepsToAll l3 σ) fun v5 =>
    j_b1 (f_X12_stepsToAll l2 σ) fun v6 =>
    if v6 < v5 then (some l3) else (some l2))) fun v2 =>
    p_X12_middle_33 l1 σ n v2 (l3 + (1 : Int32))) else (some l2)

noncomputable def f_X12_middle (l1 : Int32) (σ : j_G) : Option Int32 :=
  j_b1 (f_X12_isBoard σ) fun v1 =>
  if (v1 = 0) ∨ ((f_X12_in (l1).toInt64 (0 : Int64) (1 : Int64)) = 0) then (some (-2 : Int32)) else (j_b1 (f_X12_openHoles σ) fun v2 =>
  if v2 = 0 then (some (-1 : Int32)) else (j_b1 (p_X12_middle_33 l1 σ j_F (0 : Int32) (1 : Int32)) fun v3 =>
  some v3))
theorem l_X12_middle_33 {d : Nat} (hd : 2 ≤ d) (τ : j_G) (l1 : Int32) (σ : j_G) : ∀ (n : Nat) (l2 : Int32) (l3 : Int32), j_J false τ M_cX12_middle d 33 [some (.ref 75), some (.int l1), some (.int l2), some (.int l3)] [] σ (p_X12_middle_33 l1 σ n l2 l3) (fun r Q => j_Tr false τ M_cX12_middle d 82 [none, none, some (.int r), none] [] σ Q) := by
  intro n
  induction n with
  | zero => intro l2 l3; exact j_none
  | succ n ih =>
    intro l2 l3
    unfold p_X12_middle_33
    refine j_iload_n (pc' := 34) rfl rfl rfl ?_
    refine j_aload_n (pc' := 35) rfl rfl rfl ?_
    refine j_callPi (pc' := 38) (ai := 200) (vs := [.ref 75]) (rest := [.int l3]) rfl rfl (fun _ _ => rfl) (c_X12_holes  σ) (j_dd rfl hd) rfl (fun v1 => ?_)
    refine j_two (pT := 41) (pF := 82) (L1 := [some (.ref 75), some (.int l1), some (.int l2), some (.int l3)]) (st1 := []) (fun o kT kF => ?_) (fun h7 => ?_) (fun h7 => ?_)
    · refine j_icge (t := 82) (pc' := 41) rfl rfl rfl (fun h8 => ?_) (fun h8 => ?_)
      · exact kF h8
      · exact kT h8
    · refine j_iload_n (pc' := 42) rfl rfl rfl ?_
      refine j_q1 (Φl := (fun r Q => j_Tr false τ M_cX12_middle d 76 [some (.ref 75), some (.int l1), some (.int r), some (.int l3)] [] σ Q)) ?_ (fun v2 => ?_)
      · refine j_two (pT := 45) (pF := 61) (L1 := [some (.ref 75), some (.int l1), some (.int l2), some (.int l3)]) (st1 := []) (fun o kT kF => ?_) (fun h5 => ?_) (fun h5 => ?_)
        · refine j_ifne (t := 61) (pc' := 45) rfl rfl rfl (fun h6 => ?_) (fun h6 => ?_)
          · exact kF h6
          · exact kT h6
        · refine j_aload_n (pc' := 46) rfl rfl rfl ?_
          refine j_iload_n (pc' := 47) rfl rfl rfl ?_
          refine j_callPi (pc' := 50) (ai := 279) (vs := [.ref 75, .int l3]) (rest := []) rfl rfl (fun _ _ => rfl) (c_X12_stepsToAll l3 σ) (j_dd rfl hd) rfl (fun v3 => ?_)
          refine j_aload_n (pc' := 51) rfl rfl rfl ?_
          refine j_iload_n (pc' := 52) rfl rfl rfl ?_
          refine j_callPi (pc' := 55) (ai := 279) (vs := [.ref 75, .int l2]) (rest := [.int v3]) rfl rfl (fun _ _ => rfl) (c_X12_stepsToAll l2 σ) (j_dd rfl hd) rfl (fun v4 => ?_)
          refine j_two (pT := 58) (pF := 76) (L1 := [some (.ref 75), some (.int l1), some (.int l2), some (.int l3)]) (st1 := []) (fun o kT kF => ?_) (fun h1 => ?_) (fun h1 => ?_)
          · refine j_icge (t := 76) (pc' := 58) rfl rfl rfl (fun h2 => ?_) (fun h2 => ?_)
            · exact kF h2
            · exact kT h2
          · refine j_goto (t := 74) rfl rfl ?_
            refine j_iload_n (pc' := 75) rfl rfl rfl ?_
            refine j_istore_n (pc' := 76) (L' := [some (.ref 75), some (.int l1), some (.int l3), some (.int l3)]) rfl rfl rfl ?_
            exact j_end (fun _ h => h)
          · exact j_end (fun _ h => h)
        · refine j_aload_n (pc' := 62) rfl rfl rfl ?_
          refine j_iload_n (pc' := 63) rfl rfl rfl ?_
          refine j_callPi (pc' := 66) (ai := 279) (vs := [.ref 75, .int l3]) (rest := []) rfl rfl (fun _ _ => rfl) (c_X12_stepsToAll l3 σ) (j_dd rfl hd) rfl (fun v5 => ?_)
          refine j_aload_n (pc' := 67) rfl rfl rfl ?_
          refine j_iload_n (pc' := 68) rfl rfl rfl ?_
          refine j_callPi (pc' := 71) (ai := 279) (vs := [.ref 75, .int l2]) (rest := [.int v5]) rfl rfl (fun _ _ => rfl) (c_X12_stepsToAll l2 σ) (j_dd rfl hd) rfl (fun v6 => ?_)
          refine j_two (pT := 74) (pF := 76) (L1 := [some (.ref 75), some (.int l1), some (.int l2), some (.int l3)]) (st1 := []) (fun o kT kF => ?_) (fun h3 => ?_) (fun h3 => ?_)
          · refine j_icle (t := 76) (pc' := 74) rfl rfl rfl (fun h4 => ?_) (fun h4 => ?_)
            · exact kF h4
            · exact kT h4
          · refine j_iload_n (pc' := 75) rfl rfl rfl ?_
            refine j_istore_n (pc' := 76) (L' := [some (.ref 75), some (.int l1), some (.int l3), some (.int l3)]) rfl rfl rfl ?_
            exact j_end (fun _ h => h)
          · exact j_end (fun _ h => h)
      show j_J false τ M_cX12_middle d 76 [some (.ref 75), some (.int l1), some (.int v2), some (.int l3)] [] σ _ _
      refine j_iincx (pc' := 79) (y := (1 : Int32)) (L' := [some (.ref 75), some (.int l1), some (.int v2), some (.int (l3 + (1 : Int32)))]) rfl rfl rfl rfl rfl ?_
      refine j_goto (t := 33) rfl rfl ?_
      exact ih v2 (l3 + (1 : Int32))
    · refine j_wk [false, false, true, false] (L' := [none, none, some (.int l2), none]) rfl ?_
      exact j_end (fun _ h => h)

theorem c_X12_middle (l1 : Int32) (σ : j_G) : j_K false 2 282 [.ref 75, .int l1] σ (f_X12_middle l1 σ) (j_Pi σ) := by
  refine j_mkK (M := M_cX12_middle) (L := [some (.ref 75), some (.int l1), none, none]) (m := 2) t_282 rfl (j_rcvO j_a75 rfl) rfl (fun d hd τ => ?_)
  unfold f_X12_middle
  refine j_aload_n (pc' := 1) rfl rfl rfl ?_
  refine j_callPi (pc' := 4) (ai := 199) (vs := [.ref 75]) (rest := []) rfl rfl (fun _ _ => rfl) (c_X12_isBoard  σ) (j_dd rfl hd) rfl (fun v1 => ?_)
  refine j_two (pT := 17) (pF := 20) (L1 := [some (.ref 75), some (.int l1), none, none]) (st1 := []) (fun o kT kF => ?_) (fun h3 => ?_) (fun h3 => ?_)
  · refine j_ifeq (t := 17) (pc' := 7) rfl rfl rfl (fun h4 => ?_) (fun h4 => ?_)
    · exact kT (Or.inl h4)
    · refine j_iload_n (pc' := 8) rfl rfl rfl ?_
      refine j_i2l (pc' := 9) rfl rfl ?_
      refine j_lconst (pc' := 10) (x := (0 : Int64)) rfl rfl rfl ?_
      refine j_lconst (pc' := 11) (x := (1 : Int64)) rfl rfl rfl ?_
      refine j_callTi (pc' := 14) (ai := 196) (vs := [.long (l1).toInt64, .long (0 : Int64), .long (1 : Int64)]) (rest := []) rfl rfl (fun _ _ => rfl) (c_X12_in (l1).toInt64 (0 : Int64) (1 : Int64) σ) (j_dd rfl hd) rfl ?_
      refine j_ifne (t := 20) (pc' := 17) rfl rfl rfl (fun h5 => ?_) (fun h5 => ?_)
      · exact kF (fun z => z.elim h4 (h5))
      · exact kT (Or.inr (h5))
  · refine j_bipush (pc' := 19) (x := (-2 : Int32)) rfl rfl rfl ?_
    exact j_ret rfl rfl rfl (fun _ h => h)
  · refine j_aload_n (pc' := 21) rfl rfl rfl ?_
    refine j_callPi (pc' := 24) (ai := 278) (vs := [.ref 75]) (rest := []) rfl rfl (fun _ _ => rfl) (c_X12_openHoles  σ) (j_dd rfl hd) rfl (fun v2 => ?_)
    refine j_two (pT := 27) (pF := 29) (L1 := [some (.ref 75), some (.int l1), none, none]) (st1 := []) (fun o kT kF => ?_) (fun h1 => ?_) (fun h1 => ?_)
    · refine j_ifne (t := 29) (pc' := 27) rfl rfl rfl (fun h2 => ?_) (fun h2 => ?_)
      · exact kF h2
      · exact kT h2
    · refine j_iconst (pc' := 28) (x := (-1 : Int32)) rfl rfl rfl ?_
      exact j_ret rfl rfl rfl (fun _ h => h)
    · refine j_iconst (pc' := 30) (x := (0 : Int32)) rfl rfl rfl ?_
      refine j_istore_n (pc' := 31) (L' := [some (.ref 75), some (.int l1), some (.int (0 : Int32)), none]) rfl rfl rfl ?_
      refine j_iconst (pc' := 32) (x := (1 : Int32)) rfl rfl rfl ?_
      refine j_istore_n (pc' := 33) (L' := [some (.ref 75), some (.int l1), some (.int (0 : Int32)), some (.int (1 : Int32))]) rfl rfl rfl ?_
      refine j_q1 (l_X12_middle_33 hd τ l1 σ j_F (0 : Int32) (1 : Int32)) (fun v3 => ?_)
      show j_J false τ M_cX12_middle d 82 [none, none, some (.int v3), none] [] σ _ _
      refine j_iload_n (pc' := 83) rfl rfl rfl ?_
      exact j_ret rfl rfl rfl (fun _ h => h)

noncomputable def p_X6_reachFrom_5 (l2 : Int32) (σ : j_G) : Nat → Int32 → Int32 → Option Int32
  | 0, _, _ => none
  | n + 1, l3, l4 =>
    if l4 < (f_X2_holes 1 σ) then (j_b1 (if (f_X2_isShut 1 l4 σ) = 0 then (j_b1 (f_X6_there 28 l2 l4 (σ.1 28 1) σ) fun v2 =>
    j_b1 (f_X2_stayIn (0 : Int32) σ) fun v3 =>
    if v2 < v3 then (j_lt (l3 ||| ((1 : Int32) <<< (l4 &&& 31))) fun v4 =>
    some v4) else (some l3)) else (some l3)) fun v1 =>
    p_X6_reachFrom_5 l2 σ n v1 (l4 + (1 : Int32))) else (some l3)

noncomputable def f_X6_reachFrom (l2 : Int32) (σ : j_G) : Option Int32 :=
  j_b1 (p_X6_reachFrom_5 l2 σ j_F (0 : Int32) (0 : Int32)) fun v1 =>
  some v1
theorem l_X6_reachFrom_5 {d : Nat} (hd : 2 ≤ d) (τ : j_G) (l2 : Int32) (σ : j_G) : ∀ (n : Nat) (l3 : Int32) (l4 : Int32), j_J true τ M_cX6_reachFrom d 5 [some (.ref 28), some (.ref 1), some (.int l2), some (.int l3), some (.int l4)] [] σ (p_X6_reachFrom_5 l2 σ n l3 l4) (fun r Q => j_Tr true τ M_cX6_reachFrom d 56 [none, none, none, some (.int r), none] [] σ Q) := by
  intro n
  induction n with
  | zero => intro l3 l4; exact j_none
  | succ n ih =>
    intro l3 l4
    unfold p_X6_reachFrom_5
    refine j_iload (pc' := 7) rfl rfl rfl ?_
    refine j_aload_n (pc' := 8) rfl rfl rfl ?_
    refine j_callTi (pc' := 11) (ai := 12) (vs := [.ref 1]) (rest := [.int l4]) rfl rfl (fun _ _ => rfl) (c_X2_holes_1  σ) (j_dd rfl hd) rfl ?_
    refine j_two (pT := 14) (pF := 56) (L1 := [some (.ref 28), some (.ref 1), some (.int l2), some (.int l3), some (.int l4)]) (st1 := []) (fun o kT kF => ?_) (fun h5 => ?_) (fun h5 => ?_)
    · refine j_icge (t := 56) (pc' := 14) rfl rfl rfl (fun h6 => ?_) (fun h6 => ?_)
      · exact kF h6
      · exact kT h6
    · refine j_aload_n (pc' := 15) rfl rfl rfl ?_
      refine j_iload (pc' := 17) rfl rfl rfl ?_
      refine j_callTi (pc' := 20) (ai := 16) (vs := [.ref 1, .int l4]) (rest := []) rfl rfl (fun _ _ => rfl) (c_X2_isShut_1 l4 σ) (j_dd rfl hd) rfl ?_
      refine j_q1 (Φl := (fun r Q => j_Tr true τ M_cX6_reachFrom d 50 [some (.ref 28), some (.ref 1), some (.int l2), some (.int r), some (.int l4)] [] σ Q)) ?_ (fun v1 => ?_)
      · refine j_two (pT := 23) (pF := 50) (L1 := [some (.ref 28), some (.ref 1), some (.int l2), some (.int l3), some (.int l4)]) (st1 := []) (fun o kT kF => ?_) (fun h3 => ?_) (fun h3 => ?_)
        · refine j_ifne (t := 50) (pc' := 23) rfl rfl rfl (fun h4 => ?_) (fun h4 => ?_)
          · exact kF h4
          · exact kT h4
        · refine j_aload_n (pc' := 24) rfl rfl rfl ?_
          refine j_aload_n (pc' := 25) rfl rfl rfl ?_
          refine j_iload_n (pc' := 26) rfl rfl rfl ?_
          refine j_iload (pc' := 28) rfl rfl rfl ?_
          refine j_aload_n (pc' := 29) rfl rfl rfl ?_
          refine j_gfi (pc' := 32) rfl rfl j_a28 rfl ?_
          refine j_callPi (pc' := 35) (ai := 67) (vs := [.ref 28, .ref 1, .int l2, .int l4, .int (σ.1 28 1)]) (rest := []) rfl rfl (fun _ _ => rfl) (c_X6_there_28_1 l2 l4 (σ.1 28 1) σ) (j_dd rfl hd) rfl (fun v2 => ?_)
          refine j_aload_n (pc' := 36) rfl rfl rfl ?_
          refine j_iconst (pc' := 37) (x := (0 : Int32)) rfl rfl rfl ?_
          refine j_callPi (pc' := 40) (ai := 21) (vs := [.ref 1, .int (0 : Int32)]) (rest := [.int v2]) rfl rfl (fun _ _ => rfl) (c_X2_stayIn (0 : Int32) σ) (j_dd rfl hd) rfl (fun v3 => ?_)
          refine j_two (pT := 43) (pF := 50) (L1 := [some (.ref 28), some (.ref 1), some (.int l2), some (.int l3), some (.int l4)]) (st1 := []) (fun o kT kF => ?_) (fun h1 => ?_) (fun h1 => ?_)
          · refine j_icge (t := 50) (pc' := 43) rfl rfl rfl (fun h2 => ?_) (fun h2 => ?_)
            · exact kF h2
            · exact kT h2
          · refine j_iload_n (pc' := 44) rfl rfl rfl ?_
            refine j_iconst (pc' := 45) (x := (1 : Int32)) rfl rfl rfl ?_
            refine j_iload (pc' := 47) rfl rfl rfl ?_
            refine j_ishl (pc' := 48) rfl rfl ?_
            refine j_ior (pc' := 49) rfl rfl ?_
            refine j_leti (fun v4 => ?_)
            refine j_istore_n (pc' := 50) (L' := [some (.ref 28), some (.ref 1), some (.int l2), some (.int v4), some (.int l4)]) rfl rfl rfl ?_
            exact j_end (fun _ h => h)
          · exact j_end (fun _ h => h)
        · exact j_end (fun _ h => h)
      show j_J true τ M_cX6_reachFrom d 50 [some (.ref 28), some (.ref 1), some (.int l2), some (.int v1), some (.int l4)] [] σ _ _
      refine j_iincx (pc' := 53) (y := (1 : Int32)) (L' := [some (.ref 28), some (.ref 1), some (.int l2), some (.int v1), some (.int (l4 + (1 : Int32)))]) rfl rfl rfl rfl rfl ?_
      refine j_goto (t := 5) rfl rfl ?_
      exact ih v1 (l4 + (1 : Int32))
    · refine j_wk [false, false, false, true, false] (L' := [none, none, none, some (.int l3), none]) rfl ?_
      exact j_end (fun _ h => h)

theorem c_X6_reachFrom (l2 : Int32) (σ : j_G) : j_K true 2 68 [.ref 28, .ref 1, .int l2] σ (f_X6_reachFrom l2 σ) (j_Pi σ) := by
  refine j_mkK (M := M_cX6_reachFrom) (L := [some (.ref 28), some (.ref 1), some (.int l2), none, none]) (m := 2) t_68 rfl (j_rcvO j_a28 rfl) rfl (fun d hd τ => ?_)
  unfold f_X6_reachFrom
  refine j_iconst (pc' := 1) (x := (0 : Int32)) rfl rfl rfl ?_
  refine j_istore_n (pc' := 2) (L' := [some (.ref 28), some (.ref 1), some (.int l2), some (.int (0 : Int32)), none]) rfl rfl rfl ?_
  refine j_iconst (pc' := 3) (x := (0 : Int32)) rfl rfl rfl ?_
  refine j_istore (pc' := 5) (L' := [some (.ref 28), some (.ref 1), some (.int l2), some (.int (0 : Int32)), some (.int (0 : Int32))]) rfl rfl rfl ?_
  refine j_q1 (l_X6_reachFrom_5 hd τ l2 σ j_F (0 : Int32) (0 : Int32)) (fun v1 => ?_)
  show j_J true τ M_cX6_reachFrom d 56 [none, none, none, some (.int v1), none] [] σ _ _
  refine j_iload_n (pc' := 57) rfl rfl rfl ?_
  exact j_ret rfl rfl rfl (fun _ h => h)

noncomputable def f_X11_reach (l1 : Int32) (l2 : Int32) (σ : j_G) : Option (Int32 × j_G) :=
  if ((f_X2_isPlayer l1 σ) = 0) ∨ ((f_X2_isHole 1 l2 σ) = 0) then (some ((-2 : Int32), σ)) else (j_b1 (f_X6_take 28 l1 σ) fun σ1 =>
  j_b1 (f_X6_reachFrom l2 σ1) fun v2 =>
  some (v2, σ1))
theorem c_X11_reach (l1 : Int32) (l2 : Int32) (σ : j_G) : j_K true 3 142 [.ref 0, .int l1, .int l2] σ (f_X11_reach l1 l2 σ) j_Ri := by
  refine j_mkK (M := M_cX11_reach) (L := [some (.ref 0), some (.int l1), some (.int l2)]) (m := 0) t_142 rfl (j_rcvO j_a0 rfl) rfl (fun d hd τ => ?_)
  unfold f_X11_reach
  refine j_aload_n (pc' := 1) rfl rfl rfl ?_
  refine j_gfr (pc' := 4) (x := 1) rfl rfl j_a0 rfl rfl ?_
  refine j_iload_n (pc' := 5) rfl rfl rfl ?_
  refine j_callTi (pc' := 8) (ai := 15) (vs := [.ref 1, .int l1]) (rest := []) rfl rfl (fun _ _ => rfl) (c_X2_isPlayer l1 σ) (j_dd rfl hd) rfl ?_
  refine j_two (pT := 22) (pF := 25) (L1 := [some (.ref 0), some (.int l1), some (.int l2)]) (st1 := []) (fun o kT kF => ?_) (fun h1 => ?_) (fun h1 => ?_)
  · refine j_ifeq (t := 22) (pc' := 11) rfl rfl rfl (fun h2 => ?_) (fun h2 => ?_)
    · exact kT (Or.inl h2)
    · refine j_aload_n (pc' := 12) rfl rfl rfl ?_
      refine j_gfr (pc' := 15) (x := 1) rfl rfl j_a0 rfl rfl ?_
      refine j_iload_n (pc' := 16) rfl rfl rfl ?_
      refine j_callTi (pc' := 19) (ai := 13) (vs := [.ref 1, .int l2]) (rest := []) rfl rfl (fun _ _ => rfl) (c_X2_isHole_1 l2 σ) (j_dd rfl hd) rfl ?_
      refine j_ifne (t := 25) (pc' := 22) rfl rfl rfl (fun h3 => ?_) (fun h3 => ?_)
      · exact kF (fun z => z.elim h2 (h3))
      · exact kT (Or.inr (h3))
  · refine j_bipush (pc' := 24) (x := (-2 : Int32)) rfl rfl rfl ?_
    exact j_ret rfl rfl rfl (fun _ h => h)
  · refine j_aload_n (pc' := 26) rfl rfl rfl ?_
    refine j_gfr (pc' := 29) (x := 28) rfl rfl j_a0 rfl rfl ?_
    refine j_aload_n (pc' := 30) rfl rfl rfl ?_
    refine j_gfr (pc' := 33) (x := 1) rfl rfl j_a0 rfl rfl ?_
    refine j_iload_n (pc' := 34) rfl rfl rfl ?_
    refine j_callRv (pc' := 37) (ai := 64) (vs := [.ref 28, .ref 1, .int l1]) (rest := []) rfl rfl (fun _ _ => rfl) (c_X6_take_28_1 l1 σ) (j_dd rfl hd) rfl (fun σ1 => ?_)
    refine j_aload_n (pc' := 38) rfl rfl rfl ?_
    refine j_gfr (pc' := 41) (x := 28) rfl rfl j_a0 rfl rfl ?_
    refine j_aload_n (pc' := 42) rfl rfl rfl ?_
    refine j_gfr (pc' := 45) (x := 1) rfl rfl j_a0 rfl rfl ?_
    refine j_iload_n (pc' := 46) rfl rfl rfl ?_
    refine j_callPi (pc' := 49) (ai := 68) (vs := [.ref 28, .ref 1, .int l2]) (rest := []) rfl rfl (fun _ _ => rfl) (c_X6_reachFrom l2 σ1) (j_dd rfl hd) rfl (fun v2 => ?_)
    exact j_ret rfl rfl rfl (fun _ h => h)

noncomputable def p_X12_reachOf_14 (l1 : Int32) (l2 : Int32) (l4 : Int32) (σ : j_G) : Nat → Int32 → Int32 → Option Int32
  | 0, _, _ => none
  | n + 1, l3, l5 =>
    j_b1 (f_X12_holes σ) fun v1 =>
    if l5 < v1 then (j_b1 (f_X12_isShut l5 σ) fun v2 =>
    j_b1 (if v2 = 0 then (j_b1 (f_X12_of l1 (1 : Int32) σ) fun v4 =>
    j_b1 (f_X12_stepsOf l2 l5 σ) fun v5 =>
    j_b1 (f_X12_of l1 (1 : Int32) σ) fun v6 =>
    j_b1 (f_X12_paceIn l1 v6 σ) fun v7 =>
    if ¬ l4 < (v4 + (v5 * v7)) then (j_lt (l3 ||| ((1 : Int32) <<< (l5 &&& 31))) fun v8 =>
    some v8) else (some l3)) else (some l3)) fun v3 =>
    p_X12_reachOf_14 l1 l2 l4 σ n v3 (l5 + (1 : Int32))) else (some l3)

noncomputable def f_X12_reachOf (l1 : Int32) (l2 : Int32) (σ : j_G) : Option Int32 :=
  j_b1 (f_X12_stayIn (0 : Int32) σ) fun v1 =>
  j_lt (v1 - (1 : Int32)) fun v2 =>
  j_b1 (p_X12_reachOf_14 l1 l2 v2 σ j_F (0 : Int32) (0 : Int32)) fun v3 =>
  some v3
theorem l_X12_reachOf_14 {d : Nat} (hd : 2 ≤ d) (τ : j_G) (l1 : Int32) (l2 : Int32) (l4 : Int32) (σ : j_G) : ∀ (n : Nat) (l3 : Int32) (l5 : Int32), j_J false τ M_cX12_reachOf d 14 [some (.ref 75), some (.int l1), some (.int l2), some (.int l3), some (.int l4), some (.int l5)] [] σ (p_X12_reachOf_14 l1 l2 l4 σ n l3 l5) (fun r Q => j_Tr false τ M_cX12_reachOf d 76 [none, none, none, some (.int r), none, none] [] σ Q) := by
  intro n
  induction n with
  | zero => intro l3 l5; exact j_none
  | succ n ih =>
    intro l3 l5
    unfold p_X12_reachOf_14
    refine j_iload (pc' := 16) rfl rfl rfl ?_
    refine j_aload_n (pc' := 17) rfl rfl rfl ?_
    refine j_callPi (pc' := 20) (ai := 200) (vs := [.ref 75]) (rest := [.int l5]) rfl rfl (fun _ _ => rfl) (c_X12_holes  σ) (j_dd rfl hd) rfl (fun v1 => ?_)
    refine j_two (pT := 23) (pF := 76) (L1 := [some (.ref 75), some (.int l1), some (.int l2), some (.int l3), some (.int l4), some (.int l5)]) (st1 := []) (fun o kT kF => ?_) (fun h5 => ?_) (fun h5 => ?_)
    · refine j_icge (t := 76) (pc' := 23) rfl rfl rfl (fun h6 => ?_) (fun h6 => ?_)
      · exact kF h6
      · exact kT h6
    · refine j_aload_n (pc' := 24) rfl rfl rfl ?_
      refine j_iload (pc' := 26) rfl rfl rfl ?_
      refine j_callPi (pc' := 29) (ai := 202) (vs := [.ref 75, .int l5]) (rest := []) rfl rfl (fun _ _ => rfl) (c_X12_isShut l5 σ) (j_dd rfl hd) rfl (fun v2 => ?_)
      refine j_q1 (Φl := (fun r Q => j_Tr false τ M_cX12_reachOf d 70 [some (.ref 75), some (.int l1), some (.int l2), some (.int r), some (.int l4), some (.int l5)] [] σ Q)) ?_ (fun v3 => ?_)
      · refine j_two (pT := 32) (pF := 70) (L1 := [some (.ref 75), some (.int l1), some (.int l2), some (.int l3), some (.int l4), some (.int l5)]) (st1 := []) (fun o kT kF => ?_) (fun h3 => ?_) (fun h3 => ?_)
        · refine j_ifne (t := 70) (pc' := 32) rfl rfl rfl (fun h4 => ?_) (fun h4 => ?_)
          · exact kF h4
          · exact kT h4
        · refine j_aload_n (pc' := 33) rfl rfl rfl ?_
          refine j_iload_n (pc' := 34) rfl rfl rfl ?_
          refine j_iconst (pc' := 35) (x := (1 : Int32)) rfl rfl rfl ?_
          refine j_callPi (pc' := 38) (ai := 207) (vs := [.ref 75, .int l1, .int (1 : Int32)]) (rest := []) rfl rfl (fun _ _ => rfl) (c_X12_of l1 (1 : Int32) σ) (j_dd rfl hd) rfl (fun v4 => ?_)
          refine j_aload_n (pc' := 39) rfl rfl rfl ?_
          refine j_iload_n (pc' := 40) rfl rfl rfl ?_
          refine j_iload (pc' := 42) rfl rfl rfl ?_
          refine j_callPi (pc' := 45) (ai := 248) (vs := [.ref 75, .int l2, .int l5]) (rest := [.int v4]) rfl rfl (fun _ _ => rfl) (c_X12_stepsOf l2 l5 σ) (j_dd rfl hd) rfl (fun v5 => ?_)
          refine j_aload_n (pc' := 46) rfl rfl rfl ?_
          refine j_iload_n (pc' := 47) rfl rfl rfl ?_
          refine j_aload_n (pc' := 48) rfl rfl rfl ?_
          refine j_iload_n (pc' := 49) rfl rfl rfl ?_
          refine j_iconst (pc' := 50) (x := (1 : Int32)) rfl rfl rfl ?_
          refine j_callPi (pc' := 53) (ai := 207) (vs := [.ref 75, .int l1, .int (1 : Int32)]) (rest := [.int l1, .ref 75, .int v5, .int v4]) rfl rfl (fun _ _ => rfl) (c_X12_of l1 (1 : Int32) σ) (j_dd rfl hd) rfl (fun v6 => ?_)
          refine j_callPi (pc' := 56) (ai := 250) (vs := [.ref 75, .int l1, .int v6]) (rest := [.int v5, .int v4]) rfl rfl (fun _ _ => rfl) (c_X12_paceIn l1 v6 σ) (j_dd rfl hd) rfl (fun v7 => ?_)
          refine j_imul (pc' := 57) rfl rfl ?_
          refine j_iadd (pc' := 58) rfl rfl ?_
          refine j_iload (pc' := 60) rfl rfl rfl ?_
          refine j_two (pT := 63) (pF := 70) (L1 := [some (.ref 75), some (.int l1), some (.int l2), some (.int l3), some (.int l4), some (.int l5)]) (st1 := []) (fun o kT kF => ?_) (fun h1 => ?_) (fun h1 => ?_)
          · refine j_icgt (t := 70) (pc' := 63) rfl rfl rfl (fun h2 => ?_) (fun h2 => ?_)
            · exact kF (fun z => z h2)
            · exact kT h2
          · refine j_iload_n (pc' := 64) rfl rfl rfl ?_
            refine j_iconst (pc' := 65) (x := (1 : Int32)) rfl rfl rfl ?_
            refine j_iload (pc' := 67) rfl rfl rfl ?_
            refine j_ishl (pc' := 68) rfl rfl ?_
            refine j_ior (pc' := 69) rfl rfl ?_
            refine j_leti (fun v8 => ?_)
            refine j_istore_n (pc' := 70) (L' := [some (.ref 75), some (.int l1), some (.int l2), some (.int v8), some (.int l4), some (.int l5)]) rfl rfl rfl ?_
            exact j_end (fun _ h => h)
          · exact j_end (fun _ h => h)
        · exact j_end (fun _ h => h)
      show j_J false τ M_cX12_reachOf d 70 [some (.ref 75), some (.int l1), some (.int l2), some (.int v3), some (.int l4), some (.int l5)] [] σ _ _
      refine j_iincx (pc' := 73) (y := (1 : Int32)) (L' := [some (.ref 75), some (.int l1), some (.int l2), some (.int v3), some (.int l4), some (.int (l5 + (1 : Int32)))]) rfl rfl rfl rfl rfl ?_
      refine j_goto (t := 14) rfl rfl ?_
      exact ih v3 (l5 + (1 : Int32))
    · refine j_wk [false, false, false, true, false, false] (L' := [none, none, none, some (.int l3), none, none]) rfl ?_
      exact j_end (fun _ h => h)

theorem c_X12_reachOf (l1 : Int32) (l2 : Int32) (σ : j_G) : j_K false 2 283 [.ref 75, .int l1, .int l2] σ (f_X12_reachOf l1 l2 σ) (j_Pi σ) := by
  refine j_mkK (M := M_cX12_reachOf) (L := [some (.ref 75), some (.int l1), some (.int l2), none, none, none]) (m := 3) t_283 rfl (j_rcvO j_a75 rfl) rfl (fun d hd τ => ?_)
  unfold f_X12_reachOf
  refine j_iconst (pc' := 1) (x := (0 : Int32)) rfl rfl rfl ?_
  refine j_istore_n (pc' := 2) (L' := [some (.ref 75), some (.int l1), some (.int l2), some (.int (0 : Int32)), none, none]) rfl rfl rfl ?_
  refine j_aload_n (pc' := 3) rfl rfl rfl ?_
  refine j_iconst (pc' := 4) (x := (0 : Int32)) rfl rfl rfl ?_
  refine j_callPi (pc' := 7) (ai := 233) (vs := [.ref 75, .int (0 : Int32)]) (rest := []) rfl rfl (fun _ _ => rfl) (c_X12_stayIn (0 : Int32) σ) (j_dd rfl hd) rfl (fun v1 => ?_)
  refine j_iconst (pc' := 8) (x := (1 : Int32)) rfl rfl rfl ?_
  refine j_isub (pc' := 9) rfl rfl ?_
  refine j_leti (fun v2 => ?_)
  refine j_istore (pc' := 11) (L' := [some (.ref 75), some (.int l1), some (.int l2), some (.int (0 : Int32)), some (.int v2), none]) rfl rfl rfl ?_
  refine j_iconst (pc' := 12) (x := (0 : Int32)) rfl rfl rfl ?_
  refine j_istore (pc' := 14) (L' := [some (.ref 75), some (.int l1), some (.int l2), some (.int (0 : Int32)), some (.int v2), some (.int (0 : Int32))]) rfl rfl rfl ?_
  refine j_q1 (l_X12_reachOf_14 hd τ l1 l2 v2 σ j_F (0 : Int32) (0 : Int32)) (fun v3 => ?_)
  show j_J false τ M_cX12_reachOf d 76 [none, none, none, some (.int v3), none, none] [] σ _ _
  refine j_iload_n (pc' := 77) rfl rfl rfl ?_
  exact j_ret rfl rfl rfl (fun _ h => h)

noncomputable def f_X12_reach (l1 : Int32) (l2 : Int32) (σ : j_G) : Option Int32 :=
  j_b1 (f_X12_isPlayer l1 σ) fun v1 =>
  if ¬ v1 = 0 then (j_b1 (f_X12_isHole (l2).toInt64 σ) fun v2 =>
  if ¬ v2 = 0 then (j_b1 (f_X12_reachOf l1 l2 σ) fun v3 =>
  some v3) else (some (-2 : Int32))) else (some (-2 : Int32))
theorem c_X12_reach (l1 : Int32) (l2 : Int32) (σ : j_G) : j_K false 3 284 [.ref 75, .int l1, .int l2] σ (f_X12_reach l1 l2 σ) (j_Pi σ) := by
  refine j_mkK (M := M_cX12_reach) (L := [some (.ref 75), some (.int l1), some (.int l2)]) (m := 0) t_284 rfl (j_rcvO j_a75 rfl) rfl (fun d hd τ => ?_)
  unfold f_X12_reach
  refine j_aload_n (pc' := 1) rfl rfl rfl ?_
  refine j_iload_n (pc' := 2) rfl rfl rfl ?_
  refine j_callPi (pc' := 5) (ai := 205) (vs := [.ref 75, .int l1]) (rest := []) rfl rfl (fun _ _ => rfl) (c_X12_isPlayer l1 σ) (j_dd rfl hd) rfl (fun v1 => ?_)
  refine j_two (pT := 8) (pF := 26) (L1 := [some (.ref 75), some (.int l1), some (.int l2)]) (st1 := []) (fun o kT kF => ?_) (fun h3 => ?_) (fun h3 => ?_)
  · refine j_ifeq (t := 26) (pc' := 8) rfl rfl rfl (fun h4 => ?_) (fun h4 => ?_)
    · exact kF (fun z => z h4)
    · exact kT h4
  · refine j_aload_n (pc' := 9) rfl rfl rfl ?_
    refine j_iload_n (pc' := 10) rfl rfl rfl ?_
    refine j_i2l (pc' := 11) rfl rfl ?_
    refine j_callPi (pc' := 14) (ai := 201) (vs := [.ref 75, .long (l2).toInt64]) (rest := []) rfl rfl (fun _ _ => rfl) (c_X12_isHole (l2).toInt64 σ) (j_dd rfl hd) rfl (fun v2 => ?_)
    refine j_two (pT := 17) (pF := 26) (L1 := [some (.ref 75), some (.int l1), some (.int l2)]) (st1 := []) (fun o kT kF => ?_) (fun h1 => ?_) (fun h1 => ?_)
    · refine j_ifeq (t := 26) (pc' := 17) rfl rfl rfl (fun h2 => ?_) (fun h2 => ?_)
      · exact kF (fun z => z h2)
      · exact kT h2
    · refine j_aload_n (pc' := 18) rfl rfl rfl ?_
      refine j_iload_n (pc' := 19) rfl rfl rfl ?_
      refine j_iload_n (pc' := 20) rfl rfl rfl ?_
      refine j_callPi (pc' := 23) (ai := 283) (vs := [.ref 75, .int l1, .int l2]) (rest := []) rfl rfl (fun _ _ => rfl) (c_X12_reachOf l1 l2 σ) (j_dd rfl hd) rfl (fun v3 => ?_)
      refine j_goto (t := 28) rfl rfl ?_
      exact j_ret rfl rfl rfl (fun _ h => h)
    · refine j_bipush (pc' := 28) (x := (-2 : Int32)) rfl rfl rfl ?_
      exact j_ret rfl rfl rfl (fun _ h => h)
  · refine j_bipush (pc' := 28) (x := (-2 : Int32)) rfl rfl rfl ?_
    exact j_ret rfl rfl rfl (fun _ h => h)

noncomputable def p_X11_post_33 (σ : j_G) : Nat → Int32 → Int32 → Int32 → Option Int32
  | 0, _, _, _ => none
  | n + 1, l2, l3, l4 =>
    if l4 < (f_X2_holes 1 σ) then (j_b1 (f_X6_reachFrom l4 σ) fun v1 =>
    j_lt (f_J6_bitCount_0f7a4 v1) fun v2 =>
    j_lt (if l3 < v2 then ((l4, v2)) else ((l2, l3))) fun r5 =>
    p_X11_post_33 σ n (r5.1) (r5.2) (l4 + (1 : Int32))) else (some l2)

noncomputable def f_X11_post (l1 : Int32) (σ : j_G) : Option (Int32 × j_G) :=
  if (f_X2_isPlayer l1 σ) = 0 then (some ((-2 : Int32), σ)) else (j_b1 (f_X6_take 28 l1 σ) fun σ1 =>
  j_b1 (p_X11_post_33 σ1 j_F (0 : Int32) (-1 : Int32) (0 : Int32)) fun v2 =>
  some (v2, σ1))
theorem l_X11_post_33 {d : Nat} (hd : 3 ≤ d) (τ : j_G) (σ : j_G) : ∀ (n : Nat) (l2 : Int32) (l3 : Int32) (l4 : Int32), j_J true τ M_cX11_post d 33 [some (.ref 0), none, some (.int l2), some (.int l3), some (.int l4), none] [] σ (p_X11_post_33 σ n l2 l3 l4) (fun r Q => j_Tr true τ M_cX11_post d 81 [none, none, some (.int r), none, none, none] [] σ Q) := by
  intro n
  induction n with
  | zero => intro l2 l3 l4; exact j_none
  | succ n ih =>
    intro l2 l3 l4
    unfold p_X11_post_33
    refine j_iload (pc' := 35) rfl rfl rfl ?_
    refine j_aload_n (pc' := 36) rfl rfl rfl ?_
    refine j_gfr (pc' := 39) (x := 1) rfl rfl j_a0 rfl rfl ?_
    refine j_callTi (pc' := 42) (ai := 12) (vs := [.ref 1]) (rest := [.int l4]) rfl rfl (fun _ _ => rfl) (c_X2_holes_1  σ) (j_dd rfl hd) rfl ?_
    refine j_two (pT := 45) (pF := 81) (L1 := [some (.ref 0), none, some (.int l2), some (.int l3), some (.int l4), none]) (st1 := []) (fun o kT kF => ?_) (fun h3 => ?_) (fun h3 => ?_)
    · refine j_icge (t := 81) (pc' := 45) rfl rfl rfl (fun h4 => ?_) (fun h4 => ?_)
      · exact kF h4
      · exact kT h4
    · refine j_aload_n (pc' := 46) rfl rfl rfl ?_
      refine j_gfr (pc' := 49) (x := 28) rfl rfl j_a0 rfl rfl ?_
      refine j_aload_n (pc' := 50) rfl rfl rfl ?_
      refine j_gfr (pc' := 53) (x := 1) rfl rfl j_a0 rfl rfl ?_
      refine j_iload (pc' := 55) rfl rfl rfl ?_
      refine j_callPi (pc' := 58) (ai := 68) (vs := [.ref 28, .ref 1, .int l4]) (rest := []) rfl rfl (fun _ _ => rfl) (c_X6_reachFrom l4 σ) (j_dd rfl hd) rfl (fun v1 => ?_)
      refine j_callTi (pc' := 61) (ai := 356) (vs := [.int v1]) (rest := []) rfl rfl (fun _ _ => rfl) (c_J6_bitCount_0f7a4 v1 σ) (j_dd rfl hd) rfl ?_
      refine j_leti (fun v2 => ?_)
      refine j_istore (pc' := 63) (L' := [some (.ref 0), none, some (.int l2), some (.int l3), some (.int l4), some (.int v2)]) rfl rfl rfl ?_
      refine j_iload (pc' := 65) rfl rfl rfl ?_
      refine j_iload_n (pc' := 66) rfl rfl rfl ?_
      refine j_ql (Φl := (fun r Q => j_Tr true τ M_cX11_post d 75 [some (.ref 0), none, some (.int r.1), some (.int r.2), some (.int l4), none] [] σ Q)) ?_ (fun r5 => ?_)
      · refine j_twoT (pT := 69) (pF := 75) (L1 := [some (.ref 0), none, some (.int l2), some (.int l3), some (.int l4), some (.int v2)]) (st1 := []) (fun o kT kF => ?_) (fun h1 => ?_) (fun h1 => ?_)
        · refine j_icle (t := 75) (pc' := 69) rfl rfl rfl (fun h2 => ?_) (fun h2 => ?_)
          · exact kF h2
          · exact kT h2
        · refine j_iload (pc' := 71) rfl rfl rfl ?_
          refine j_istore_n (pc' := 72) (L' := [some (.ref 0), none, some (.int l2), some (.int v2), some (.int l4), some (.int v2)]) rfl rfl rfl ?_
          refine j_iload (pc' := 74) rfl rfl rfl ?_
          refine j_istore_n (pc' := 75) (L' := [some (.ref 0), none, some (.int l4), some (.int v2), some (.int l4), some (.int v2)]) rfl rfl rfl ?_
          refine j_wk [true, true, true, true, true, false] (L' := [some (.ref 0), none, some (.int l4), some (.int v2), some (.int l4), none]) rfl ?_
          exact j_end (fun _ h => h)
        · refine j_wk [true, true, true, true, true, false] (L' := [some (.ref 0), none, some (.int l2), some (.int l3), some (.int l4), none]) rfl ?_
          exact j_end (fun _ h => h)
      show j_J true τ M_cX11_post d 75 [some (.ref 0), none, some (.int (r5.1)), some (.int (r5.2)), some (.int l4), none] [] σ _ _
      refine j_iincx (pc' := 78) (y := (1 : Int32)) (L' := [some (.ref 0), none, some (.int (r5.1)), some (.int (r5.2)), some (.int (l4 + (1 : Int32))), none]) rfl rfl rfl rfl rfl ?_
      refine j_goto (t := 33) rfl rfl ?_
      exact ih (r5.1) (r5.2) (l4 + (1 : Int32))
    · refine j_wk [false, true, true, false, false, true] (L' := [none, none, some (.int l2), none, none, none]) rfl ?_
      exact j_end (fun _ h => h)

theorem c_X11_post (l1 : Int32) (σ : j_G) : j_K true 3 143 [.ref 0, .int l1] σ (f_X11_post l1 σ) j_Ri := by
  refine j_mkK (M := M_cX11_post) (L := [some (.ref 0), some (.int l1), none, none, none, none]) (m := 4) t_143 rfl (j_rcvO j_a0 rfl) rfl (fun d hd τ => ?_)
  unfold f_X11_post
  refine j_aload_n (pc' := 1) rfl rfl rfl ?_
  refine j_gfr (pc' := 4) (x := 1) rfl rfl j_a0 rfl rfl ?_
  refine j_iload_n (pc' := 5) rfl rfl rfl ?_
  refine j_callTi (pc' := 8) (ai := 15) (vs := [.ref 1, .int l1]) (rest := []) rfl rfl (fun _ _ => rfl) (c_X2_isPlayer l1 σ) (j_dd rfl hd) rfl ?_
  refine j_two (pT := 11) (pF := 14) (L1 := [some (.ref 0), some (.int l1), none, none, none, none]) (st1 := []) (fun o kT kF => ?_) (fun h1 => ?_) (fun h1 => ?_)
  · refine j_ifne (t := 14) (pc' := 11) rfl rfl rfl (fun h2 => ?_) (fun h2 => ?_)
    · exact kF h2
    · exact kT h2
  · refine j_bipush (pc' := 13) (x := (-2 : Int32)) rfl rfl rfl ?_
    exact j_ret rfl rfl rfl (fun _ h => h)
  · refine j_aload_n (pc' := 15) rfl rfl rfl ?_
    refine j_gfr (pc' := 18) (x := 28) rfl rfl j_a0 rfl rfl ?_
    refine j_aload_n (pc' := 19) rfl rfl rfl ?_
    refine j_gfr (pc' := 22) (x := 1) rfl rfl j_a0 rfl rfl ?_
    refine j_iload_n (pc' := 23) rfl rfl rfl ?_
    refine j_callRv (pc' := 26) (ai := 64) (vs := [.ref 28, .ref 1, .int l1]) (rest := []) rfl rfl (fun _ _ => rfl) (c_X6_take_28_1 l1 σ) (j_dd rfl hd) rfl (fun σ1 => ?_)
    refine j_iconst (pc' := 27) (x := (0 : Int32)) rfl rfl rfl ?_
    refine j_istore_n (pc' := 28) (L' := [some (.ref 0), some (.int l1), some (.int (0 : Int32)), none, none, none]) rfl rfl rfl ?_
    refine j_iconst (pc' := 29) (x := (-1 : Int32)) rfl rfl rfl ?_
    refine j_istore_n (pc' := 30) (L' := [some (.ref 0), some (.int l1), some (.int (0 : Int32)), some (.int (-1 : Int32)), none, none]) rfl rfl rfl ?_
    refine j_iconst (pc' := 31) (x := (0 : Int32)) rfl rfl rfl ?_
    refine j_istore (pc' := 33) (L' := [some (.ref 0), some (.int l1), some (.int (0 : Int32)), some (.int (-1 : Int32)), some (.int (0 : Int32)), none]) rfl rfl rfl ?_
    refine j_wk [true, false, true, true, true, true] (L' := [some (.ref 0), none, some (.int (0 : Int32)), some (.int (-1 : Int32)), some (.int (0 : Int32)), none]) rfl ?_
    refine j_q1 (l_X11_post_33 hd τ σ1 j_F (0 : Int32) (-1 : Int32) (0 : Int32)) (fun v2 => ?_)
    show j_J true τ M_cX11_post d 81 [none, none, some (.int v2), none, none, none] [] σ1 _ _
    refine j_iload_n (pc' := 82) rfl rfl rfl ?_
    exact j_ret rfl rfl rfl (fun _ h => h)

noncomputable def p_X12_bits_4 (l0 : Int32) : Nat → Int32 → Int32 → Option Int32
  | 0, _, _ => none
  | n + 1, l1, l2 =>
    if l2 < (12 : Int32) then (j_lt (l1 + ((l0 >>> (l2 &&& 31)) &&& (1 : Int32))) fun v1 =>
    p_X12_bits_4 l0 n v1 (l2 + (1 : Int32))) else (some l1)

noncomputable def f_X12_bits (l0 : Int32) : Option Int32 :=
  j_b1 (p_X12_bits_4 l0 j_F (0 : Int32) (0 : Int32)) fun v1 =>
  some v1
theorem l_X12_bits_4 {d : Nat} (hd : 0 ≤ d) (τ : j_G) (l0 : Int32) (σ : j_G) : ∀ (n : Nat) (l1 : Int32) (l2 : Int32), j_J false τ M_cX12_bits d 4 [some (.int l0), some (.int l1), some (.int l2)] [] σ (p_X12_bits_4 l0 n l1 l2) (fun r Q => j_Tr false τ M_cX12_bits d 24 [none, some (.int r), none] [] σ Q) := by
  intro n
  induction n with
  | zero => intro l1 l2; exact j_none
  | succ n ih =>
    intro l1 l2
    unfold p_X12_bits_4
    refine j_iload_n (pc' := 5) rfl rfl rfl ?_
    refine j_bipush (pc' := 7) (x := (12 : Int32)) rfl rfl rfl ?_
    refine j_two (pT := 10) (pF := 24) (L1 := [some (.int l0), some (.int l1), some (.int l2)]) (st1 := []) (fun o kT kF => ?_) (fun h1 => ?_) (fun h1 => ?_)
    · refine j_icge (t := 24) (pc' := 10) rfl rfl rfl (fun h2 => ?_) (fun h2 => ?_)
      · exact kF h2
      · exact kT h2
    · refine j_iload_n (pc' := 11) rfl rfl rfl ?_
      refine j_iload_n (pc' := 12) rfl rfl rfl ?_
      refine j_iload_n (pc' := 13) rfl rfl rfl ?_
      refine j_ishr (pc' := 14) rfl rfl ?_
      refine j_iconst (pc' := 15) (x := (1 : Int32)) rfl rfl rfl ?_
      refine j_iand (pc' := 16) rfl rfl ?_
      refine j_iadd (pc' := 17) rfl rfl ?_
      refine j_leti (fun v1 => ?_)
      refine j_istore_n (pc' := 18) (L' := [some (.int l0), some (.int v1), some (.int l2)]) rfl rfl rfl ?_
      refine j_iincx (pc' := 21) (y := (1 : Int32)) (L' := [some (.int l0), some (.int v1), some (.int (l2 + (1 : Int32)))]) rfl rfl rfl rfl rfl ?_
      refine j_goto (t := 4) rfl rfl ?_
      exact ih v1 (l2 + (1 : Int32))
    · refine j_wk [false, true, false] (L' := [none, some (.int l1), none]) rfl ?_
      exact j_end (fun _ h => h)

theorem c_X12_bits (l0 : Int32) (σ : j_G) : j_K false 0 285 [.int l0] σ (f_X12_bits l0) (j_Pi σ) := by
  refine j_mkK (M := M_cX12_bits) (L := [some (.int l0), none, none]) (m := 2) t_285 rfl (j_rcvS rfl) rfl (fun d hd τ => ?_)
  unfold f_X12_bits
  refine j_iconst (pc' := 1) (x := (0 : Int32)) rfl rfl rfl ?_
  refine j_istore_n (pc' := 2) (L' := [some (.int l0), some (.int (0 : Int32)), none]) rfl rfl rfl ?_
  refine j_iconst (pc' := 3) (x := (0 : Int32)) rfl rfl rfl ?_
  refine j_istore_n (pc' := 4) (L' := [some (.int l0), some (.int (0 : Int32)), some (.int (0 : Int32))]) rfl rfl rfl ?_
  refine j_q1 (l_X12_bits_4 hd τ l0 σ j_F (0 : Int32) (0 : Int32)) (fun v1 => ?_)
  show j_J false τ M_cX12_bits d 24 [none, some (.int v1), none] [] σ _ _
  refine j_iload_n (pc' := 25) rfl rfl rfl ?_
  exact j_ret rfl rfl rfl (fun _ h => h)

noncomputable def p_X12_post_15 (l1 : Int32) (σ : j_G) : Nat → Int32 → Int32 → Option Int32
  | 0, _, _ => none
  | n + 1, l2, l3 =>
    j_b1 (f_X12_holes σ) fun v1 =>
    if l3 < v1 then (j_b1 (f_X12_reachOf l1 l3 σ) fun v2 =>
    j_b1 (f_X12_bits v2) fun v3 =>
    j_b1 (f_X12_reachOf l1 l2 σ) fun v4 =>
    j_b1 (f_X12_bits v4) fun v5 =>
    j_lt (if v5 < v3 then (l3) else (l2)) fun v6 =>
    p_X12_post_15 l1 σ n v6 (l3 + (1 : Int32))) else (some l2)

noncomputable def f_X12_post (l1 : Int32) (σ : j_G) : Option Int32 :=
  j_b1 (f_X12_isPlayer l1 σ) fun v1 =>
  if v1 = 0 then (some (-2 : Int32)) else (j_b1 (p_X12_post_15 l1 σ j_F (0 : Int32) (1 : Int32)) fun v2 =>
  some v2)
theorem l_X12_post_15 {d : Nat} (hd : 3 ≤ d) (τ : j_G) (l1 : Int32) (σ : j_G) : ∀ (n : Nat) (l2 : Int32) (l3 : Int32), j_J false τ M_cX12_post d 15 [some (.ref 75), some (.int l1), some (.int l2), some (.int l3)] [] σ (p_X12_post_15 l1 σ n l2 l3) (fun r Q => j_Tr false τ M_cX12_post d 56 [none, none, some (.int r), none] [] σ Q) := by
  intro n
  induction n with
  | zero => intro l2 l3; exact j_none
  | succ n ih =>
    intro l2 l3
    unfold p_X12_post_15
    refine j_iload_n (pc' := 16) rfl rfl rfl ?_
    refine j_aload_n (pc' := 17) rfl rfl rfl ?_
    refine j_callPi (pc' := 20) (ai := 200) (vs := [.ref 75]) (rest := [.int l3]) rfl rfl (fun _ _ => rfl) (c_X12_holes  σ) (j_dd rfl hd) rfl (fun v1 => ?_)
    refine j_two (pT := 23) (pF := 56) (L1 := [some (.ref 75), some (.int l1), some (.int l2), some (.int l3)]) (st1 := []) (fun o kT kF => ?_) (fun h3 => ?_) (fun h3 => ?_)
    · refine j_icge (t := 56) (pc' := 23) rfl rfl rfl (fun h4 => ?_) (fun h4 => ?_)
      · exact kF h4
      · exact kT h4
    · refine j_aload_n (pc' := 24) rfl rfl rfl ?_
      refine j_iload_n (pc' := 25) rfl rfl rfl ?_
      refine j_iload_n (pc' := 26) rfl rfl rfl ?_
      refine j_callPi (pc' := 29) (ai := 283) (vs := [.ref 75, .int l1, .int l3]) (rest := []) rfl rfl (fun _ _ => rfl) (c_X12_reachOf l1 l3 σ) (j_dd rfl hd) rfl (fun v2 => ?_)
      refine j_callPi (pc' := 32) (ai := 285) (vs := [.int v2]) (rest := []) rfl rfl (fun _ _ => rfl) (c_X12_bits v2 σ) (j_dd rfl hd) rfl (fun v3 => ?_)
      refine j_aload_n (pc' := 33) rfl rfl rfl ?_
      refine j_iload_n (pc' := 34) rfl rfl rfl ?_
      refine j_iload_n (pc' := 35) rfl rfl rfl ?_
      refine j_callPi (pc' := 38) (ai := 283) (vs := [.ref 75, .int l1, .int l2]) (rest := [.int v3]) rfl rfl (fun _ _ => rfl) (c_X12_reachOf l1 l2 σ) (j_dd rfl hd) rfl (fun v4 => ?_)
      refine j_callPi (pc' := 41) (ai := 285) (vs := [.int v4]) (rest := [.int v3]) rfl rfl (fun _ _ => rfl) (c_X12_bits v4 σ) (j_dd rfl hd) rfl (fun v5 => ?_)
      refine j_ql (Φl := (fun r Q => j_Tr false τ M_cX12_post d 49 [some (.ref 75), some (.int l1), none, some (.int l3)] [.int r] σ Q)) ?_ (fun v6 => ?_)
      · refine j_twoT (pT := 44) (pF := 48) (L1 := [some (.ref 75), some (.int l1), some (.int l2), some (.int l3)]) (st1 := []) (fun o kT kF => ?_) (fun h1 => ?_) (fun h1 => ?_)
        · refine j_icle (t := 48) (pc' := 44) rfl rfl rfl (fun h2 => ?_) (fun h2 => ?_)
          · exact kF h2
          · exact kT h2
        · refine j_iload_n (pc' := 45) rfl rfl rfl ?_
          refine j_goto (t := 49) rfl rfl ?_
          refine j_wk [true, true, false, true] (L' := [some (.ref 75), some (.int l1), none, some (.int l3)]) rfl ?_
          exact j_end (fun _ h => h)
        · refine j_iload_n (pc' := 49) rfl rfl rfl ?_
          refine j_wk [true, true, false, true] (L' := [some (.ref 75), some (.int l1), none, some (.int l3)]) rfl ?_
          exact j_end (fun _ h => h)
      show j_J false τ M_cX12_post d 49 [some (.ref 75), some (.int l1), none, some (.int l3)] [.int v6] σ _ _
      refine j_istore_n (pc' := 50) (L' := [some (.ref 75), some (.int l1), some (.int v6), some (.int l3)]) rfl rfl rfl ?_
      refine j_iincx (pc' := 53) (y := (1 : Int32)) (L' := [some (.ref 75), some (.int l1), some (.int v6), some (.int (l3 + (1 : Int32)))]) rfl rfl rfl rfl rfl ?_
      refine j_goto (t := 15) rfl rfl ?_
      exact ih v6 (l3 + (1 : Int32))
    · refine j_wk [false, false, true, false] (L' := [none, none, some (.int l2), none]) rfl ?_
      exact j_end (fun _ h => h)

theorem c_X12_post (l1 : Int32) (σ : j_G) : j_K false 3 286 [.ref 75, .int l1] σ (f_X12_post l1 σ) (j_Pi σ) := by
  refine j_mkK (M := M_cX12_post) (L := [some (.ref 75), some (.int l1), none, none]) (m := 2) t_286 rfl (j_rcvO j_a75 rfl) rfl (fun d hd τ => ?_)
  unfold f_X12_post
  refine j_aload_n (pc' := 1) rfl rfl rfl ?_
  refine j_iload_n (pc' := 2) rfl rfl rfl ?_
  refine j_callPi (pc' := 5) (ai := 205) (vs := [.ref 75, .int l1]) (rest := []) rfl rfl (fun _ _ => rfl) (c_X12_isPlayer l1 σ) (j_dd rfl hd) rfl (fun v1 => ?_)
  refine j_two (pT := 8) (pF := 11) (L1 := [some (.ref 75), some (.int l1), none, none]) (st1 := []) (fun o kT kF => ?_) (fun h1 => ?_) (fun h1 => ?_)
  · refine j_ifne (t := 11) (pc' := 8) rfl rfl rfl (fun h2 => ?_) (fun h2 => ?_)
    · exact kF h2
    · exact kT h2
  · refine j_bipush (pc' := 10) (x := (-2 : Int32)) rfl rfl rfl ?_
    exact j_ret rfl rfl rfl (fun _ h => h)
  · refine j_iconst (pc' := 12) (x := (0 : Int32)) rfl rfl rfl ?_
    refine j_istore_n (pc' := 13) (L' := [some (.ref 75), some (.int l1), some (.int (0 : Int32)), none]) rfl rfl rfl ?_
    refine j_iconst (pc' := 14) (x := (1 : Int32)) rfl rfl rfl ?_
    refine j_istore_n (pc' := 15) (L' := [some (.ref 75), some (.int l1), some (.int (0 : Int32)), some (.int (1 : Int32))]) rfl rfl rfl ?_
    refine j_q1 (l_X12_post_15 hd τ l1 σ j_F (0 : Int32) (1 : Int32)) (fun v2 => ?_)
    show j_J false τ M_cX12_post d 56 [none, none, some (.int v2), none] [] σ _ _
    refine j_iload_n (pc' := 57) rfl rfl rfl ?_
    exact j_ret rfl rfl rfl (fun _ h => h)

noncomputable def f_X11_isLaw (l0 : Int32) : Int32 :=
  if (¬ l0 < 0) ∧ (l0 < (4 : Int32)) then ((1 : Int32)) else ((0 : Int32))

theorem b_X11_isLaw (l0 : Int32) : f_X11_isLaw l0 = 0 ∨ f_X11_isLaw l0 = 1 := by
  unfold f_X11_isLaw
  repeat' split
  all_goals first | exact Or.inl rfl | exact Or.inr rfl
theorem c_X11_isLaw (l0 : Int32) (σ : j_G) : j_K true 0 183 [.int l0] σ (some (f_X11_isLaw l0)) (j_Pi σ) := by
  refine j_mkK (M := M_cX11_isLaw) (L := [some (.int l0)]) (m := 0) t_183 rfl (j_rcvS rfl) rfl (fun d hd τ => ?_)
  unfold f_X11_isLaw
  refine j_iload_n (pc' := 1) rfl rfl rfl ?_
  refine j_twoT (pT := 9) (pF := 13) (L1 := [some (.int l0)]) (st1 := []) (fun o kT kF => ?_) (fun h1 => ?_) (fun h1 => ?_)
  · refine j_iflt (t := 13) (pc' := 4) rfl rfl rfl (fun h2 => ?_) (fun h2 => ?_)
    · exact kF (fun z => z.1 h2)
    · refine j_iload_n (pc' := 5) rfl rfl rfl ?_
      refine j_iconst (pc' := 6) (x := (4 : Int32)) rfl rfl rfl ?_
      refine j_icge (t := 13) (pc' := 9) rfl rfl rfl (fun h3 => ?_) (fun h3 => ?_)
      · exact kF (fun z => (h3) z.2)
      · exact kT (⟨h2, h3⟩)
  · refine j_iconst (pc' := 10) (x := (1 : Int32)) rfl rfl rfl ?_
    refine j_goto (t := 14) rfl rfl ?_
    exact j_ret rfl rfl rfl (fun _ h => h)
  · refine j_iconst (pc' := 14) (x := (0 : Int32)) rfl rfl rfl ?_
    exact j_ret rfl rfl rfl (fun _ h => h)

noncomputable def f_X5_at (l0 : Int32) (l1 : Int32) : Int32 :=
  (((l0 + (1 : Int32)) * (12 : Int32)) + l1)
theorem c_X5_at (l0 : Int32) (l1 : Int32) (σ : j_G) : j_K true 0 57 [.int l0, .int l1] σ (some (f_X5_at l0 l1)) (j_Pi σ) := by
  refine j_mkK (M := M_cX5_at) (L := [some (.int l0), some (.int l1)]) (m := 0) t_57 rfl (j_rcvS rfl) rfl (fun d hd τ => ?_)
  unfold f_X5_at
  refine j_iload_n (pc' := 1) rfl rfl rfl ?_
  refine j_iconst (pc' := 2) (x := (1 : Int32)) rfl rfl rfl ?_
  refine j_iadd (pc' := 3) rfl rfl ?_
  refine j_bipush (pc' := 5) (x := (12 : Int32)) rfl rfl rfl ?_
  refine j_imul (pc' := 6) rfl rfl ?_
  refine j_iload_n (pc' := 7) rfl rfl rfl ?_
  refine j_iadd (pc' := 8) rfl rfl ?_
  exact j_ret rfl rfl rfl (fun _ h => h)

noncomputable def f_X5_add (a0 : Nat) (l1 : Int32) (l2 : Int32) (l3 : Int64) (σ : j_G) : Option j_G :=
  j_lt (f_X5_at l1 l2) fun v1 =>
  if (¬ v1 < 0) ∧ (v1 < (156 : Int32)) then (j_ix v1 156 (
  j_ix v1 156 (
  j_lt (j_sl σ a0 (v1).toNatClampNeg ((σ.2 a0 (v1).toNatClampNeg) + l3)) fun σ2 =>
  some σ2))) else (some σ)
theorem c_X5_add_38 (l1 : Int32) (l2 : Int32) (l3 : Int64) (σ : j_G) : j_K true 1 59 [.ref 38, .int l1, .int l2, .long l3] σ (f_X5_add 38 l1 l2 l3 σ) j_Rv := by
  refine j_mkK (M := M_cX5_add) (L := [some (.ref 38), some (.int l1), some (.int l2), some (.long l3), none, none]) (m := 1) t_59 rfl (j_rcvS rfl) rfl (fun d hd τ => ?_)
  unfold f_X5_add
  refine j_iload_n (pc' := 1) rfl rfl rfl ?_
  refine j_iload_n (pc' := 2) rfl rfl rfl ?_
  refine j_callTi (pc' := 5) (ai := 57) (vs := [.int l1, .int l2]) (rest := []) rfl rfl (fun _ _ => rfl) (c_X5_at l1 l2 σ) (j_dd rfl hd) rfl ?_
  refine j_leti (fun v1 => ?_)
  refine j_istore (pc' := 7) (L' := [some (.ref 38), some (.int l1), some (.int l2), some (.long l3), none, some (.int v1)]) rfl rfl rfl ?_
  refine j_iload (pc' := 9) rfl rfl rfl ?_
  refine j_two (pT := 19) (pF := 27) (L1 := [some (.ref 38), some (.int l1), some (.int l2), some (.long l3), none, some (.int v1)]) (st1 := []) (fun o kT kF => ?_) (fun h1 => ?_) (fun h1 => ?_)
  · refine j_iflt (t := 27) (pc' := 12) rfl rfl rfl (fun h2 => ?_) (fun h2 => ?_)
    · exact kF (fun z => z.1 h2)
    · refine j_iload (pc' := 14) rfl rfl rfl ?_
      refine j_aload_n (pc' := 15) rfl rfl rfl ?_
      refine j_alen (pc' := 16) (v := (156 : Int32)) rfl rfl j_a38 rfl ?_
      refine j_icge (t := 27) (pc' := 19) rfl rfl rfl (fun h3 => ?_) (fun h3 => ?_)
      · exact kF (fun z => (h3) z.2)
      · exact kT (⟨h2, h3⟩)
  · refine j_aload_n (pc' := 20) rfl rfl rfl ?_
    refine j_iload (pc' := 22) rfl rfl rfl ?_
    refine j_dup2 (pc' := 23) rfl rfl rfl rfl ?_
    refine j_lald (pc' := 24) rfl rfl j_a38 ?_
    refine j_lload_n (pc' := 25) rfl rfl rfl ?_
    refine j_ladd (pc' := 26) rfl rfl ?_
    refine j_last (pc' := 27) rfl rfl j_a38 (fun σ2 => ?_)
    exact j_ret rfl rfl rfl (fun _ h => h)
  · exact j_ret rfl rfl rfl (fun _ h => h)

noncomputable def p_X5_begin_2 : Nat → Int32 → j_G → Option j_G
  | 0, _, _ => none
  | n + 1, l2, σ =>
    if l2 < (156 : Int32) then (j_ix l2 156 (
    j_lt (j_sl σ 38 (l2).toNatClampNeg (0 : Int64)) fun σ1 =>
    p_X5_begin_2 n (l2 + (1 : Int32)) σ1)) else (some σ)

noncomputable def p_X5_begin_24 : Nat → Int32 → j_G → Option j_G
  | 0, _, _ => none
  | n + 1, l2, σ =>
    if l2 < (f_X2_holes 1 σ) then (j_b1 (if (f_X2_isShut 1 l2 σ) = 0 then (j_b1 (f_X5_add 38 (-1 : Int32) l2 (1 : Int64) σ) fun σ2 =>
    some σ2) else (some σ)) fun σ1 =>
    p_X5_begin_24 n (l2 + (1 : Int32)) σ1) else (some σ)

noncomputable def f_X5_begin (σ : j_G) : Option j_G :=
  j_b1 (p_X5_begin_2 j_F (0 : Int32) σ) fun σ1 =>
  j_b1 (p_X5_begin_24 j_F (0 : Int32) σ1) fun σ2 =>
  some σ2
theorem l_X5_begin_2 {d : Nat} (hd : 2 ≤ d) (τ : j_G) : ∀ (n : Nat) (l2 : Int32) (σ : j_G), j_J true τ M_cX5_begin d 2 [some (.ref 37), some (.ref 1), some (.int l2)] [] σ (p_X5_begin_2 n l2 σ) (fun r Q => j_Tr true τ M_cX5_begin d 22 [some (.ref 37), some (.ref 1), none] [] r Q) := by
  intro n
  induction n with
  | zero => intro l2 σ; exact j_none
  | succ n ih =>
    intro l2 σ
    unfold p_X5_begin_2
    refine j_iload_n (pc' := 3) rfl rfl rfl ?_
    refine j_sipush (pc' := 6) (x := (156 : Int32)) rfl rfl rfl ?_
    refine j_two (pT := 9) (pF := 22) (L1 := [some (.ref 37), some (.ref 1), some (.int l2)]) (st1 := []) (fun o kT kF => ?_) (fun h1 => ?_) (fun h1 => ?_)
    · refine j_icge (t := 22) (pc' := 9) rfl rfl rfl (fun h2 => ?_) (fun h2 => ?_)
      · exact kF h2
      · exact kT h2
    · refine j_aload_n (pc' := 10) rfl rfl rfl ?_
      refine j_gfr (pc' := 13) (x := 38) rfl rfl j_a37 rfl rfl ?_
      refine j_iload_n (pc' := 14) rfl rfl rfl ?_
      refine j_lconst (pc' := 15) (x := (0 : Int64)) rfl rfl rfl ?_
      refine j_last (pc' := 16) rfl rfl j_a38 (fun σ1 => ?_)
      refine j_iincx (pc' := 19) (y := (1 : Int32)) (L' := [some (.ref 37), some (.ref 1), some (.int (l2 + (1 : Int32)))]) rfl rfl rfl rfl rfl ?_
      refine j_goto (t := 2) rfl rfl ?_
      exact ih (l2 + (1 : Int32)) σ1
    · refine j_wk [true, true, false] (L' := [some (.ref 37), some (.ref 1), none]) rfl ?_
      exact j_end (fun _ h => h)

theorem l_X5_begin_24 {d : Nat} (hd : 2 ≤ d) (τ : j_G) : ∀ (n : Nat) (l2 : Int32) (σ : j_G), j_J true τ M_cX5_begin d 24 [some (.ref 37), some (.ref 1), some (.int l2)] [] σ (p_X5_begin_24 n l2 σ) (fun r Q => j_Tr true τ M_cX5_begin d 56 [none, none, none] [] r Q) := by
  intro n
  induction n with
  | zero => intro l2 σ; exact j_none
  | succ n ih =>
    intro l2 σ
    unfold p_X5_begin_24
    refine j_iload_n (pc' := 25) rfl rfl rfl ?_
    refine j_aload_n (pc' := 26) rfl rfl rfl ?_
    refine j_callTi (pc' := 29) (ai := 12) (vs := [.ref 1]) (rest := [.int l2]) rfl rfl (fun _ _ => rfl) (c_X2_holes_1  σ) (j_dd rfl hd) rfl ?_
    refine j_two (pT := 32) (pF := 56) (L1 := [some (.ref 37), some (.ref 1), some (.int l2)]) (st1 := []) (fun o kT kF => ?_) (fun h3 => ?_) (fun h3 => ?_)
    · refine j_icge (t := 56) (pc' := 32) rfl rfl rfl (fun h4 => ?_) (fun h4 => ?_)
      · exact kF h4
      · exact kT h4
    · refine j_aload_n (pc' := 33) rfl rfl rfl ?_
      refine j_iload_n (pc' := 34) rfl rfl rfl ?_
      refine j_callTi (pc' := 37) (ai := 16) (vs := [.ref 1, .int l2]) (rest := []) rfl rfl (fun _ _ => rfl) (c_X2_isShut_1 l2 σ) (j_dd rfl hd) rfl ?_
      refine j_q1 (Φl := (fun r Q => j_Tr true τ M_cX5_begin d 50 [some (.ref 37), some (.ref 1), some (.int l2)] [] r Q)) ?_ (fun σ1 => ?_)
      · refine j_two (pT := 40) (pF := 50) (L1 := [some (.ref 37), some (.ref 1), some (.int l2)]) (st1 := []) (fun o kT kF => ?_) (fun h1 => ?_) (fun h1 => ?_)
        · refine j_ifne (t := 50) (pc' := 40) rfl rfl rfl (fun h2 => ?_) (fun h2 => ?_)
          · exact kF h2
          · exact kT h2
        · refine j_aload_n (pc' := 41) rfl rfl rfl ?_
          refine j_gfr (pc' := 44) (x := 38) rfl rfl j_a37 rfl rfl ?_
          refine j_iconst (pc' := 45) (x := (-1 : Int32)) rfl rfl rfl ?_
          refine j_iload_n (pc' := 46) rfl rfl rfl ?_
          refine j_lconst (pc' := 47) (x := (1 : Int64)) rfl rfl rfl ?_
          refine j_callRv (pc' := 50) (ai := 59) (vs := [.ref 38, .int (-1 : Int32), .int l2, .long (1 : Int64)]) (rest := []) rfl rfl (fun _ _ => rfl) (c_X5_add_38 (-1 : Int32) l2 (1 : Int64) σ) (j_dd rfl hd) rfl (fun σ2 => ?_)
          exact j_end (fun _ h => h)
        · exact j_end (fun _ h => h)
      show j_J true τ M_cX5_begin d 50 [some (.ref 37), some (.ref 1), some (.int l2)] [] σ1 _ _
      refine j_iincx (pc' := 53) (y := (1 : Int32)) (L' := [some (.ref 37), some (.ref 1), some (.int (l2 + (1 : Int32)))]) rfl rfl rfl rfl rfl ?_
      refine j_goto (t := 24) rfl rfl ?_
      exact ih (l2 + (1 : Int32)) σ1
    · refine j_wk [false, false, false] (L' := [none, none, none]) rfl ?_
      exact j_end (fun _ h => h)

theorem c_X5_begin (σ : j_G) : j_K true 2 54 [.ref 37, .ref 1] σ (f_X5_begin σ) j_Rv := by
  refine j_mkK (M := M_cX5_begin) (L := [some (.ref 37), some (.ref 1), none]) (m := 1) t_54 rfl (j_rcvO j_a37 rfl) rfl (fun d hd τ => ?_)
  unfold f_X5_begin
  refine j_iconst (pc' := 1) (x := (0 : Int32)) rfl rfl rfl ?_
  refine j_istore_n (pc' := 2) (L' := [some (.ref 37), some (.ref 1), some (.int (0 : Int32))]) rfl rfl rfl ?_
  refine j_q1 (l_X5_begin_2 hd τ j_F (0 : Int32) σ) (fun σ1 => ?_)
  show j_J true τ M_cX5_begin d 22 [some (.ref 37), some (.ref 1), none] [] σ1 _ _
  refine j_iconst (pc' := 23) (x := (0 : Int32)) rfl rfl rfl ?_
  refine j_istore_n (pc' := 24) (L' := [some (.ref 37), some (.ref 1), some (.int (0 : Int32))]) rfl rfl rfl ?_
  refine j_q1 (l_X5_begin_24 hd τ j_F (0 : Int32) σ1) (fun σ2 => ?_)
  show j_J true τ M_cX5_begin d 56 [none, none, none] [] σ2 _ _
  exact j_ret rfl rfl rfl (fun _ h => h)

noncomputable def f_X5_waysTo (l1 : Int32) (l2 : Int32) (σ : j_G) : Option Int64 :=
  j_lt (f_X5_at l1 l2) fun v1 =>
  if (¬ v1 < 0) ∧ (v1 < (156 : Int32)) then (j_ix v1 156 (
  some (σ.2 38 (v1).toNatClampNeg))) else (some (0 : Int64))
theorem c_X5_waysTo (l1 : Int32) (l2 : Int32) (σ : j_G) : j_K true 1 58 [.ref 37, .int l1, .int l2] σ (f_X5_waysTo l1 l2 σ) (j_Pl σ) := by
  refine j_mkK (M := M_cX5_waysTo) (L := [some (.ref 37), some (.int l1), some (.int l2), none]) (m := 1) t_58 rfl (j_rcvO j_a37 rfl) rfl (fun d hd τ => ?_)
  unfold f_X5_waysTo
  refine j_iload_n (pc' := 1) rfl rfl rfl ?_
  refine j_iload_n (pc' := 2) rfl rfl rfl ?_
  refine j_callTi (pc' := 5) (ai := 57) (vs := [.int l1, .int l2]) (rest := []) rfl rfl (fun _ _ => rfl) (c_X5_at l1 l2 σ) (j_dd rfl hd) rfl ?_
  refine j_leti (fun v1 => ?_)
  refine j_istore_n (pc' := 6) (L' := [some (.ref 37), some (.int l1), some (.int l2), some (.int v1)]) rfl rfl rfl ?_
  refine j_iload_n (pc' := 7) rfl rfl rfl ?_
  refine j_two (pT := 17) (pF := 26) (L1 := [some (.ref 37), some (.int l1), some (.int l2), some (.int v1)]) (st1 := []) (fun o kT kF => ?_) (fun h1 => ?_) (fun h1 => ?_)
  · refine j_iflt (t := 26) (pc' := 10) rfl rfl rfl (fun h2 => ?_) (fun h2 => ?_)
    · exact kF (fun z => z.1 h2)
    · refine j_iload_n (pc' := 11) rfl rfl rfl ?_
      refine j_sipush (pc' := 14) (x := (156 : Int32)) rfl rfl rfl ?_
      refine j_icge (t := 26) (pc' := 17) rfl rfl rfl (fun h3 => ?_) (fun h3 => ?_)
      · exact kF (fun z => (h3) z.2)
      · exact kT (⟨h2, h3⟩)
  · refine j_aload_n (pc' := 18) rfl rfl rfl ?_
    refine j_gfr (pc' := 21) (x := 38) rfl rfl j_a37 rfl rfl ?_
    refine j_iload_n (pc' := 22) rfl rfl rfl ?_
    refine j_lald (pc' := 23) rfl rfl j_a38 ?_
    refine j_goto (t := 27) rfl rfl ?_
    exact j_ret rfl rfl rfl (fun _ h => h)
  · refine j_lconst (pc' := 27) (x := (0 : Int64)) rfl rfl rfl ?_
    exact j_ret rfl rfl rfl (fun _ h => h)

noncomputable def f_X2_lets (l1 : Int32) (l2 : Int32) (l3 : Int32) (l4 : Int32) (σ : j_G) : Option Int32 :=
  if (l1 = 0) ∨ (l3 = (-1 : Int32)) then (some (1 : Int32)) else (if l1 = (2 : Int32) then (j_b1 (f_X2_apart l3 l4 σ) fun v1 =>
  if (1 : Int32) < v1 then (some (1 : Int32)) else (some (0 : Int32))) else (if ¬ l4 = l3 then (if (¬ l1 = (3 : Int32)) ∨ (¬ l4 = l2) then (some (1 : Int32)) else (some (0 : Int32))) else (some (0 : Int32))))
theorem c_X2_lets (l1 : Int32) (l2 : Int32) (l3 : Int32) (l4 : Int32) (σ : j_G) : j_K true 1 27 [.ref 1, .int l1, .int l2, .int l3, .int l4] σ (f_X2_lets l1 l2 l3 l4 σ) (j_Pi σ) := by
  refine j_mkK (M := M_cX2_lets) (L := [some (.ref 1), some (.int l1), some (.int l2), some (.int l3), some (.int l4)]) (m := 0) t_27 rfl (j_rcvO j_a1 rfl) rfl (fun d hd τ => ?_)
  unfold f_X2_lets
  refine j_iload_n (pc' := 1) rfl rfl rfl ?_
  refine j_two (pT := 9) (pF := 11) (L1 := [some (.ref 1), some (.int l1), some (.int l2), some (.int l3), some (.int l4)]) (st1 := []) (fun o kT kF => ?_) (fun h10 => ?_) (fun h10 => ?_)
  · refine j_ifeq (t := 9) (pc' := 4) rfl rfl rfl (fun h11 => ?_) (fun h11 => ?_)
    · exact kT (Or.inl h11)
    · refine j_iload_n (pc' := 5) rfl rfl rfl ?_
      refine j_iconst (pc' := 6) (x := (-1 : Int32)) rfl rfl rfl ?_
      refine j_icne (t := 11) (pc' := 9) rfl rfl rfl (fun h12 => ?_) (fun h12 => ?_)
      · exact kF (fun z => z.elim h11 (h12))
      · exact kT (Or.inr (h12))
  · refine j_iconst (pc' := 10) (x := (1 : Int32)) rfl rfl rfl ?_
    exact j_ret rfl rfl rfl (fun _ h => h)
  · refine j_iload_n (pc' := 12) rfl rfl rfl ?_
    refine j_iconst (pc' := 13) (x := (2 : Int32)) rfl rfl rfl ?_
    refine j_two (pT := 16) (pF := 33) (L1 := [some (.ref 1), some (.int l1), some (.int l2), some (.int l3), some (.int l4)]) (st1 := []) (fun o kT kF => ?_) (fun h8 => ?_) (fun h8 => ?_)
    · refine j_icne (t := 33) (pc' := 16) rfl rfl rfl (fun h9 => ?_) (fun h9 => ?_)
      · exact kF h9
      · exact kT h9
    · refine j_aload_n (pc' := 17) rfl rfl rfl ?_
      refine j_iload_n (pc' := 18) rfl rfl rfl ?_
      refine j_iload (pc' := 20) rfl rfl rfl ?_
      refine j_callPi (pc' := 23) (ai := 18) (vs := [.ref 1, .int l3, .int l4]) (rest := []) rfl rfl (fun _ _ => rfl) (c_X2_apart l3 l4 σ) (j_dd rfl hd) rfl (fun v1 => ?_)
      refine j_iconst (pc' := 24) (x := (1 : Int32)) rfl rfl rfl ?_
      refine j_two (pT := 27) (pF := 31) (L1 := [some (.ref 1), some (.int l1), some (.int l2), some (.int l3), some (.int l4)]) (st1 := []) (fun o kT kF => ?_) (fun h1 => ?_) (fun h1 => ?_)
      · refine j_icle (t := 31) (pc' := 27) rfl rfl rfl (fun h2 => ?_) (fun h2 => ?_)
        · exact kF h2
        · exact kT h2
      · refine j_iconst (pc' := 28) (x := (1 : Int32)) rfl rfl rfl ?_
        refine j_goto (t := 32) rfl rfl ?_
        exact j_ret rfl rfl rfl (fun _ h => h)
      · refine j_iconst (pc' := 32) (x := (0 : Int32)) rfl rfl rfl ?_
        exact j_ret rfl rfl rfl (fun _ h => h)
    · refine j_iload (pc' := 35) rfl rfl rfl ?_
      refine j_iload_n (pc' := 36) rfl rfl rfl ?_
      refine j_two (pT := 39) (pF := 54) (L1 := [some (.ref 1), some (.int l1), some (.int l2), some (.int l3), some (.int l4)]) (st1 := []) (fun o kT kF => ?_) (fun h6 => ?_) (fun h6 => ?_)
      · refine j_iceq (t := 54) (pc' := 39) rfl rfl rfl (fun h7 => ?_) (fun h7 => ?_)
        · exact kF (fun z => z h7)
        · exact kT h7
      · refine j_iload_n (pc' := 40) rfl rfl rfl ?_
        refine j_iconst (pc' := 41) (x := (3 : Int32)) rfl rfl rfl ?_
        refine j_two (pT := 50) (pF := 54) (L1 := [some (.ref 1), some (.int l1), some (.int l2), some (.int l3), some (.int l4)]) (st1 := []) (fun o kT kF => ?_) (fun h3 => ?_) (fun h3 => ?_)
        · refine j_icne (t := 50) (pc' := 44) rfl rfl rfl (fun h4 => ?_) (fun h4 => ?_)
          · exact kT (Or.inl h4)
          · refine j_iload (pc' := 46) rfl rfl rfl ?_
            refine j_iload_n (pc' := 47) rfl rfl rfl ?_
            refine j_iceq (t := 54) (pc' := 50) rfl rfl rfl (fun h5 => ?_) (fun h5 => ?_)
            · exact kF (fun z => z.elim (fun z => z h4) (fun z => z h5))
            · exact kT (Or.inr (h5))
        · refine j_iconst (pc' := 51) (x := (1 : Int32)) rfl rfl rfl ?_
          refine j_goto (t := 55) rfl rfl ?_
          exact j_ret rfl rfl rfl (fun _ h => h)
        · refine j_iconst (pc' := 55) (x := (0 : Int32)) rfl rfl rfl ?_
          exact j_ret rfl rfl rfl (fun _ h => h)
      · refine j_iconst (pc' := 55) (x := (0 : Int32)) rfl rfl rfl ?_
        exact j_ret rfl rfl rfl (fun _ h => h)

theorem c_X5_add_39 (l1 : Int32) (l2 : Int32) (l3 : Int64) (σ : j_G) : j_K true 1 59 [.ref 39, .int l1, .int l2, .long l3] σ (f_X5_add 39 l1 l2 l3 σ) j_Rv := by
  refine j_mkK (M := M_cX5_add) (L := [some (.ref 39), some (.int l1), some (.int l2), some (.long l3), none, none]) (m := 1) t_59 rfl (j_rcvS rfl) rfl (fun d hd τ => ?_)
  unfold f_X5_add
  refine j_iload_n (pc' := 1) rfl rfl rfl ?_
  refine j_iload_n (pc' := 2) rfl rfl rfl ?_
  refine j_callTi (pc' := 5) (ai := 57) (vs := [.int l1, .int l2]) (rest := []) rfl rfl (fun _ _ => rfl) (c_X5_at l1 l2 σ) (j_dd rfl hd) rfl ?_
  refine j_leti (fun v1 => ?_)
  refine j_istore (pc' := 7) (L' := [some (.ref 39), some (.int l1), some (.int l2), some (.long l3), none, some (.int v1)]) rfl rfl rfl ?_
  refine j_iload (pc' := 9) rfl rfl rfl ?_
  refine j_two (pT := 19) (pF := 27) (L1 := [some (.ref 39), some (.int l1), some (.int l2), some (.long l3), none, some (.int v1)]) (st1 := []) (fun o kT kF => ?_) (fun h1 => ?_) (fun h1 => ?_)
  · refine j_iflt (t := 27) (pc' := 12) rfl rfl rfl (fun h2 => ?_) (fun h2 => ?_)
    · exact kF (fun z => z.1 h2)
    · refine j_iload (pc' := 14) rfl rfl rfl ?_
      refine j_aload_n (pc' := 15) rfl rfl rfl ?_
      refine j_alen (pc' := 16) (v := (156 : Int32)) rfl rfl j_a39 rfl ?_
      refine j_icge (t := 27) (pc' := 19) rfl rfl rfl (fun h3 => ?_) (fun h3 => ?_)
      · exact kF (fun z => (h3) z.2)
      · exact kT (⟨h2, h3⟩)
  · refine j_aload_n (pc' := 20) rfl rfl rfl ?_
    refine j_iload (pc' := 22) rfl rfl rfl ?_
    refine j_dup2 (pc' := 23) rfl rfl rfl rfl ?_
    refine j_lald (pc' := 24) rfl rfl j_a39 ?_
    refine j_lload_n (pc' := 25) rfl rfl rfl ?_
    refine j_ladd (pc' := 26) rfl rfl ?_
    refine j_last (pc' := 27) rfl rfl j_a39 (fun σ2 => ?_)
    exact j_ret rfl rfl rfl (fun _ h => h)
  · exact j_ret rfl rfl rfl (fun _ h => h)

noncomputable def p_X5_growFrom_16 (l2 : Int32) (l3 : Int32) (l4 : Int32) (l5 : Int32) : Nat → Int32 → j_G → Option j_G
  | 0, _, _ => none
  | n + 1, l6, σ =>
    if l6 < (f_X2_holes 1 σ) then (j_b1 (if (f_X2_isShut 1 l6 σ) = 0 then (j_b1 (f_X2_lets l2 l3 l4 l6 σ) fun v2 =>
    if ¬ v2 = 0 then (j_b1 (f_X5_waysTo l3 l4 σ) fun v3 =>
    j_b1 (f_X5_add 39 l5 l6 v3 σ) fun σ4 =>
    some σ4) else (some σ)) else (some σ)) fun σ1 =>
    p_X5_growFrom_16 l2 l3 l4 l5 n (l6 + (1 : Int32)) σ1) else (some σ)

noncomputable def f_X5_growFrom (l2 : Int32) (l3 : Int32) (l4 : Int32) (σ : j_G) : Option j_G :=
  j_lt (if l2 = (3 : Int32) then (l4) else ((-1 : Int32))) fun v1 =>
  j_b1 (p_X5_growFrom_16 l2 l3 l4 v1 j_F (0 : Int32) σ) fun σ2 =>
  some σ2
theorem l_X5_growFrom_16 {d : Nat} (hd : 2 ≤ d) (τ : j_G) (l2 : Int32) (l3 : Int32) (l4 : Int32) (l5 : Int32) : ∀ (n : Nat) (l6 : Int32) (σ : j_G), j_J true τ M_cX5_growFrom d 16 [some (.ref 37), some (.ref 1), some (.int l2), some (.int l3), some (.int l4), some (.int l5), some (.int l6)] [] σ (p_X5_growFrom_16 l2 l3 l4 l5 n l6 σ) (fun r Q => j_Tr true τ M_cX5_growFrom d 71 [none, none, none, none, none, none, none] [] r Q) := by
  intro n
  induction n with
  | zero => intro l6 σ; exact j_none
  | succ n ih =>
    intro l6 σ
    unfold p_X5_growFrom_16
    refine j_iload (pc' := 18) rfl rfl rfl ?_
    refine j_aload_n (pc' := 19) rfl rfl rfl ?_
    refine j_callTi (pc' := 22) (ai := 12) (vs := [.ref 1]) (rest := [.int l6]) rfl rfl (fun _ _ => rfl) (c_X2_holes_1  σ) (j_dd rfl hd) rfl ?_
    refine j_two (pT := 25) (pF := 71) (L1 := [some (.ref 37), some (.ref 1), some (.int l2), some (.int l3), some (.int l4), some (.int l5), some (.int l6)]) (st1 := []) (fun o kT kF => ?_) (fun h5 => ?_) (fun h5 => ?_)
    · refine j_icge (t := 71) (pc' := 25) rfl rfl rfl (fun h6 => ?_) (fun h6 => ?_)
      · exact kF h6
      · exact kT h6
    · refine j_aload_n (pc' := 26) rfl rfl rfl ?_
      refine j_iload (pc' := 28) rfl rfl rfl ?_
      refine j_callTi (pc' := 31) (ai := 16) (vs := [.ref 1, .int l6]) (rest := []) rfl rfl (fun _ _ => rfl) (c_X2_isShut_1 l6 σ) (j_dd rfl hd) rfl ?_
      refine j_q1 (Φl := (fun r Q => j_Tr true τ M_cX5_growFrom d 65 [some (.ref 37), some (.ref 1), some (.int l2), some (.int l3), some (.int l4), some (.int l5), some (.int l6)] [] r Q)) ?_ (fun σ1 => ?_)
      · refine j_two (pT := 34) (pF := 65) (L1 := [some (.ref 37), some (.ref 1), some (.int l2), some (.int l3), some (.int l4), some (.int l5), some (.int l6)]) (st1 := []) (fun o kT kF => ?_) (fun h3 => ?_) (fun h3 => ?_)
        · refine j_ifne (t := 65) (pc' := 34) rfl rfl rfl (fun h4 => ?_) (fun h4 => ?_)
          · exact kF h4
          · exact kT h4
        · refine j_aload_n (pc' := 35) rfl rfl rfl ?_
          refine j_iload_n (pc' := 36) rfl rfl rfl ?_
          refine j_iload_n (pc' := 37) rfl rfl rfl ?_
          refine j_iload (pc' := 39) rfl rfl rfl ?_
          refine j_iload (pc' := 41) rfl rfl rfl ?_
          refine j_callPi (pc' := 44) (ai := 27) (vs := [.ref 1, .int l2, .int l3, .int l4, .int l6]) (rest := []) rfl rfl (fun _ _ => rfl) (c_X2_lets l2 l3 l4 l6 σ) (j_dd rfl hd) rfl (fun v2 => ?_)
          refine j_two (pT := 47) (pF := 65) (L1 := [some (.ref 37), some (.ref 1), some (.int l2), some (.int l3), some (.int l4), some (.int l5), some (.int l6)]) (st1 := []) (fun o kT kF => ?_) (fun h1 => ?_) (fun h1 => ?_)
          · refine j_ifeq (t := 65) (pc' := 47) rfl rfl rfl (fun h2 => ?_) (fun h2 => ?_)
            · exact kF (fun z => z h2)
            · exact kT h2
          · refine j_aload_n (pc' := 48) rfl rfl rfl ?_
            refine j_gfr (pc' := 51) (x := 39) rfl rfl j_a37 rfl rfl ?_
            refine j_iload (pc' := 53) rfl rfl rfl ?_
            refine j_iload (pc' := 55) rfl rfl rfl ?_
            refine j_aload_n (pc' := 56) rfl rfl rfl ?_
            refine j_iload_n (pc' := 57) rfl rfl rfl ?_
            refine j_iload (pc' := 59) rfl rfl rfl ?_
            refine j_callPl (pc' := 62) (ai := 58) (vs := [.ref 37, .int l3, .int l4]) (rest := [.int l6, .int l5, .ref 39]) rfl rfl (fun _ _ => rfl) (c_X5_waysTo l3 l4 σ) (j_dd rfl hd) rfl (fun v3 => ?_)
            refine j_callRv (pc' := 65) (ai := 59) (vs := [.ref 39, .int l5, .int l6, .long v3]) (rest := []) rfl rfl (fun _ _ => rfl) (c_X5_add_39 l5 l6 v3 σ) (j_dd rfl hd) rfl (fun σ4 => ?_)
            exact j_end (fun _ h => h)
          · exact j_end (fun _ h => h)
        · exact j_end (fun _ h => h)
      show j_J true τ M_cX5_growFrom d 65 [some (.ref 37), some (.ref 1), some (.int l2), some (.int l3), some (.int l4), some (.int l5), some (.int l6)] [] σ1 _ _
      refine j_iincx (pc' := 68) (y := (1 : Int32)) (L' := [some (.ref 37), some (.ref 1), some (.int l2), some (.int l3), some (.int l4), some (.int l5), some (.int (l6 + (1 : Int32)))]) rfl rfl rfl rfl rfl ?_
      refine j_goto (t := 16) rfl rfl ?_
      exact ih (l6 + (1 : Int32)) σ1
    · refine j_wk [false, false, false, false, false, false, false] (L' := [none, none, none, none, none, none, none]) rfl ?_
      exact j_end (fun _ h => h)

theorem c_X5_growFrom (l2 : Int32) (l3 : Int32) (l4 : Int32) (σ : j_G) : j_K true 2 56 [.ref 37, .ref 1, .int l2, .int l3, .int l4] σ (f_X5_growFrom l2 l3 l4 σ) j_Rv := by
  refine j_mkK (M := M_cX5_growFrom) (L := [some (.ref 37), some (.ref 1), some (.int l2), some (.int l3), some (.int l4), none, none]) (m := 2) t_56 rfl (j_rcvO j_a37 rfl) rfl (fun d hd τ => ?_)
  unfold f_X5_growFrom
  refine j_iload_n (pc' := 1) rfl rfl rfl ?_
  refine j_iconst (pc' := 2) (x := (3 : Int32)) rfl rfl rfl ?_
  refine j_ql (Φl := (fun r Q => j_Tr true τ M_cX5_growFrom d 11 [some (.ref 37), some (.ref 1), some (.int l2), some (.int l3), some (.int l4), none, none] [.int r] σ Q)) ?_ (fun v1 => ?_)
  · refine j_twoT (pT := 5) (pF := 10) (L1 := [some (.ref 37), some (.ref 1), some (.int l2), some (.int l3), some (.int l4), none, none]) (st1 := []) (fun o kT kF => ?_) (fun h1 => ?_) (fun h1 => ?_)
    · refine j_icne (t := 10) (pc' := 5) rfl rfl rfl (fun h2 => ?_) (fun h2 => ?_)
      · exact kF h2
      · exact kT h2
    · refine j_iload (pc' := 7) rfl rfl rfl ?_
      refine j_goto (t := 11) rfl rfl ?_
      exact j_end (fun _ h => h)
    · refine j_iconst (pc' := 11) (x := (-1 : Int32)) rfl rfl rfl ?_
      exact j_end (fun _ h => h)
  show j_J true τ M_cX5_growFrom d 11 [some (.ref 37), some (.ref 1), some (.int l2), some (.int l3), some (.int l4), none, none] [.int v1] σ _ _
  refine j_istore (pc' := 13) (L' := [some (.ref 37), some (.ref 1), some (.int l2), some (.int l3), some (.int l4), some (.int v1), none]) rfl rfl rfl ?_
  refine j_iconst (pc' := 14) (x := (0 : Int32)) rfl rfl rfl ?_
  refine j_istore (pc' := 16) (L' := [some (.ref 37), some (.ref 1), some (.int l2), some (.int l3), some (.int l4), some (.int v1), some (.int (0 : Int32))]) rfl rfl rfl ?_
  refine j_q1 (l_X5_growFrom_16 hd τ l2 l3 l4 v1 j_F (0 : Int32) σ) (fun σ2 => ?_)
  show j_J true τ M_cX5_growFrom d 71 [none, none, none, none, none, none, none] [] σ2 _ _
  exact j_ret rfl rfl rfl (fun _ h => h)

noncomputable def p_X5_grow_2 (l2 : Int32) : Nat → Int32 → j_G → Option j_G
  | 0, _, _ => none
  | n + 1, l3, σ =>
    if l3 < (156 : Int32) then (j_ix l3 156 (
    j_lt (j_sl σ 39 (l3).toNatClampNeg (0 : Int64)) fun σ1 =>
    p_X5_grow_2 l2 n (l3 + (1 : Int32)) σ1)) else (some σ)

noncomputable def p_X5_grow_35 (l2 : Int32) (l3 : Int32) : Nat → Int32 → j_G → Option j_G
  | 0, _, _ => none
  | n + 1, l4, σ =>
    if l4 < (f_X2_holes 1 σ) then (j_b1 (f_X5_waysTo l3 l4 σ) fun v1 =>
    j_b1 (if (0 : Int64) < v1 then (j_b1 (f_X5_growFrom l2 l3 l4 σ) fun σ3 =>
    some σ3) else (some σ)) fun σ2 =>
    p_X5_grow_35 l2 l3 n (l4 + (1 : Int32)) σ2) else (some σ)

noncomputable def p_X5_grow_24 (l2 : Int32) : Nat → Int32 → j_G → Option j_G
  | 0, _, _ => none
  | n + 1, l3, σ =>
    if l3 < (f_X2_holes 1 σ) then (j_b1 (p_X5_grow_35 l2 l3 j_F (0 : Int32) σ) fun σ1 =>
    p_X5_grow_24 l2 n (l3 + (1 : Int32)) σ1) else (some σ)

noncomputable def f_X5_grow (l2 : Int32) (σ : j_G) : Option j_G :=
  j_b1 (p_X5_grow_2 l2 j_F (0 : Int32) σ) fun σ1 =>
  j_b1 (p_X5_grow_24 l2 j_F (-1 : Int32) σ1) fun σ2 =>
  j_cg (0 : Int32) (0 : Int32) (156 : Int32) 156 156 (
  j_lt (j_cl σ2 39 ((0 : Int32)).toNatClampNeg 38 ((0 : Int32)).toNatClampNeg ((156 : Int32)).toNatClampNeg) fun σ3 =>
  some σ3)
theorem l_X5_grow_2 {d : Nat} (hd : 3 ≤ d) (τ : j_G) (l2 : Int32) : ∀ (n : Nat) (l3 : Int32) (σ : j_G), j_J true τ M_cX5_grow d 2 [some (.ref 37), some (.ref 1), some (.int l2), some (.int l3), none] [] σ (p_X5_grow_2 l2 n l3 σ) (fun r Q => j_Tr true τ M_cX5_grow d 22 [some (.ref 37), some (.ref 1), some (.int l2), none, none] [] r Q) := by
  intro n
  induction n with
  | zero => intro l3 σ; exact j_none
  | succ n ih =>
    intro l3 σ
    unfold p_X5_grow_2
    refine j_iload_n (pc' := 3) rfl rfl rfl ?_
    refine j_sipush (pc' := 6) (x := (156 : Int32)) rfl rfl rfl ?_
    refine j_two (pT := 9) (pF := 22) (L1 := [some (.ref 37), some (.ref 1), some (.int l2), some (.int l3), none]) (st1 := []) (fun o kT kF => ?_) (fun h1 => ?_) (fun h1 => ?_)
    · refine j_icge (t := 22) (pc' := 9) rfl rfl rfl (fun h2 => ?_) (fun h2 => ?_)
      · exact kF h2
      · exact kT h2
    · refine j_aload_n (pc' := 10) rfl rfl rfl ?_
      refine j_gfr (pc' := 13) (x := 39) rfl rfl j_a37 rfl rfl ?_
      refine j_iload_n (pc' := 14) rfl rfl rfl ?_
      refine j_lconst (pc' := 15) (x := (0 : Int64)) rfl rfl rfl ?_
      refine j_last (pc' := 16) rfl rfl j_a39 (fun σ1 => ?_)
      refine j_iincx (pc' := 19) (y := (1 : Int32)) (L' := [some (.ref 37), some (.ref 1), some (.int l2), some (.int (l3 + (1 : Int32))), none]) rfl rfl rfl rfl rfl ?_
      refine j_goto (t := 2) rfl rfl ?_
      exact ih (l3 + (1 : Int32)) σ1
    · refine j_wk [true, true, true, false, true] (L' := [some (.ref 37), some (.ref 1), some (.int l2), none, none]) rfl ?_
      exact j_end (fun _ h => h)

theorem l_X5_grow_35 {d : Nat} (hd : 3 ≤ d) (τ : j_G) (l2 : Int32) (l3 : Int32) : ∀ (n : Nat) (l4 : Int32) (σ : j_G), j_J true τ M_cX5_grow d 35 [some (.ref 37), some (.ref 1), some (.int l2), some (.int l3), some (.int l4)] [] σ (p_X5_grow_35 l2 l3 n l4 σ) (fun r Q => j_Tr true τ M_cX5_grow d 71 [some (.ref 37), some (.ref 1), some (.int l2), some (.int l3), none] [] r Q) := by
  intro n
  induction n with
  | zero => intro l4 σ; exact j_none
  | succ n ih =>
    intro l4 σ
    unfold p_X5_grow_35
    refine j_iload (pc' := 37) rfl rfl rfl ?_
    refine j_aload_n (pc' := 38) rfl rfl rfl ?_
    refine j_callTi (pc' := 41) (ai := 12) (vs := [.ref 1]) (rest := [.int l4]) rfl rfl (fun _ _ => rfl) (c_X2_holes_1  σ) (j_dd rfl hd) rfl ?_
    refine j_two (pT := 44) (pF := 71) (L1 := [some (.ref 37), some (.ref 1), some (.int l2), some (.int l3), some (.int l4)]) (st1 := []) (fun o kT kF => ?_) (fun h3 => ?_) (fun h3 => ?_)
    · refine j_icge (t := 71) (pc' := 44) rfl rfl rfl (fun h4 => ?_) (fun h4 => ?_)
      · exact kF h4
      · exact kT h4
    · refine j_aload_n (pc' := 45) rfl rfl rfl ?_
      refine j_iload_n (pc' := 46) rfl rfl rfl ?_
      refine j_iload (pc' := 48) rfl rfl rfl ?_
      refine j_callPl (pc' := 51) (ai := 58) (vs := [.ref 37, .int l3, .int l4]) (rest := []) rfl rfl (fun _ _ => rfl) (c_X5_waysTo l3 l4 σ) (j_dd rfl hd) rfl (fun v1 => ?_)
      refine j_lconst (pc' := 52) (x := (0 : Int64)) rfl rfl rfl ?_
      refine j_lcmp (pc' := 53) rfl rfl ?_
      refine j_q1 (Φl := (fun r Q => j_Tr true τ M_cX5_grow d 65 [some (.ref 37), some (.ref 1), some (.int l2), some (.int l3), some (.int l4)] [] r Q)) ?_ (fun σ2 => ?_)
      · refine j_two (pT := 56) (pF := 65) (L1 := [some (.ref 37), some (.ref 1), some (.int l2), some (.int l3), some (.int l4)]) (st1 := []) (fun o kT kF => ?_) (fun h1 => ?_) (fun h1 => ?_)
        · refine j_ifleL (t := 65) (pc' := 56) rfl rfl rfl (fun h2 => ?_) (fun h2 => ?_)
          · exact kF h2
          · exact kT h2
        · refine j_aload_n (pc' := 57) rfl rfl rfl ?_
          refine j_aload_n (pc' := 58) rfl rfl rfl ?_
          refine j_iload_n (pc' := 59) rfl rfl rfl ?_
          refine j_iload_n (pc' := 60) rfl rfl rfl ?_
          refine j_iload (pc' := 62) rfl rfl rfl ?_
          refine j_callRv (pc' := 65) (ai := 56) (vs := [.ref 37, .ref 1, .int l2, .int l3, .int l4]) (rest := []) rfl rfl (fun _ _ => rfl) (c_X5_growFrom l2 l3 l4 σ) (j_dd rfl hd) rfl (fun σ3 => ?_)
          exact j_end (fun _ h => h)
        · exact j_end (fun _ h => h)
      show j_J true τ M_cX5_grow d 65 [some (.ref 37), some (.ref 1), some (.int l2), some (.int l3), some (.int l4)] [] σ2 _ _
      refine j_iincx (pc' := 68) (y := (1 : Int32)) (L' := [some (.ref 37), some (.ref 1), some (.int l2), some (.int l3), some (.int (l4 + (1 : Int32)))]) rfl rfl rfl rfl rfl ?_
      refine j_goto (t := 35) rfl rfl ?_
      exact ih (l4 + (1 : Int32)) σ2
    · refine j_wk [true, true, true, true, false] (L' := [some (.ref 37), some (.ref 1), some (.int l2), some (.int l3), none]) rfl ?_
      exact j_end (fun _ h => h)

theorem l_X5_grow_24 {d : Nat} (hd : 3 ≤ d) (τ : j_G) (l2 : Int32) : ∀ (n : Nat) (l3 : Int32) (σ : j_G), j_J true τ M_cX5_grow d 24 [some (.ref 37), some (.ref 1), some (.int l2), some (.int l3), none] [] σ (p_X5_grow_24 l2 n l3 σ) (fun r Q => j_Tr true τ M_cX5_grow d 77 [some (.ref 37), none, none, none, none] [] r Q) := by
  intro n
  induction n with
  | zero => intro l3 σ; exact j_none
  | succ n ih =>
    intro l3 σ
    unfold p_X5_grow_24
    refine j_iload_n (pc' := 25) rfl rfl rfl ?_
    refine j_aload_n (pc' := 26) rfl rfl rfl ?_
    refine j_callTi (pc' := 29) (ai := 12) (vs := [.ref 1]) (rest := [.int l3]) rfl rfl (fun _ _ => rfl) (c_X2_holes_1  σ) (j_dd rfl hd) rfl ?_
    refine j_two (pT := 32) (pF := 77) (L1 := [some (.ref 37), some (.ref 1), some (.int l2), some (.int l3), none]) (st1 := []) (fun o kT kF => ?_) (fun h1 => ?_) (fun h1 => ?_)
    · refine j_icge (t := 77) (pc' := 32) rfl rfl rfl (fun h2 => ?_) (fun h2 => ?_)
      · exact kF h2
      · exact kT h2
    · refine j_iconst (pc' := 33) (x := (0 : Int32)) rfl rfl rfl ?_
      refine j_istore (pc' := 35) (L' := [some (.ref 37), some (.ref 1), some (.int l2), some (.int l3), some (.int (0 : Int32))]) rfl rfl rfl ?_
      refine j_q1 (l_X5_grow_35 hd τ l2 l3 j_F (0 : Int32) σ) (fun σ1 => ?_)
      show j_J true τ M_cX5_grow d 71 [some (.ref 37), some (.ref 1), some (.int l2), some (.int l3), none] [] σ1 _ _
      refine j_iincx (pc' := 74) (y := (1 : Int32)) (L' := [some (.ref 37), some (.ref 1), some (.int l2), some (.int (l3 + (1 : Int32))), none]) rfl rfl rfl rfl rfl ?_
      refine j_goto (t := 24) rfl rfl ?_
      exact ih (l3 + (1 : Int32)) σ1
    · refine j_wk [true, false, false, false, true] (L' := [some (.ref 37), none, none, none, none]) rfl ?_
      exact j_end (fun _ h => h)

theorem c_X5_grow (l2 : Int32) (σ : j_G) : j_K true 3 55 [.ref 37, .ref 1, .int l2] σ (f_X5_grow l2 σ) j_Rv := by
  refine j_mkK (M := M_cX5_grow) (L := [some (.ref 37), some (.ref 1), some (.int l2), none, none]) (m := 2) t_55 rfl (j_rcvO j_a37 rfl) rfl (fun d hd τ => ?_)
  unfold f_X5_grow
  refine j_iconst (pc' := 1) (x := (0 : Int32)) rfl rfl rfl ?_
  refine j_istore_n (pc' := 2) (L' := [some (.ref 37), some (.ref 1), some (.int l2), some (.int (0 : Int32)), none]) rfl rfl rfl ?_
  refine j_q1 (l_X5_grow_2 hd τ l2 j_F (0 : Int32) σ) (fun σ1 => ?_)
  show j_J true τ M_cX5_grow d 22 [some (.ref 37), some (.ref 1), some (.int l2), none, none] [] σ1 _ _
  refine j_iconst (pc' := 23) (x := (-1 : Int32)) rfl rfl rfl ?_
  refine j_istore_n (pc' := 24) (L' := [some (.ref 37), some (.ref 1), some (.int l2), some (.int (-1 : Int32)), none]) rfl rfl rfl ?_
  refine j_q1 (l_X5_grow_24 hd τ l2 j_F (-1 : Int32) σ1) (fun σ2 => ?_)
  show j_J true τ M_cX5_grow d 77 [some (.ref 37), none, none, none, none] [] σ2 _ _
  refine j_aload_n (pc' := 78) rfl rfl rfl ?_
  refine j_gfr (pc' := 81) (x := 39) rfl rfl j_a37 rfl rfl ?_
  refine j_iconst (pc' := 82) (x := (0 : Int32)) rfl rfl rfl ?_
  refine j_aload_n (pc' := 83) rfl rfl rfl ?_
  refine j_gfr (pc' := 86) (x := 38) rfl rfl j_a37 rfl rfl ?_
  refine j_iconst (pc' := 87) (x := (0 : Int32)) rfl rfl rfl ?_
  refine j_sipush (pc' := 90) (x := (156 : Int32)) rfl rfl rfl ?_
  refine j_cpl (pc' := 93) rfl rfl rfl j_a39 j_a38 (fun σ3 => ?_)
  exact j_ret rfl rfl rfl (fun _ h => h)

noncomputable def p_X11_countLots_43 (l1 : Int32) (l2 : Int32) : Nat → Int32 → j_G → Option j_G
  | 0, _, _ => none
  | n + 1, l3, σ =>
    if l3 < l2 then (j_b1 (f_X5_grow l1 σ) fun σ1 =>
    p_X11_countLots_43 l1 l2 n (l3 + (1 : Int32)) σ1) else (some σ)

noncomputable def f_X11_countLots (l1 : Int32) (l2 : Int32) (σ : j_G) : Option (Int32 × j_G) :=
  if ((f_X2_isTold σ) = 0) ∨ (((f_X11_isLaw l1) = 0) ∨ ((l2 < (1 : Int32)) ∨ ((12 : Int32) < l2))) then (some ((0 : Int32), σ)) else (j_b1 (f_X5_begin σ) fun σ1 =>
  j_b1 (p_X11_countLots_43 l1 l2 j_F (1 : Int32) σ1) fun σ2 =>
  some ((1 : Int32), σ2))
theorem l_X11_countLots_43 {d : Nat} (hd : 4 ≤ d) (τ : j_G) (l1 : Int32) (l2 : Int32) : ∀ (n : Nat) (l3 : Int32) (σ : j_G), j_J true τ M_cX11_countLots d 43 [some (.ref 0), some (.int l1), some (.int l2), some (.int l3)] [] σ (p_X11_countLots_43 l1 l2 n l3 σ) (fun r Q => j_Tr true τ M_cX11_countLots d 66 [none, none, none, none] [] r Q) := by
  intro n
  induction n with
  | zero => intro l3 σ; exact j_none
  | succ n ih =>
    intro l3 σ
    unfold p_X11_countLots_43
    refine j_iload_n (pc' := 44) rfl rfl rfl ?_
    refine j_iload_n (pc' := 45) rfl rfl rfl ?_
    refine j_two (pT := 48) (pF := 66) (L1 := [some (.ref 0), some (.int l1), some (.int l2), some (.int l3)]) (st1 := []) (fun o kT kF => ?_) (fun h1 => ?_) (fun h1 => ?_)
    · refine j_icge (t := 66) (pc' := 48) rfl rfl rfl (fun h2 => ?_) (fun h2 => ?_)
      · exact kF h2
      · exact kT h2
    · refine j_aload_n (pc' := 49) rfl rfl rfl ?_
      refine j_gfr (pc' := 52) (x := 37) rfl rfl j_a0 rfl rfl ?_
      refine j_aload_n (pc' := 53) rfl rfl rfl ?_
      refine j_gfr (pc' := 56) (x := 1) rfl rfl j_a0 rfl rfl ?_
      refine j_iload_n (pc' := 57) rfl rfl rfl ?_
      refine j_callRv (pc' := 60) (ai := 55) (vs := [.ref 37, .ref 1, .int l1]) (rest := []) rfl rfl (fun _ _ => rfl) (c_X5_grow l1 σ) (j_dd rfl hd) rfl (fun σ1 => ?_)
      refine j_iincx (pc' := 63) (y := (1 : Int32)) (L' := [some (.ref 0), some (.int l1), some (.int l2), some (.int (l3 + (1 : Int32)))]) rfl rfl rfl rfl rfl ?_
      refine j_goto (t := 43) rfl rfl ?_
      exact ih (l3 + (1 : Int32)) σ1
    · refine j_wk [false, false, false, false] (L' := [none, none, none, none]) rfl ?_
      exact j_end (fun _ h => h)

theorem c_X11_countLots (l1 : Int32) (l2 : Int32) (σ : j_G) : j_K true 4 192 [.ref 0, .int l1, .int l2] σ (f_X11_countLots l1 l2 σ) j_Ri := by
  refine j_mkK (M := M_cX11_countLots) (L := [some (.ref 0), some (.int l1), some (.int l2), none]) (m := 1) t_192 rfl (j_rcvO j_a0 rfl) rfl (fun d hd τ => ?_)
  unfold f_X11_countLots
  refine j_aload_n (pc' := 1) rfl rfl rfl ?_
  refine j_gfr (pc' := 4) (x := 1) rfl rfl j_a0 rfl rfl ?_
  refine j_callTi (pc' := 7) (ai := 11) (vs := [.ref 1]) (rest := []) rfl rfl (fun _ _ => rfl) (c_X2_isTold  σ) (j_dd rfl hd) rfl ?_
  refine j_two (pT := 28) (pF := 30) (L1 := [some (.ref 0), some (.int l1), some (.int l2), none]) (st1 := []) (fun o kT kF => ?_) (fun h1 => ?_) (fun h1 => ?_)
  · refine j_ifeq (t := 28) (pc' := 10) rfl rfl rfl (fun h2 => ?_) (fun h2 => ?_)
    · exact kT (Or.inl h2)
    · refine j_iload_n (pc' := 11) rfl rfl rfl ?_
      refine j_callTi (pc' := 14) (ai := 183) (vs := [.int l1]) (rest := []) rfl rfl (fun _ _ => rfl) (c_X11_isLaw l1 σ) (j_dd rfl hd) rfl ?_
      refine j_ifeq (t := 28) (pc' := 17) rfl rfl rfl (fun h3 => ?_) (fun h3 => ?_)
      · exact kT (Or.inr (Or.inl h3))
      · refine j_iload_n (pc' := 18) rfl rfl rfl ?_
        refine j_iconst (pc' := 19) (x := (1 : Int32)) rfl rfl rfl ?_
        refine j_iclt (t := 28) (pc' := 22) rfl rfl rfl (fun h4 => ?_) (fun h4 => ?_)
        · exact kT (Or.inr (Or.inr (Or.inl h4)))
        · refine j_iload_n (pc' := 23) rfl rfl rfl ?_
          refine j_bipush (pc' := 25) (x := (12 : Int32)) rfl rfl rfl ?_
          refine j_icle (t := 30) (pc' := 28) rfl rfl rfl (fun h5 => ?_) (fun h5 => ?_)
          · exact kF (fun z => z.elim h2 (fun z => z.elim h3 (fun z => z.elim h4 (h5))))
          · exact kT (Or.inr (Or.inr (Or.inr (h5))))
  · refine j_iconst (pc' := 29) (x := (0 : Int32)) rfl rfl rfl ?_
    exact j_ret rfl rfl rfl (fun _ h => h)
  · refine j_aload_n (pc' := 31) rfl rfl rfl ?_
    refine j_gfr (pc' := 34) (x := 37) rfl rfl j_a0 rfl rfl ?_
    refine j_aload_n (pc' := 35) rfl rfl rfl ?_
    refine j_gfr (pc' := 38) (x := 1) rfl rfl j_a0 rfl rfl ?_
    refine j_callRv (pc' := 41) (ai := 54) (vs := [.ref 37, .ref 1]) (rest := []) rfl rfl (fun _ _ => rfl) (c_X5_begin  σ) (j_dd rfl hd) rfl (fun σ1 => ?_)
    refine j_iconst (pc' := 42) (x := (1 : Int32)) rfl rfl rfl ?_
    refine j_istore_n (pc' := 43) (L' := [some (.ref 0), some (.int l1), some (.int l2), some (.int (1 : Int32))]) rfl rfl rfl ?_
    refine j_q1 (l_X11_countLots_43 hd τ l1 l2 j_F (1 : Int32) σ1) (fun σ2 => ?_)
    show j_J true τ M_cX11_countLots d 66 [none, none, none, none] [] σ2 _ _
    refine j_iconst (pc' := 67) (x := (1 : Int32)) rfl rfl rfl ?_
    exact j_ret rfl rfl rfl (fun _ h => h)

noncomputable def p_X5_rowsTo_5 (l2 : Int32) (σ : j_G) : Nat → Int64 → Int32 → Option Int64
  | 0, _, _ => none
  | n + 1, l3, l5 =>
    if l5 < (f_X2_holes 1 σ) then (j_b1 (f_X5_waysTo l5 l2 σ) fun v1 =>
    j_lt (l3 + v1) fun v2 =>
    p_X5_rowsTo_5 l2 σ n v2 (l5 + (1 : Int32))) else (some l3)

noncomputable def f_X5_rowsTo (l2 : Int32) (σ : j_G) : Option Int64 :=
  j_b1 (p_X5_rowsTo_5 l2 σ j_F (0 : Int64) (-1 : Int32)) fun v1 =>
  some v1
theorem l_X5_rowsTo_5 {d : Nat} (hd : 2 ≤ d) (τ : j_G) (l2 : Int32) (σ : j_G) : ∀ (n : Nat) (l3 : Int64) (l5 : Int32), j_J true τ M_cX5_rowsTo d 5 [some (.ref 37), some (.ref 1), some (.int l2), some (.long l3), none, some (.int l5)] [] σ (p_X5_rowsTo_5 l2 σ n l3 l5) (fun r Q => j_Tr true τ M_cX5_rowsTo d 30 [none, none, none, some (.long r), none, none] [] σ Q) := by
  intro n
  induction n with
  | zero => intro l3 l5; exact j_none
  | succ n ih =>
    intro l3 l5
    unfold p_X5_rowsTo_5
    refine j_iload (pc' := 7) rfl rfl rfl ?_
    refine j_aload_n (pc' := 8) rfl rfl rfl ?_
    refine j_callTi (pc' := 11) (ai := 12) (vs := [.ref 1]) (rest := [.int l5]) rfl rfl (fun _ _ => rfl) (c_X2_holes_1  σ) (j_dd rfl hd) rfl ?_
    refine j_two (pT := 14) (pF := 30) (L1 := [some (.ref 37), some (.ref 1), some (.int l2), some (.long l3), none, some (.int l5)]) (st1 := []) (fun o kT kF => ?_) (fun h1 => ?_) (fun h1 => ?_)
    · refine j_icge (t := 30) (pc' := 14) rfl rfl rfl (fun h2 => ?_) (fun h2 => ?_)
      · exact kF h2
      · exact kT h2
    · refine j_lload_n (pc' := 15) rfl rfl rfl ?_
      refine j_aload_n (pc' := 16) rfl rfl rfl ?_
      refine j_iload (pc' := 18) rfl rfl rfl ?_
      refine j_iload_n (pc' := 19) rfl rfl rfl ?_
      refine j_callPl (pc' := 22) (ai := 58) (vs := [.ref 37, .int l5, .int l2]) (rest := [.long l3]) rfl rfl (fun _ _ => rfl) (c_X5_waysTo l5 l2 σ) (j_dd rfl hd) rfl (fun v1 => ?_)
      refine j_ladd (pc' := 23) rfl rfl ?_
      refine j_letl (fun v2 => ?_)
      refine j_lstore_n (pc' := 24) (L' := [some (.ref 37), some (.ref 1), some (.int l2), some (.long v2), none, some (.int l5)]) rfl rfl rfl ?_
      refine j_iincx (pc' := 27) (y := (1 : Int32)) (L' := [some (.ref 37), some (.ref 1), some (.int l2), some (.long v2), none, some (.int (l5 + (1 : Int32)))]) rfl rfl rfl rfl rfl ?_
      refine j_goto (t := 5) rfl rfl ?_
      exact ih v2 (l5 + (1 : Int32))
    · refine j_wk [false, false, false, true, true, false] (L' := [none, none, none, some (.long l3), none, none]) rfl ?_
      exact j_end (fun _ h => h)

theorem c_X5_rowsTo (l2 : Int32) (σ : j_G) : j_K true 2 60 [.ref 37, .ref 1, .int l2] σ (f_X5_rowsTo l2 σ) (j_Pl σ) := by
  refine j_mkK (M := M_cX5_rowsTo) (L := [some (.ref 37), some (.ref 1), some (.int l2), none, none, none]) (m := 3) t_60 rfl (j_rcvO j_a37 rfl) rfl (fun d hd τ => ?_)
  unfold f_X5_rowsTo
  refine j_lconst (pc' := 1) (x := (0 : Int64)) rfl rfl rfl ?_
  refine j_lstore_n (pc' := 2) (L' := [some (.ref 37), some (.ref 1), some (.int l2), some (.long (0 : Int64)), none, none]) rfl rfl rfl ?_
  refine j_iconst (pc' := 3) (x := (-1 : Int32)) rfl rfl rfl ?_
  refine j_istore (pc' := 5) (L' := [some (.ref 37), some (.ref 1), some (.int l2), some (.long (0 : Int64)), none, some (.int (-1 : Int32))]) rfl rfl rfl ?_
  refine j_q1 (l_X5_rowsTo_5 hd τ l2 σ j_F (0 : Int64) (-1 : Int32)) (fun v1 => ?_)
  show j_J true τ M_cX5_rowsTo d 30 [none, none, none, some (.long v1), none, none] [] σ _ _
  refine j_lload_n (pc' := 31) rfl rfl rfl ?_
  exact j_ret rfl rfl rfl (fun _ h => h)

noncomputable def p_X5_rowsInAll_5 (σ : j_G) : Nat → Int64 → Int32 → Option Int64
  | 0, _, _ => none
  | n + 1, l2, l4 =>
    if l4 < (f_X2_holes 1 σ) then (j_b1 (f_X5_rowsTo l4 σ) fun v1 =>
    j_lt (l2 + v1) fun v2 =>
    p_X5_rowsInAll_5 σ n v2 (l4 + (1 : Int32))) else (some l2)

noncomputable def f_X5_rowsInAll (σ : j_G) : Option Int64 :=
  j_b1 (p_X5_rowsInAll_5 σ j_F (0 : Int64) (0 : Int32)) fun v1 =>
  some v1
theorem l_X5_rowsInAll_5 {d : Nat} (hd : 3 ≤ d) (τ : j_G) (σ : j_G) : ∀ (n : Nat) (l2 : Int64) (l4 : Int32), j_J true τ M_cX5_rowsInAll d 5 [some (.ref 37), some (.ref 1), some (.long l2), none, some (.int l4)] [] σ (p_X5_rowsInAll_5 σ n l2 l4) (fun r Q => j_Tr true τ M_cX5_rowsInAll d 30 [none, none, some (.long r), none, none] [] σ Q) := by
  intro n
  induction n with
  | zero => intro l2 l4; exact j_none
  | succ n ih =>
    intro l2 l4
    unfold p_X5_rowsInAll_5
    refine j_iload (pc' := 7) rfl rfl rfl ?_
    refine j_aload_n (pc' := 8) rfl rfl rfl ?_
    refine j_callTi (pc' := 11) (ai := 12) (vs := [.ref 1]) (rest := [.int l4]) rfl rfl (fun _ _ => rfl) (c_X2_holes_1  σ) (j_dd rfl hd) rfl ?_
    refine j_two (pT := 14) (pF := 30) (L1 := [some (.ref 37), some (.ref 1), some (.long l2), none, some (.int l4)]) (st1 := []) (fun o kT kF => ?_) (fun h1 => ?_) (fun h1 => ?_)
    · refine j_icge (t := 30) (pc' := 14) rfl rfl rfl (fun h2 => ?_) (fun h2 => ?_)
      · exact kF h2
      · exact kT h2
    · refine j_lload_n (pc' := 15) rfl rfl rfl ?_
      refine j_aload_n (pc' := 16) rfl rfl rfl ?_
      refine j_aload_n (pc' := 17) rfl rfl rfl ?_
      refine j_iload (pc' := 19) rfl rfl rfl ?_
      refine j_callPl (pc' := 22) (ai := 60) (vs := [.ref 37, .ref 1, .int l4]) (rest := [.long l2]) rfl rfl (fun _ _ => rfl) (c_X5_rowsTo l4 σ) (j_dd rfl hd) rfl (fun v1 => ?_)
      refine j_ladd (pc' := 23) rfl rfl ?_
      refine j_letl (fun v2 => ?_)
      refine j_lstore_n (pc' := 24) (L' := [some (.ref 37), some (.ref 1), some (.long v2), none, some (.int l4)]) rfl rfl rfl ?_
      refine j_iincx (pc' := 27) (y := (1 : Int32)) (L' := [some (.ref 37), some (.ref 1), some (.long v2), none, some (.int (l4 + (1 : Int32)))]) rfl rfl rfl rfl rfl ?_
      refine j_goto (t := 5) rfl rfl ?_
      exact ih v2 (l4 + (1 : Int32))
    · refine j_wk [false, false, true, true, false] (L' := [none, none, some (.long l2), none, none]) rfl ?_
      exact j_end (fun _ h => h)

theorem c_X5_rowsInAll (σ : j_G) : j_K true 3 61 [.ref 37, .ref 1] σ (f_X5_rowsInAll σ) (j_Pl σ) := by
  refine j_mkK (M := M_cX5_rowsInAll) (L := [some (.ref 37), some (.ref 1), none, none, none]) (m := 3) t_61 rfl (j_rcvO j_a37 rfl) rfl (fun d hd τ => ?_)
  unfold f_X5_rowsInAll
  refine j_lconst (pc' := 1) (x := (0 : Int64)) rfl rfl rfl ?_
  refine j_lstore_n (pc' := 2) (L' := [some (.ref 37), some (.ref 1), some (.long (0 : Int64)), none, none]) rfl rfl rfl ?_
  refine j_iconst (pc' := 3) (x := (0 : Int32)) rfl rfl rfl ?_
  refine j_istore (pc' := 5) (L' := [some (.ref 37), some (.ref 1), some (.long (0 : Int64)), none, some (.int (0 : Int32))]) rfl rfl rfl ?_
  refine j_q1 (l_X5_rowsInAll_5 hd τ σ j_F (0 : Int64) (0 : Int32)) (fun v1 => ?_)
  show j_J true τ M_cX5_rowsInAll d 30 [none, none, some (.long v1), none, none] [] σ _ _
  refine j_lload_n (pc' := 31) rfl rfl rfl ?_
  exact j_ret rfl rfl rfl (fun _ h => h)

noncomputable def f_X11_rows (l1 : Int32) (l2 : Int32) (σ : j_G) : Option (Int64 × j_G) :=
  j_b2 (f_X11_countLots l1 l2 σ) fun v2 σ1 =>
  if ¬ v2 = 0 then (j_b1 (f_X5_rowsInAll σ1) fun v3 =>
  some (v3, σ1)) else (some ((-2 : Int64), σ1))
theorem c_X11_rows (l1 : Int32) (l2 : Int32) (σ : j_G) : j_K true 5 144 [.ref 0, .int l1, .int l2] σ (f_X11_rows l1 l2 σ) j_Rl := by
  refine j_mkK (M := M_cX11_rows) (L := [some (.ref 0), some (.int l1), some (.int l2)]) (m := 0) t_144 rfl (j_rcvO j_a0 rfl) rfl (fun d hd τ => ?_)
  unfold f_X11_rows
  refine j_aload_n (pc' := 1) rfl rfl rfl ?_
  refine j_iload_n (pc' := 2) rfl rfl rfl ?_
  refine j_iload_n (pc' := 3) rfl rfl rfl ?_
  refine j_callRi (pc' := 6) (ai := 192) (vs := [.ref 0, .int l1, .int l2]) (rest := []) rfl rfl (fun _ _ => rfl) (c_X11_countLots l1 l2 σ) (j_dd rfl hd) rfl (fun v2 σ1 => ?_)
  refine j_two (pT := 9) (pF := 23) (L1 := [some (.ref 0), some (.int l1), some (.int l2)]) (st1 := []) (fun o kT kF => ?_) (fun h1 => ?_) (fun h1 => ?_)
  · refine j_ifeq (t := 23) (pc' := 9) rfl rfl rfl (fun h2 => ?_) (fun h2 => ?_)
    · exact kF (fun z => z h2)
    · exact kT h2
  · refine j_aload_n (pc' := 10) rfl rfl rfl ?_
    refine j_gfr (pc' := 13) (x := 37) rfl rfl j_a0 rfl rfl ?_
    refine j_aload_n (pc' := 14) rfl rfl rfl ?_
    refine j_gfr (pc' := 17) (x := 1) rfl rfl j_a0 rfl rfl ?_
    refine j_callPl (pc' := 20) (ai := 61) (vs := [.ref 37, .ref 1]) (rest := []) rfl rfl (fun _ _ => rfl) (c_X5_rowsInAll  σ1) (j_dd rfl hd) rfl (fun v3 => ?_)
    refine j_goto (t := 26) rfl rfl ?_
    exact j_ret rfl rfl rfl (fun _ h => h)
  · refine j_ldc2_w (pc' := 26) (x := (-2 : Int64)) rfl rfl rfl ?_
    exact j_ret rfl rfl rfl (fun _ h => h)

noncomputable def f_X12_isLaw (l0 : Int32) : Int32 :=
  (f_X12_in (l0).toInt64 (0 : Int64) (3 : Int64))

theorem b_X12_isLaw (l0 : Int32) : f_X12_isLaw l0 = 0 ∨ f_X12_isLaw l0 = 1 := by
  unfold f_X12_isLaw
  exact (b_X12_in (l0).toInt64 (0 : Int64) (3 : Int64))
theorem c_X12_isLaw (l0 : Int32) (σ : j_G) : j_K false 1 289 [.int l0] σ (some (f_X12_isLaw l0)) (j_Pi σ) := by
  refine j_mkK (M := M_cX12_isLaw) (L := [some (.int l0)]) (m := 0) t_289 rfl (j_rcvS rfl) rfl (fun d hd τ => ?_)
  unfold f_X12_isLaw
  refine j_iload_n (pc' := 1) rfl rfl rfl ?_
  refine j_i2l (pc' := 2) rfl rfl ?_
  refine j_lconst (pc' := 3) (x := (0 : Int64)) rfl rfl rfl ?_
  refine j_ldc2_w (pc' := 6) (x := (3 : Int64)) rfl rfl rfl ?_
  refine j_callTi (pc' := 9) (ai := 196) (vs := [.long (l0).toInt64, .long (0 : Int64), .long (3 : Int64)]) (rest := []) rfl rfl (fun _ _ => rfl) (c_X12_in (l0).toInt64 (0 : Int64) (3 : Int64) σ) (j_dd rfl hd) rfl ?_
  exact j_retb rfl rfl (b_X12_in (l0).toInt64 (0 : Int64) (3 : Int64)) (fun _ h => h)

noncomputable def f_X12_lets (l1 : Int32) (l2 : Int32) (l3 : Int32) (l4 : Int32) (σ : j_G) : Option Int32 :=
  j_b1 (f_X12_isShut l2 σ) fun v1 =>
  if ¬ v1 = 0 then (some (0 : Int32)) else (if l1 = (1 : Int32) then (if ¬ l2 = l3 then (some (1 : Int32)) else (some (0 : Int32))) else (if l1 = (2 : Int32) then (if ¬ l3 = (-1 : Int32) then (j_b1 (f_X12_stepsOf l2 l3 σ) fun v2 =>
  if (1 : Int32) < v2 then (some (1 : Int32)) else (some (0 : Int32))) else (some (1 : Int32))) else (if ¬ l1 = 0 then (if (¬ l2 = l3) ∧ (¬ l2 = l4) then (some (1 : Int32)) else (some (0 : Int32))) else (some (1 : Int32)))))
theorem c_X12_lets (l1 : Int32) (l2 : Int32) (l3 : Int32) (l4 : Int32) (σ : j_G) : j_K false 1 290 [.ref 75, .int l1, .int l2, .int l3, .int l4] σ (f_X12_lets l1 l2 l3 l4 σ) (j_Pi σ) := by
  refine j_mkK (M := M_cX12_lets) (L := [some (.ref 75), some (.int l1), some (.int l2), some (.int l3), some (.int l4)]) (m := 0) t_290 rfl (j_rcvO j_a75 rfl) rfl (fun d hd τ => ?_)
  unfold f_X12_lets
  refine j_aload_n (pc' := 1) rfl rfl rfl ?_
  refine j_iload_n (pc' := 2) rfl rfl rfl ?_
  refine j_callPi (pc' := 5) (ai := 202) (vs := [.ref 75, .int l2]) (rest := []) rfl rfl (fun _ _ => rfl) (c_X12_isShut l2 σ) (j_dd rfl hd) rfl (fun v1 => ?_)
  refine j_two (pT := 8) (pF := 10) (L1 := [some (.ref 75), some (.int l1), some (.int l2), some (.int l3), some (.int l4)]) (st1 := []) (fun o kT kF => ?_) (fun h16 => ?_) (fun h16 => ?_)
  · refine j_ifeq (t := 10) (pc' := 8) rfl rfl rfl (fun h17 => ?_) (fun h17 => ?_)
    · exact kF (fun z => z h17)
    · exact kT h17
  · refine j_iconst (pc' := 9) (x := (0 : Int32)) rfl rfl rfl ?_
    exact j_ret rfl rfl rfl (fun _ h => h)
  · refine j_iload_n (pc' := 11) rfl rfl rfl ?_
    refine j_iconst (pc' := 12) (x := (1 : Int32)) rfl rfl rfl ?_
    refine j_two (pT := 15) (pF := 26) (L1 := [some (.ref 75), some (.int l1), some (.int l2), some (.int l3), some (.int l4)]) (st1 := []) (fun o kT kF => ?_) (fun h14 => ?_) (fun h14 => ?_)
    · refine j_icne (t := 26) (pc' := 15) rfl rfl rfl (fun h15 => ?_) (fun h15 => ?_)
      · exact kF h15
      · exact kT h15
    · refine j_iload_n (pc' := 16) rfl rfl rfl ?_
      refine j_iload_n (pc' := 17) rfl rfl rfl ?_
      refine j_two (pT := 20) (pF := 24) (L1 := [some (.ref 75), some (.int l1), some (.int l2), some (.int l3), some (.int l4)]) (st1 := []) (fun o kT kF => ?_) (fun h1 => ?_) (fun h1 => ?_)
      · refine j_iceq (t := 24) (pc' := 20) rfl rfl rfl (fun h2 => ?_) (fun h2 => ?_)
        · exact kF (fun z => z h2)
        · exact kT h2
      · refine j_iconst (pc' := 21) (x := (1 : Int32)) rfl rfl rfl ?_
        refine j_goto (t := 25) rfl rfl ?_
        exact j_ret rfl rfl rfl (fun _ h => h)
      · refine j_iconst (pc' := 25) (x := (0 : Int32)) rfl rfl rfl ?_
        exact j_ret rfl rfl rfl (fun _ h => h)
    · refine j_iload_n (pc' := 27) rfl rfl rfl ?_
      refine j_iconst (pc' := 28) (x := (2 : Int32)) rfl rfl rfl ?_
      refine j_two (pT := 31) (pF := 52) (L1 := [some (.ref 75), some (.int l1), some (.int l2), some (.int l3), some (.int l4)]) (st1 := []) (fun o kT kF => ?_) (fun h12 => ?_) (fun h12 => ?_)
      · refine j_icne (t := 52) (pc' := 31) rfl rfl rfl (fun h13 => ?_) (fun h13 => ?_)
        · exact kF h13
        · exact kT h13
      · refine j_iload_n (pc' := 32) rfl rfl rfl ?_
        refine j_iconst (pc' := 33) (x := (-1 : Int32)) rfl rfl rfl ?_
        refine j_two (pT := 36) (pF := 46) (L1 := [some (.ref 75), some (.int l1), some (.int l2), some (.int l3), some (.int l4)]) (st1 := []) (fun o kT kF => ?_) (fun h5 => ?_) (fun h5 => ?_)
        · refine j_iceq (t := 46) (pc' := 36) rfl rfl rfl (fun h6 => ?_) (fun h6 => ?_)
          · exact kF (fun z => z h6)
          · exact kT h6
        · refine j_aload_n (pc' := 37) rfl rfl rfl ?_
          refine j_iload_n (pc' := 38) rfl rfl rfl ?_
          refine j_iload_n (pc' := 39) rfl rfl rfl ?_
          refine j_callPi (pc' := 42) (ai := 248) (vs := [.ref 75, .int l2, .int l3]) (rest := []) rfl rfl (fun _ _ => rfl) (c_X12_stepsOf l2 l3 σ) (j_dd rfl hd) rfl (fun v2 => ?_)
          refine j_iconst (pc' := 43) (x := (1 : Int32)) rfl rfl rfl ?_
          refine j_two (pT := 46) (pF := 50) (L1 := [some (.ref 75), some (.int l1), some (.int l2), some (.int l3), some (.int l4)]) (st1 := []) (fun o kT kF => ?_) (fun h3 => ?_) (fun h3 => ?_)
          · refine j_icle (t := 50) (pc' := 46) rfl rfl rfl (fun h4 => ?_) (fun h4 => ?_)
            · exact kF h4
            · exact kT h4
          · refine j_iconst (pc' := 47) (x := (1 : Int32)) rfl rfl rfl ?_
            refine j_goto (t := 51) rfl rfl ?_
            exact j_ret rfl rfl rfl (fun _ h => h)
          · refine j_iconst (pc' := 51) (x := (0 : Int32)) rfl rfl rfl ?_
            exact j_ret rfl rfl rfl (fun _ h => h)
        · refine j_iconst (pc' := 47) (x := (1 : Int32)) rfl rfl rfl ?_
          refine j_goto (t := 51) rfl rfl ?_
          exact j_ret rfl rfl rfl (fun _ h => h)
      · refine j_iload_n (pc' := 53) rfl rfl rfl ?_
        refine j_two (pT := 56) (pF := 67) (L1 := [some (.ref 75), some (.int l1), some (.int l2), some (.int l3), some (.int l4)]) (st1 := []) (fun o kT kF => ?_) (fun h10 => ?_) (fun h10 => ?_)
        · refine j_ifeq (t := 67) (pc' := 56) rfl rfl rfl (fun h11 => ?_) (fun h11 => ?_)
          · exact kF (fun z => z h11)
          · exact kT h11
        · refine j_iload_n (pc' := 57) rfl rfl rfl ?_
          refine j_iload_n (pc' := 58) rfl rfl rfl ?_
          refine j_two (pT := 67) (pF := 71) (L1 := [some (.ref 75), some (.int l1), some (.int l2), some (.int l3), some (.int l4)]) (st1 := []) (fun o kT kF => ?_) (fun h7 => ?_) (fun h7 => ?_)
          · refine j_iceq (t := 71) (pc' := 61) rfl rfl rfl (fun h8 => ?_) (fun h8 => ?_)
            · exact kF (fun z => z.1 h8)
            · refine j_iload_n (pc' := 62) rfl rfl rfl ?_
              refine j_iload (pc' := 64) rfl rfl rfl ?_
              refine j_iceq (t := 71) (pc' := 67) rfl rfl rfl (fun h9 => ?_) (fun h9 => ?_)
              · exact kF (fun z => (fun z => z h9) z.2)
              · exact kT (⟨h8, h9⟩)
          · refine j_iconst (pc' := 68) (x := (1 : Int32)) rfl rfl rfl ?_
            refine j_goto (t := 72) rfl rfl ?_
            exact j_ret rfl rfl rfl (fun _ h => h)
          · refine j_iconst (pc' := 72) (x := (0 : Int32)) rfl rfl rfl ?_
            exact j_ret rfl rfl rfl (fun _ h => h)
        · refine j_iconst (pc' := 68) (x := (1 : Int32)) rfl rfl rfl ?_
          refine j_goto (t := 72) rfl rfl ?_
          exact j_ret rfl rfl rfl (fun _ h => h)

noncomputable def p_X12_fillRows_2 (l1 : Int32) (l2 : Int32) : Nat → Int32 → j_G → Option j_G
  | 0, _, _ => none
  | n + 1, l3, σ =>
    if l3 < (169 : Int32) then (j_lt (if l3 = 0 then ((1 : Int64)) else ((0 : Int64))) fun v1 =>
    j_ix l3 169 (
    j_lt (j_sl σ 91 (l3).toNatClampNeg v1) fun σ2 =>
    p_X12_fillRows_2 l1 l2 n (l3 + (1 : Int32)) σ2)) else (some σ)

noncomputable def p_X12_fillRows_42 (l1 : Int32) (l2 : Int32) (l3 : Int32) : Nat → Int32 → j_G → Option j_G
  | 0, _, _ => none
  | n + 1, l4, σ =>
    if l4 < (169 : Int32) then (j_ix l4 169 (
    j_ix l4 169 (
    j_lt (j_sl σ 92 (l4).toNatClampNeg (σ.2 91 (l4).toNatClampNeg)) fun σ1 =>
    j_ix l4 169 (
    j_lt (j_sl σ1 91 (l4).toNatClampNeg (0 : Int64)) fun σ2 =>
    p_X12_fillRows_42 l1 l2 l3 n (l4 + (1 : Int32)) σ2)))) else (some σ)

noncomputable def p_X12_fillRows_136 (l1 : Int32) (l2 : Int32) (l3 : Int32) (l4 : Int32) (l5 : Int32) (l6 : Int64) : Nat → Int32 → j_G → Option j_G
  | 0, _, _ => none
  | n + 1, l8, σ =>
    j_b1 (f_X12_holes σ) fun v1 =>
    if l8 < v1 then (j_b1 (f_X12_lets l1 l8 l4 l5 σ) fun v2 =>
    j_b1 (if ¬ v2 = 0 then (j_ix ((((13 : Int32) * (l8 + (1 : Int32))) + l4) + (1 : Int32)) 169 (
    j_ix ((((13 : Int32) * (l8 + (1 : Int32))) + l4) + (1 : Int32)) 169 (
    j_lt (j_sl σ 91 (((((13 : Int32) * (l8 + (1 : Int32))) + l4) + (1 : Int32))).toNatClampNeg ((σ.2 91 (((((13 : Int32) * (l8 + (1 : Int32))) + l4) + (1 : Int32))).toNatClampNeg) + l6)) fun σ4 =>
    some σ4))) else (some σ)) fun σ3 =>
    p_X12_fillRows_136 l1 l2 l3 l4 l5 l6 n (l8 + (1 : Int32)) σ3) else (some σ)

noncomputable def p_X12_fillRows_95 (l1 : Int32) (l2 : Int32) (l3 : Int32) (l4 : Int32) : Nat → Int32 → j_G → Option j_G
  | 0, _, _ => none
  | n + 1, l5, σ =>
    j_b1 (f_X12_holes σ) fun v1 =>
    if l5 < v1 then (j_ix ((((13 : Int32) * (l4 + (1 : Int32))) + l5) + (1 : Int32)) 169 (
    j_lt (σ.2 92 (((((13 : Int32) * (l4 + (1 : Int32))) + l5) + (1 : Int32))).toNatClampNeg) fun v2 =>
    j_b1 (if v2 = (0 : Int64) then (some σ) else (j_b1 (p_X12_fillRows_136 l1 l2 l3 l4 l5 v2 j_F (0 : Int32) σ) fun σ4 =>
    some σ4)) fun σ3 =>
    p_X12_fillRows_95 l1 l2 l3 l4 n (l5 + (1 : Int32)) σ3)) else (some σ)

noncomputable def p_X12_fillRows_83 (l1 : Int32) (l2 : Int32) (l3 : Int32) : Nat → Int32 → j_G → Option j_G
  | 0, _, _ => none
  | n + 1, l4, σ =>
    j_b1 (f_X12_holes σ) fun v1 =>
    if l4 < v1 then (j_b1 (p_X12_fillRows_95 l1 l2 l3 l4 j_F (-1 : Int32) σ) fun σ2 =>
    p_X12_fillRows_83 l1 l2 l3 n (l4 + (1 : Int32)) σ2) else (some σ)

noncomputable def p_X12_fillRows_34 (l1 : Int32) (l2 : Int32) : Nat → Int32 → j_G → Option j_G
  | 0, _, _ => none
  | n + 1, l3, σ =>
    if l3 < l2 then (j_b1 (p_X12_fillRows_42 l1 l2 l3 j_F (0 : Int32) σ) fun σ1 =>
    j_b1 (p_X12_fillRows_83 l1 l2 l3 j_F (-1 : Int32) σ1) fun σ2 =>
    p_X12_fillRows_34 l1 l2 n (l3 + (1 : Int32)) σ2) else (some σ)

noncomputable def f_X12_fillRows (l1 : Int32) (l2 : Int32) (σ : j_G) : Option j_G :=
  j_b1 (p_X12_fillRows_2 l1 l2 j_F (0 : Int32) σ) fun σ1 =>
  j_b1 (p_X12_fillRows_34 l1 l2 j_F (0 : Int32) σ1) fun σ2 =>
  some σ2
theorem l_X12_fillRows_2 {d : Nat} (hd : 2 ≤ d) (τ : j_G) (l1 : Int32) (l2 : Int32) : ∀ (n : Nat) (l3 : Int32) (σ : j_G), j_J false τ M_cX12_fillRows d 2 [some (.ref 75), some (.int l1), some (.int l2), some (.int l3), none, none, none, none, none] [] σ (p_X12_fillRows_2 l1 l2 n l3 σ) (fun r Q => j_Tr false τ M_cX12_fillRows d 32 [some (.ref 75), some (.int l1), some (.int l2), none, none, none, none, none, none] [] r Q) := by
  intro n
  induction n with
  | zero => intro l3 σ; exact j_none
  | succ n ih =>
    intro l3 σ
    unfold p_X12_fillRows_2
    refine j_iload_n (pc' := 3) rfl rfl rfl ?_
    refine j_aload_n (pc' := 4) rfl rfl rfl ?_
    refine j_gfr (pc' := 7) (x := 91) rfl rfl j_a75 rfl rfl ?_
    refine j_alen (pc' := 8) (v := (169 : Int32)) rfl rfl j_a91 rfl ?_
    refine j_two (pT := 11) (pF := 32) (L1 := [some (.ref 75), some (.int l1), some (.int l2), some (.int l3), none, none, none, none, none]) (st1 := []) (fun o kT kF => ?_) (fun h3 => ?_) (fun h3 => ?_)
    · refine j_icge (t := 32) (pc' := 11) rfl rfl rfl (fun h4 => ?_) (fun h4 => ?_)
      · exact kF h4
      · exact kT h4
    · refine j_aload_n (pc' := 12) rfl rfl rfl ?_
      refine j_gfr (pc' := 15) (x := 91) rfl rfl j_a75 rfl rfl ?_
      refine j_iload_n (pc' := 16) rfl rfl rfl ?_
      refine j_iload_n (pc' := 17) rfl rfl rfl ?_
      refine j_ql (Φl := (fun r Q => j_Tr false τ M_cX12_fillRows d 25 [some (.ref 75), some (.int l1), some (.int l2), some (.int l3), none, none, none, none, none] [.long r, .int l3, .ref 91] σ Q)) ?_ (fun v1 => ?_)
      · refine j_twoT (pT := 20) (pF := 24) (L1 := [some (.ref 75), some (.int l1), some (.int l2), some (.int l3), none, none, none, none, none]) (st1 := [.int l3, .ref 91]) (fun o kT kF => ?_) (fun h1 => ?_) (fun h1 => ?_)
        · refine j_ifne (t := 24) (pc' := 20) rfl rfl rfl (fun h2 => ?_) (fun h2 => ?_)
          · exact kF h2
          · exact kT h2
        · refine j_lconst (pc' := 21) (x := (1 : Int64)) rfl rfl rfl ?_
          refine j_goto (t := 25) rfl rfl ?_
          exact j_end (fun _ h => h)
        · refine j_lconst (pc' := 25) (x := (0 : Int64)) rfl rfl rfl ?_
          exact j_end (fun _ h => h)
      show j_J false τ M_cX12_fillRows d 25 [some (.ref 75), some (.int l1), some (.int l2), some (.int l3), none, none, none, none, none] [.long v1, .int l3, .ref 91] σ _ _
      refine j_last (pc' := 26) rfl rfl j_a91 (fun σ2 => ?_)
      refine j_iincx (pc' := 29) (y := (1 : Int32)) (L' := [some (.ref 75), some (.int l1), some (.int l2), some (.int (l3 + (1 : Int32))), none, none, none, none, none]) rfl rfl rfl rfl rfl ?_
      refine j_goto (t := 2) rfl rfl ?_
      exact ih (l3 + (1 : Int32)) σ2
    · refine j_wk [true, true, true, false, true, true, true, true, true] (L' := [some (.ref 75), some (.int l1), some (.int l2), none, none, none, none, none, none]) rfl ?_
      exact j_end (fun _ h => h)

theorem l_X12_fillRows_42 {d : Nat} (hd : 2 ≤ d) (τ : j_G) (l1 : Int32) (l2 : Int32) (l3 : Int32) : ∀ (n : Nat) (l4 : Int32) (σ : j_G), j_J false τ M_cX12_fillRows d 42 [some (.ref 75), some (.int l1), some (.int l2), some (.int l3), some (.int l4), none, none, none, none] [] σ (p_X12_fillRows_42 l1 l2 l3 n l4 σ) (fun r Q => j_Tr false τ M_cX12_fillRows d 80 [some (.ref 75), some (.int l1), some (.int l2), some (.int l3), none, none, none, none, none] [] r Q) := by
  intro n
  induction n with
  | zero => intro l4 σ; exact j_none
  | succ n ih =>
    intro l4 σ
    unfold p_X12_fillRows_42
    refine j_iload (pc' := 44) rfl rfl rfl ?_
    refine j_aload_n (pc' := 45) rfl rfl rfl ?_
    refine j_gfr (pc' := 48) (x := 91) rfl rfl j_a75 rfl rfl ?_
    refine j_alen (pc' := 49) (v := (169 : Int32)) rfl rfl j_a91 rfl ?_
    refine j_two (pT := 52) (pF := 80) (L1 := [some (.ref 75), some (.int l1), some (.int l2), some (.int l3), some (.int l4), none, none, none, none]) (st1 := []) (fun o kT kF => ?_) (fun h1 => ?_) (fun h1 => ?_)
    · refine j_icge (t := 80) (pc' := 52) rfl rfl rfl (fun h2 => ?_) (fun h2 => ?_)
      · exact kF h2
      · exact kT h2
    · refine j_aload_n (pc' := 53) rfl rfl rfl ?_
      refine j_gfr (pc' := 56) (x := 92) rfl rfl j_a75 rfl rfl ?_
      refine j_iload (pc' := 58) rfl rfl rfl ?_
      refine j_aload_n (pc' := 59) rfl rfl rfl ?_
      refine j_gfr (pc' := 62) (x := 91) rfl rfl j_a75 rfl rfl ?_
      refine j_iload (pc' := 64) rfl rfl rfl ?_
      refine j_lald (pc' := 65) rfl rfl j_a91 ?_
      refine j_last (pc' := 66) rfl rfl j_a92 (fun σ1 => ?_)
      refine j_aload_n (pc' := 67) rfl rfl rfl ?_
      refine j_gfr (pc' := 70) (x := 91) rfl rfl j_a75 rfl rfl ?_
      refine j_iload (pc' := 72) rfl rfl rfl ?_
      refine j_lconst (pc' := 73) (x := (0 : Int64)) rfl rfl rfl ?_
      refine j_last (pc' := 74) rfl rfl j_a91 (fun σ2 => ?_)
      refine j_iincx (pc' := 77) (y := (1 : Int32)) (L' := [some (.ref 75), some (.int l1), some (.int l2), some (.int l3), some (.int (l4 + (1 : Int32))), none, none, none, none]) rfl rfl rfl rfl rfl ?_
      refine j_goto (t := 42) rfl rfl ?_
      exact ih (l4 + (1 : Int32)) σ2
    · refine j_wk [true, true, true, true, false, true, true, true, true] (L' := [some (.ref 75), some (.int l1), some (.int l2), some (.int l3), none, none, none, none, none]) rfl ?_
      exact j_end (fun _ h => h)

theorem l_X12_fillRows_136 {d : Nat} (hd : 2 ≤ d) (τ : j_G) (l1 : Int32) (l2 : Int32) (l3 : Int32) (l4 : Int32) (l5 : Int32) (l6 : Int64) : ∀ (n : Nat) (l8 : Int32) (σ : j_G), j_J false τ M_cX12_fillRows d 136 [some (.ref 75), some (.int l1), some (.int l2), some (.int l3), some (.int l4), some (.int l5), some (.long l6), none, some (.int l8)] [] σ (p_X12_fillRows_136 l1 l2 l3 l4 l5 l6 n l8 σ) (fun r Q => j_Tr false τ M_cX12_fillRows d 187 [some (.ref 75), some (.int l1), some (.int l2), some (.int l3), some (.int l4), some (.int l5), none, none, none] [] r Q) := by
  intro n
  induction n with
  | zero => intro l8 σ; exact j_none
  | succ n ih =>
    intro l8 σ
    unfold p_X12_fillRows_136
    refine j_iload (pc' := 138) rfl rfl rfl ?_
    refine j_aload_n (pc' := 139) rfl rfl rfl ?_
    refine j_callPi (pc' := 142) (ai := 200) (vs := [.ref 75]) (rest := [.int l8]) rfl rfl (fun _ _ => rfl) (c_X12_holes  σ) (j_dd rfl hd) rfl (fun v1 => ?_)
    refine j_two (pT := 145) (pF := 187) (L1 := [some (.ref 75), some (.int l1), some (.int l2), some (.int l3), some (.int l4), some (.int l5), some (.long l6), none, some (.int l8)]) (st1 := []) (fun o kT kF => ?_) (fun h3 => ?_) (fun h3 => ?_)
    · refine j_icge (t := 187) (pc' := 145) rfl rfl rfl (fun h4 => ?_) (fun h4 => ?_)
      · exact kF h4
      · exact kT h4
    · refine j_aload_n (pc' := 146) rfl rfl rfl ?_
      refine j_iload_n (pc' := 147) rfl rfl rfl ?_
      refine j_iload (pc' := 149) rfl rfl rfl ?_
      refine j_iload (pc' := 151) rfl rfl rfl ?_
      refine j_iload (pc' := 153) rfl rfl rfl ?_
      refine j_callPi (pc' := 156) (ai := 290) (vs := [.ref 75, .int l1, .int l8, .int l4, .int l5]) (rest := []) rfl rfl (fun _ _ => rfl) (c_X12_lets l1 l8 l4 l5 σ) (j_dd rfl hd) rfl (fun v2 => ?_)
      refine j_q1 (Φl := (fun r Q => j_Tr false τ M_cX12_fillRows d 181 [some (.ref 75), some (.int l1), some (.int l2), some (.int l3), some (.int l4), some (.int l5), some (.long l6), none, some (.int l8)] [] r Q)) ?_ (fun σ3 => ?_)
      · refine j_two (pT := 159) (pF := 181) (L1 := [some (.ref 75), some (.int l1), some (.int l2), some (.int l3), some (.int l4), some (.int l5), some (.long l6), none, some (.int l8)]) (st1 := []) (fun o kT kF => ?_) (fun h1 => ?_) (fun h1 => ?_)
        · refine j_ifeq (t := 181) (pc' := 159) rfl rfl rfl (fun h2 => ?_) (fun h2 => ?_)
          · exact kF (fun z => z h2)
          · exact kT h2
        · refine j_aload_n (pc' := 160) rfl rfl rfl ?_
          refine j_gfr (pc' := 163) (x := 91) rfl rfl j_a75 rfl rfl ?_
          refine j_bipush (pc' := 165) (x := (13 : Int32)) rfl rfl rfl ?_
          refine j_iload (pc' := 167) rfl rfl rfl ?_
          refine j_iconst (pc' := 168) (x := (1 : Int32)) rfl rfl rfl ?_
          refine j_iadd (pc' := 169) rfl rfl ?_
          refine j_imul (pc' := 170) rfl rfl ?_
          refine j_iload (pc' := 172) rfl rfl rfl ?_
          refine j_iadd (pc' := 173) rfl rfl ?_
          refine j_iconst (pc' := 174) (x := (1 : Int32)) rfl rfl rfl ?_
          refine j_iadd (pc' := 175) rfl rfl ?_
          refine j_dup2 (pc' := 176) rfl rfl rfl rfl ?_
          refine j_lald (pc' := 177) rfl rfl j_a91 ?_
          refine j_lload (pc' := 179) rfl rfl rfl ?_
          refine j_ladd (pc' := 180) rfl rfl ?_
          refine j_last (pc' := 181) rfl rfl j_a91 (fun σ4 => ?_)
          exact j_end (fun _ h => h)
        · exact j_end (fun _ h => h)
      show j_J false τ M_cX12_fillRows d 181 [some (.ref 75), some (.int l1), some (.int l2), some (.int l3), some (.int l4), some (.int l5), some (.long l6), none, some (.int l8)] [] σ3 _ _
      refine j_iincx (pc' := 184) (y := (1 : Int32)) (L' := [some (.ref 75), some (.int l1), some (.int l2), some (.int l3), some (.int l4), some (.int l5), some (.long l6), none, some (.int (l8 + (1 : Int32)))]) rfl rfl rfl rfl rfl ?_
      refine j_goto (t := 136) rfl rfl ?_
      exact ih (l8 + (1 : Int32)) σ3
    · refine j_wk [true, true, true, true, true, true, false, true, false] (L' := [some (.ref 75), some (.int l1), some (.int l2), some (.int l3), some (.int l4), some (.int l5), none, none, none]) rfl ?_
      exact j_end (fun _ h => h)

theorem l_X12_fillRows_95 {d : Nat} (hd : 2 ≤ d) (τ : j_G) (l1 : Int32) (l2 : Int32) (l3 : Int32) (l4 : Int32) : ∀ (n : Nat) (l5 : Int32) (σ : j_G), j_J false τ M_cX12_fillRows d 95 [some (.ref 75), some (.int l1), some (.int l2), some (.int l3), some (.int l4), some (.int l5), none, none, none] [] σ (p_X12_fillRows_95 l1 l2 l3 l4 n l5 σ) (fun r Q => j_Tr false τ M_cX12_fillRows d 193 [some (.ref 75), some (.int l1), some (.int l2), some (.int l3), some (.int l4), none, none, none, none] [] r Q) := by
  intro n
  induction n with
  | zero => intro l5 σ; exact j_none
  | succ n ih =>
    intro l5 σ
    unfold p_X12_fillRows_95
    refine j_iload (pc' := 97) rfl rfl rfl ?_
    refine j_aload_n (pc' := 98) rfl rfl rfl ?_
    refine j_callPi (pc' := 101) (ai := 200) (vs := [.ref 75]) (rest := [.int l5]) rfl rfl (fun _ _ => rfl) (c_X12_holes  σ) (j_dd rfl hd) rfl (fun v1 => ?_)
    refine j_two (pT := 104) (pF := 193) (L1 := [some (.ref 75), some (.int l1), some (.int l2), some (.int l3), some (.int l4), some (.int l5), none, none, none]) (st1 := []) (fun o kT kF => ?_) (fun h3 => ?_) (fun h3 => ?_)
    · refine j_icge (t := 193) (pc' := 104) rfl rfl rfl (fun h4 => ?_) (fun h4 => ?_)
      · exact kF h4
      · exact kT h4
    · refine j_aload_n (pc' := 105) rfl rfl rfl ?_
      refine j_gfr (pc' := 108) (x := 92) rfl rfl j_a75 rfl rfl ?_
      refine j_bipush (pc' := 110) (x := (13 : Int32)) rfl rfl rfl ?_
      refine j_iload (pc' := 112) rfl rfl rfl ?_
      refine j_iconst (pc' := 113) (x := (1 : Int32)) rfl rfl rfl ?_
      refine j_iadd (pc' := 114) rfl rfl ?_
      refine j_imul (pc' := 115) rfl rfl ?_
      refine j_iload (pc' := 117) rfl rfl rfl ?_
      refine j_iadd (pc' := 118) rfl rfl ?_
      refine j_iconst (pc' := 119) (x := (1 : Int32)) rfl rfl rfl ?_
      refine j_iadd (pc' := 120) rfl rfl ?_
      refine j_lald (pc' := 121) rfl rfl j_a92 ?_
      refine j_letl (fun v2 => ?_)
      refine j_lstore (pc' := 123) (L' := [some (.ref 75), some (.int l1), some (.int l2), some (.int l3), some (.int l4), some (.int l5), some (.long v2), none, none]) rfl rfl rfl ?_
      refine j_lload (pc' := 125) rfl rfl rfl ?_
      refine j_lconst (pc' := 126) (x := (0 : Int64)) rfl rfl rfl ?_
      refine j_lcmp (pc' := 127) rfl rfl ?_
      refine j_q1 (Φl := (fun r Q => j_Tr false τ M_cX12_fillRows d 187 [some (.ref 75), some (.int l1), some (.int l2), some (.int l3), some (.int l4), some (.int l5), none, none, none] [] r Q)) ?_ (fun σ3 => ?_)
      · refine j_two (pT := 130) (pF := 133) (L1 := [some (.ref 75), some (.int l1), some (.int l2), some (.int l3), some (.int l4), some (.int l5), some (.long v2), none, none]) (st1 := []) (fun o kT kF => ?_) (fun h1 => ?_) (fun h1 => ?_)
        · refine j_ifneL (t := 133) (pc' := 130) rfl rfl rfl (fun h2 => ?_) (fun h2 => ?_)
          · exact kF h2
          · exact kT h2
        · refine j_goto (t := 187) rfl rfl ?_
          refine j_wk [true, true, true, true, true, true, false, true, true] (L' := [some (.ref 75), some (.int l1), some (.int l2), some (.int l3), some (.int l4), some (.int l5), none, none, none]) rfl ?_
          exact j_end (fun _ h => h)
        · refine j_iconst (pc' := 134) (x := (0 : Int32)) rfl rfl rfl ?_
          refine j_istore (pc' := 136) (L' := [some (.ref 75), some (.int l1), some (.int l2), some (.int l3), some (.int l4), some (.int l5), some (.long v2), none, some (.int (0 : Int32))]) rfl rfl rfl ?_
          refine j_q1 (l_X12_fillRows_136 hd τ l1 l2 l3 l4 l5 v2 j_F (0 : Int32) σ) (fun σ4 => ?_)
          show j_J false τ M_cX12_fillRows d 187 [some (.ref 75), some (.int l1), some (.int l2), some (.int l3), some (.int l4), some (.int l5), none, none, none] [] σ4 _ _
          exact j_end (fun _ h => h)
      show j_J false τ M_cX12_fillRows d 187 [some (.ref 75), some (.int l1), some (.int l2), some (.int l3), some (.int l4), some (.int l5), none, none, none] [] σ3 _ _
      refine j_iincx (pc' := 190) (y := (1 : Int32)) (L' := [some (.ref 75), some (.int l1), some (.int l2), some (.int l3), some (.int l4), some (.int (l5 + (1 : Int32))), none, none, none]) rfl rfl rfl rfl rfl ?_
      refine j_goto (t := 95) rfl rfl ?_
      exact ih (l5 + (1 : Int32)) σ3
    · refine j_wk [true, true, true, true, true, false, true, true, true] (L' := [some (.ref 75), some (.int l1), some (.int l2), some (.int l3), some (.int l4), none, none, none, none]) rfl ?_
      exact j_end (fun _ h => h)

theorem l_X12_fillRows_83 {d : Nat} (hd : 2 ≤ d) (τ : j_G) (l1 : Int32) (l2 : Int32) (l3 : Int32) : ∀ (n : Nat) (l4 : Int32) (σ : j_G), j_J false τ M_cX12_fillRows d 83 [some (.ref 75), some (.int l1), some (.int l2), some (.int l3), some (.int l4), none, none, none, none] [] σ (p_X12_fillRows_83 l1 l2 l3 n l4 σ) (fun r Q => j_Tr false τ M_cX12_fillRows d 199 [some (.ref 75), some (.int l1), some (.int l2), some (.int l3), none, none, none, none, none] [] r Q) := by
  intro n
  induction n with
  | zero => intro l4 σ; exact j_none
  | succ n ih =>
    intro l4 σ
    unfold p_X12_fillRows_83
    refine j_iload (pc' := 85) rfl rfl rfl ?_
    refine j_aload_n (pc' := 86) rfl rfl rfl ?_
    refine j_callPi (pc' := 89) (ai := 200) (vs := [.ref 75]) (rest := [.int l4]) rfl rfl (fun _ _ => rfl) (c_X12_holes  σ) (j_dd rfl hd) rfl (fun v1 => ?_)
    refine j_two (pT := 92) (pF := 199) (L1 := [some (.ref 75), some (.int l1), some (.int l2), some (.int l3), some (.int l4), none, none, none, none]) (st1 := []) (fun o kT kF => ?_) (fun h1 => ?_) (fun h1 => ?_)
    · refine j_icge (t := 199) (pc' := 92) rfl rfl rfl (fun h2 => ?_) (fun h2 => ?_)
      · exact kF h2
      · exact kT h2
    · refine j_iconst (pc' := 93) (x := (-1 : Int32)) rfl rfl rfl ?_
      refine j_istore (pc' := 95) (L' := [some (.ref 75), some (.int l1), some (.int l2), some (.int l3), some (.int l4), some (.int (-1 : Int32)), none, none, none]) rfl rfl rfl ?_
      refine j_q1 (l_X12_fillRows_95 hd τ l1 l2 l3 l4 j_F (-1 : Int32) σ) (fun σ2 => ?_)
      show j_J false τ M_cX12_fillRows d 193 [some (.ref 75), some (.int l1), some (.int l2), some (.int l3), some (.int l4), none, none, none, none] [] σ2 _ _
      refine j_iincx (pc' := 196) (y := (1 : Int32)) (L' := [some (.ref 75), some (.int l1), some (.int l2), some (.int l3), some (.int (l4 + (1 : Int32))), none, none, none, none]) rfl rfl rfl rfl rfl ?_
      refine j_goto (t := 83) rfl rfl ?_
      exact ih (l4 + (1 : Int32)) σ2
    · refine j_wk [true, true, true, true, false, true, true, true, true] (L' := [some (.ref 75), some (.int l1), some (.int l2), some (.int l3), none, none, none, none, none]) rfl ?_
      exact j_end (fun _ h => h)

theorem l_X12_fillRows_34 {d : Nat} (hd : 2 ≤ d) (τ : j_G) (l1 : Int32) (l2 : Int32) : ∀ (n : Nat) (l3 : Int32) (σ : j_G), j_J false τ M_cX12_fillRows d 34 [some (.ref 75), some (.int l1), some (.int l2), some (.int l3), none, none, none, none, none] [] σ (p_X12_fillRows_34 l1 l2 n l3 σ) (fun r Q => j_Tr false τ M_cX12_fillRows d 205 [none, none, none, none, none, none, none, none, none] [] r Q) := by
  intro n
  induction n with
  | zero => intro l3 σ; exact j_none
  | succ n ih =>
    intro l3 σ
    unfold p_X12_fillRows_34
    refine j_iload_n (pc' := 35) rfl rfl rfl ?_
    refine j_iload_n (pc' := 36) rfl rfl rfl ?_
    refine j_two (pT := 39) (pF := 205) (L1 := [some (.ref 75), some (.int l1), some (.int l2), some (.int l3), none, none, none, none, none]) (st1 := []) (fun o kT kF => ?_) (fun h1 => ?_) (fun h1 => ?_)
    · refine j_icge (t := 205) (pc' := 39) rfl rfl rfl (fun h2 => ?_) (fun h2 => ?_)
      · exact kF h2
      · exact kT h2
    · refine j_iconst (pc' := 40) (x := (0 : Int32)) rfl rfl rfl ?_
      refine j_istore (pc' := 42) (L' := [some (.ref 75), some (.int l1), some (.int l2), some (.int l3), some (.int (0 : Int32)), none, none, none, none]) rfl rfl rfl ?_
      refine j_q1 (l_X12_fillRows_42 hd τ l1 l2 l3 j_F (0 : Int32) σ) (fun σ1 => ?_)
      show j_J false τ M_cX12_fillRows d 80 [some (.ref 75), some (.int l1), some (.int l2), some (.int l3), none, none, none, none, none] [] σ1 _ _
      refine j_iconst (pc' := 81) (x := (-1 : Int32)) rfl rfl rfl ?_
      refine j_istore (pc' := 83) (L' := [some (.ref 75), some (.int l1), some (.int l2), some (.int l3), some (.int (-1 : Int32)), none, none, none, none]) rfl rfl rfl ?_
      refine j_q1 (l_X12_fillRows_83 hd τ l1 l2 l3 j_F (-1 : Int32) σ1) (fun σ2 => ?_)
      show j_J false τ M_cX12_fillRows d 199 [some (.ref 75), some (.int l1), some (.int l2), some (.int l3), none, none, none, none, none] [] σ2 _ _
      refine j_iincx (pc' := 202) (y := (1 : Int32)) (L' := [some (.ref 75), some (.int l1), some (.int l2), some (.int (l3 + (1 : Int32))), none, none, none, none, none]) rfl rfl rfl rfl rfl ?_
      refine j_goto (t := 34) rfl rfl ?_
      exact ih (l3 + (1 : Int32)) σ2
    · refine j_wk [false, false, false, false, true, true, true, true, true] (L' := [none, none, none, none, none, none, none, none, none]) rfl ?_
      exact j_end (fun _ h => h)

theorem c_X12_fillRows (l1 : Int32) (l2 : Int32) (σ : j_G) : j_K false 2 291 [.ref 75, .int l1, .int l2] σ (f_X12_fillRows l1 l2 σ) j_Rv := by
  refine j_mkK (M := M_cX12_fillRows) (L := [some (.ref 75), some (.int l1), some (.int l2), none, none, none, none, none, none]) (m := 6) t_291 rfl (j_rcvO j_a75 rfl) rfl (fun d hd τ => ?_)
  unfold f_X12_fillRows
  refine j_iconst (pc' := 1) (x := (0 : Int32)) rfl rfl rfl ?_
  refine j_istore_n (pc' := 2) (L' := [some (.ref 75), some (.int l1), some (.int l2), some (.int (0 : Int32)), none, none, none, none, none]) rfl rfl rfl ?_
  refine j_q1 (l_X12_fillRows_2 hd τ l1 l2 j_F (0 : Int32) σ) (fun σ1 => ?_)
  show j_J false τ M_cX12_fillRows d 32 [some (.ref 75), some (.int l1), some (.int l2), none, none, none, none, none, none] [] σ1 _ _
  refine j_iconst (pc' := 33) (x := (0 : Int32)) rfl rfl rfl ?_
  refine j_istore_n (pc' := 34) (L' := [some (.ref 75), some (.int l1), some (.int l2), some (.int (0 : Int32)), none, none, none, none, none]) rfl rfl rfl ?_
  refine j_q1 (l_X12_fillRows_34 hd τ l1 l2 j_F (0 : Int32) σ1) (fun σ2 => ?_)
  show j_J false τ M_cX12_fillRows d 205 [none, none, none, none, none, none, none, none, none] [] σ2 _ _
  exact j_ret rfl rfl rfl (fun _ h => h)

noncomputable def p_X12_endingIn_5 (l1 : Int32) (σ : j_G) : Nat → Int64 → Int32 → Option Int64
  | 0, _, _ => none
  | n + 1, l2, l4 =>
    if l4 < (13 : Int32) then (j_ix (((13 : Int32) * (l1 + (1 : Int32))) + l4) 169 (
    j_lt (l2 + (σ.2 91 ((((13 : Int32) * (l1 + (1 : Int32))) + l4)).toNatClampNeg)) fun v1 =>
    p_X12_endingIn_5 l1 σ n v1 (l4 + (1 : Int32)))) else (some l2)

noncomputable def f_X12_endingIn (l1 : Int32) (σ : j_G) : Option Int64 :=
  j_b1 (p_X12_endingIn_5 l1 σ j_F (0 : Int64) (0 : Int32)) fun v1 =>
  some v1
theorem l_X12_endingIn_5 {d : Nat} (hd : 0 ≤ d) (τ : j_G) (l1 : Int32) (σ : j_G) : ∀ (n : Nat) (l2 : Int64) (l4 : Int32), j_J false τ M_cX12_endingIn d 5 [some (.ref 75), some (.int l1), some (.long l2), none, some (.int l4)] [] σ (p_X12_endingIn_5 l1 σ n l2 l4) (fun r Q => j_Tr false τ M_cX12_endingIn d 35 [none, none, some (.long r), none, none] [] σ Q) := by
  intro n
  induction n with
  | zero => intro l2 l4; exact j_none
  | succ n ih =>
    intro l2 l4
    unfold p_X12_endingIn_5
    refine j_iload (pc' := 7) rfl rfl rfl ?_
    refine j_bipush (pc' := 9) (x := (13 : Int32)) rfl rfl rfl ?_
    refine j_two (pT := 12) (pF := 35) (L1 := [some (.ref 75), some (.int l1), some (.long l2), none, some (.int l4)]) (st1 := []) (fun o kT kF => ?_) (fun h1 => ?_) (fun h1 => ?_)
    · refine j_icge (t := 35) (pc' := 12) rfl rfl rfl (fun h2 => ?_) (fun h2 => ?_)
      · exact kF h2
      · exact kT h2
    · refine j_lload_n (pc' := 13) rfl rfl rfl ?_
      refine j_aload_n (pc' := 14) rfl rfl rfl ?_
      refine j_gfr (pc' := 17) (x := 91) rfl rfl j_a75 rfl rfl ?_
      refine j_bipush (pc' := 19) (x := (13 : Int32)) rfl rfl rfl ?_
      refine j_iload_n (pc' := 20) rfl rfl rfl ?_
      refine j_iconst (pc' := 21) (x := (1 : Int32)) rfl rfl rfl ?_
      refine j_iadd (pc' := 22) rfl rfl ?_
      refine j_imul (pc' := 23) rfl rfl ?_
      refine j_iload (pc' := 25) rfl rfl rfl ?_
      refine j_iadd (pc' := 26) rfl rfl ?_
      refine j_lald (pc' := 27) rfl rfl j_a91 ?_
      refine j_ladd (pc' := 28) rfl rfl ?_
      refine j_letl (fun v1 => ?_)
      refine j_lstore_n (pc' := 29) (L' := [some (.ref 75), some (.int l1), some (.long v1), none, some (.int l4)]) rfl rfl rfl ?_
      refine j_iincx (pc' := 32) (y := (1 : Int32)) (L' := [some (.ref 75), some (.int l1), some (.long v1), none, some (.int (l4 + (1 : Int32)))]) rfl rfl rfl rfl rfl ?_
      refine j_goto (t := 5) rfl rfl ?_
      exact ih v1 (l4 + (1 : Int32))
    · refine j_wk [false, false, true, true, false] (L' := [none, none, some (.long l2), none, none]) rfl ?_
      exact j_end (fun _ h => h)

theorem c_X12_endingIn (l1 : Int32) (σ : j_G) : j_K false 0 292 [.ref 75, .int l1] σ (f_X12_endingIn l1 σ) (j_Pl σ) := by
  refine j_mkK (M := M_cX12_endingIn) (L := [some (.ref 75), some (.int l1), none, none, none]) (m := 3) t_292 rfl (j_rcvO j_a75 rfl) rfl (fun d hd τ => ?_)
  unfold f_X12_endingIn
  refine j_lconst (pc' := 1) (x := (0 : Int64)) rfl rfl rfl ?_
  refine j_lstore_n (pc' := 2) (L' := [some (.ref 75), some (.int l1), some (.long (0 : Int64)), none, none]) rfl rfl rfl ?_
  refine j_iconst (pc' := 3) (x := (0 : Int32)) rfl rfl rfl ?_
  refine j_istore (pc' := 5) (L' := [some (.ref 75), some (.int l1), some (.long (0 : Int64)), none, some (.int (0 : Int32))]) rfl rfl rfl ?_
  refine j_q1 (l_X12_endingIn_5 hd τ l1 σ j_F (0 : Int64) (0 : Int32)) (fun v1 => ?_)
  show j_J false τ M_cX12_endingIn d 35 [none, none, some (.long v1), none, none] [] σ _ _
  refine j_lload_n (pc' := 36) rfl rfl rfl ?_
  exact j_ret rfl rfl rfl (fun _ h => h)

noncomputable def p_X12_rows_41 (σ : j_G) : Nat → Int64 → Int32 → Option Int64
  | 0, _, _ => none
  | n + 1, l3, l5 =>
    j_b1 (f_X12_holes σ) fun v1 =>
    if l5 < v1 then (j_b1 (f_X12_endingIn l5 σ) fun v2 =>
    j_lt (l3 + v2) fun v3 =>
    p_X12_rows_41 σ n v3 (l5 + (1 : Int32))) else (some l3)

noncomputable def f_X12_rows (l1 : Int32) (l2 : Int32) (σ : j_G) : Option (Int64 × j_G) :=
  j_b1 (f_X12_isBoard σ) fun v1 =>
  if (v1 = 0) ∨ (((f_X12_isLaw l1) = 0) ∨ ((f_X12_in (l2).toInt64 (1 : Int64) (12 : Int64)) = 0)) then (some ((-2 : Int64), σ)) else (j_b1 (f_X12_fillRows l1 l2 σ) fun σ2 =>
  j_b1 (p_X12_rows_41 σ2 j_F (0 : Int64) (0 : Int32)) fun v3 =>
  some (v3, σ2))
theorem l_X12_rows_41 {d : Nat} (hd : 3 ≤ d) (τ : j_G) (σ : j_G) : ∀ (n : Nat) (l3 : Int64) (l5 : Int32), j_J false τ M_cX12_rows d 41 [some (.ref 75), none, none, some (.long l3), none, some (.int l5)] [] σ (p_X12_rows_41 σ n l3 l5) (fun r Q => j_Tr false τ M_cX12_rows d 65 [none, none, none, some (.long r), none, none] [] σ Q) := by
  intro n
  induction n with
  | zero => intro l3 l5; exact j_none
  | succ n ih =>
    intro l3 l5
    unfold p_X12_rows_41
    refine j_iload (pc' := 43) rfl rfl rfl ?_
    refine j_aload_n (pc' := 44) rfl rfl rfl ?_
    refine j_callPi (pc' := 47) (ai := 200) (vs := [.ref 75]) (rest := [.int l5]) rfl rfl (fun _ _ => rfl) (c_X12_holes  σ) (j_dd rfl hd) rfl (fun v1 => ?_)
    refine j_two (pT := 50) (pF := 65) (L1 := [some (.ref 75), none, none, some (.long l3), none, some (.int l5)]) (st1 := []) (fun o kT kF => ?_) (fun h1 => ?_) (fun h1 => ?_)
    · refine j_icge (t := 65) (pc' := 50) rfl rfl rfl (fun h2 => ?_) (fun h2 => ?_)
      · exact kF h2
      · exact kT h2
    · refine j_lload_n (pc' := 51) rfl rfl rfl ?_
      refine j_aload_n (pc' := 52) rfl rfl rfl ?_
      refine j_iload (pc' := 54) rfl rfl rfl ?_
      refine j_callPl (pc' := 57) (ai := 292) (vs := [.ref 75, .int l5]) (rest := [.long l3]) rfl rfl (fun _ _ => rfl) (c_X12_endingIn l5 σ) (j_dd rfl hd) rfl (fun v2 => ?_)
      refine j_ladd (pc' := 58) rfl rfl ?_
      refine j_letl (fun v3 => ?_)
      refine j_lstore_n (pc' := 59) (L' := [some (.ref 75), none, none, some (.long v3), none, some (.int l5)]) rfl rfl rfl ?_
      refine j_iincx (pc' := 62) (y := (1 : Int32)) (L' := [some (.ref 75), none, none, some (.long v3), none, some (.int (l5 + (1 : Int32)))]) rfl rfl rfl rfl rfl ?_
      refine j_goto (t := 41) rfl rfl ?_
      exact ih v3 (l5 + (1 : Int32))
    · refine j_wk [false, true, true, true, true, false] (L' := [none, none, none, some (.long l3), none, none]) rfl ?_
      exact j_end (fun _ h => h)

theorem c_X12_rows (l1 : Int32) (l2 : Int32) (σ : j_G) : j_K false 3 293 [.ref 75, .int l1, .int l2] σ (f_X12_rows l1 l2 σ) j_Rl := by
  refine j_mkK (M := M_cX12_rows) (L := [some (.ref 75), some (.int l1), some (.int l2), none, none, none]) (m := 3) t_293 rfl (j_rcvO j_a75 rfl) rfl (fun d hd τ => ?_)
  unfold f_X12_rows
  refine j_aload_n (pc' := 1) rfl rfl rfl ?_
  refine j_callPi (pc' := 4) (ai := 199) (vs := [.ref 75]) (rest := []) rfl rfl (fun _ _ => rfl) (c_X12_isBoard  σ) (j_dd rfl hd) rfl (fun v1 => ?_)
  refine j_two (pT := 26) (pF := 30) (L1 := [some (.ref 75), some (.int l1), some (.int l2), none, none, none]) (st1 := []) (fun o kT kF => ?_) (fun h1 => ?_) (fun h1 => ?_)
  · refine j_ifeq (t := 26) (pc' := 7) rfl rfl rfl (fun h2 => ?_) (fun h2 => ?_)
    · exact kT (Or.inl h2)
    · refine j_iload_n (pc' := 8) rfl rfl rfl ?_
      refine j_callTi (pc' := 11) (ai := 289) (vs := [.int l1]) (rest := []) rfl rfl (fun _ _ => rfl) (c_X12_isLaw l1 σ) (j_dd rfl hd) rfl ?_
      refine j_ifeq (t := 26) (pc' := 14) rfl rfl rfl (fun h3 => ?_) (fun h3 => ?_)
      · exact kT (Or.inr (Or.inl h3))
      · refine j_iload_n (pc' := 15) rfl rfl rfl ?_
        refine j_i2l (pc' := 16) rfl rfl ?_
        refine j_lconst (pc' := 17) (x := (1 : Int64)) rfl rfl rfl ?_
        refine j_ldc2_w (pc' := 20) (x := (12 : Int64)) rfl rfl rfl ?_
        refine j_callTi (pc' := 23) (ai := 196) (vs := [.long (l2).toInt64, .long (1 : Int64), .long (12 : Int64)]) (rest := []) rfl rfl (fun _ _ => rfl) (c_X12_in (l2).toInt64 (1 : Int64) (12 : Int64) σ) (j_dd rfl hd) rfl ?_
        refine j_ifne (t := 30) (pc' := 26) rfl rfl rfl (fun h4 => ?_) (fun h4 => ?_)
        · exact kF (fun z => z.elim h2 (fun z => z.elim h3 (h4)))
        · exact kT (Or.inr (Or.inr (h4)))
  · refine j_ldc2_w (pc' := 29) (x := (-2 : Int64)) rfl rfl rfl ?_
    exact j_ret rfl rfl rfl (fun _ h => h)
  · refine j_aload_n (pc' := 31) rfl rfl rfl ?_
    refine j_iload_n (pc' := 32) rfl rfl rfl ?_
    refine j_iload_n (pc' := 33) rfl rfl rfl ?_
    refine j_callRv (pc' := 36) (ai := 291) (vs := [.ref 75, .int l1, .int l2]) (rest := []) rfl rfl (fun _ _ => rfl) (c_X12_fillRows l1 l2 σ) (j_dd rfl hd) rfl (fun σ2 => ?_)
    refine j_lconst (pc' := 37) (x := (0 : Int64)) rfl rfl rfl ?_
    refine j_lstore_n (pc' := 38) (L' := [some (.ref 75), some (.int l1), some (.int l2), some (.long (0 : Int64)), none, none]) rfl rfl rfl ?_
    refine j_iconst (pc' := 39) (x := (0 : Int32)) rfl rfl rfl ?_
    refine j_istore (pc' := 41) (L' := [some (.ref 75), some (.int l1), some (.int l2), some (.long (0 : Int64)), none, some (.int (0 : Int32))]) rfl rfl rfl ?_
    refine j_wk [true, false, false, true, true, true] (L' := [some (.ref 75), none, none, some (.long (0 : Int64)), none, some (.int (0 : Int32))]) rfl ?_
    refine j_q1 (l_X12_rows_41 hd τ σ2 j_F (0 : Int64) (0 : Int32)) (fun v3 => ?_)
    show j_J false τ M_cX12_rows d 65 [none, none, none, some (.long v3), none, none] [] σ2 _ _
    refine j_lload_n (pc' := 66) rfl rfl rfl ?_
    exact j_ret rfl rfl rfl (fun _ h => h)

noncomputable def f_X11_ends (l1 : Int32) (l2 : Int32) (l3 : Int32) (σ : j_G) : Option (Int64 × j_G) :=
  if ¬ (f_X2_isHole 1 l3 σ) = 0 then (j_b2 (f_X11_countLots l1 l2 σ) fun v2 σ1 =>
  if ¬ v2 = 0 then (j_b1 (f_X5_rowsTo l3 σ1) fun v3 =>
  some (v3, σ1)) else (some ((-2 : Int64), σ1))) else (some ((-2 : Int64), σ))
theorem c_X11_ends (l1 : Int32) (l2 : Int32) (l3 : Int32) (σ : j_G) : j_K true 5 145 [.ref 0, .int l1, .int l2, .int l3] σ (f_X11_ends l1 l2 l3 σ) j_Rl := by
  refine j_mkK (M := M_cX11_ends) (L := [some (.ref 0), some (.int l1), some (.int l2), some (.int l3)]) (m := 0) t_145 rfl (j_rcvO j_a0 rfl) rfl (fun d hd τ => ?_)
  unfold f_X11_ends
  refine j_aload_n (pc' := 1) rfl rfl rfl ?_
  refine j_gfr (pc' := 4) (x := 1) rfl rfl j_a0 rfl rfl ?_
  refine j_iload_n (pc' := 5) rfl rfl rfl ?_
  refine j_callTi (pc' := 8) (ai := 13) (vs := [.ref 1, .int l3]) (rest := []) rfl rfl (fun _ _ => rfl) (c_X2_isHole_1 l3 σ) (j_dd rfl hd) rfl ?_
  refine j_two (pT := 11) (pF := 35) (L1 := [some (.ref 0), some (.int l1), some (.int l2), some (.int l3)]) (st1 := []) (fun o kT kF => ?_) (fun h3 => ?_) (fun h3 => ?_)
  · refine j_ifeq (t := 35) (pc' := 11) rfl rfl rfl (fun h4 => ?_) (fun h4 => ?_)
    · exact kF (fun z => z h4)
    · exact kT h4
  · refine j_aload_n (pc' := 12) rfl rfl rfl ?_
    refine j_iload_n (pc' := 13) rfl rfl rfl ?_
    refine j_iload_n (pc' := 14) rfl rfl rfl ?_
    refine j_callRi (pc' := 17) (ai := 192) (vs := [.ref 0, .int l1, .int l2]) (rest := []) rfl rfl (fun _ _ => rfl) (c_X11_countLots l1 l2 σ) (j_dd rfl hd) rfl (fun v2 σ1 => ?_)
    refine j_two (pT := 20) (pF := 35) (L1 := [some (.ref 0), some (.int l1), some (.int l2), some (.int l3)]) (st1 := []) (fun o kT kF => ?_) (fun h1 => ?_) (fun h1 => ?_)
    · refine j_ifeq (t := 35) (pc' := 20) rfl rfl rfl (fun h2 => ?_) (fun h2 => ?_)
      · exact kF (fun z => z h2)
      · exact kT h2
    · refine j_aload_n (pc' := 21) rfl rfl rfl ?_
      refine j_gfr (pc' := 24) (x := 37) rfl rfl j_a0 rfl rfl ?_
      refine j_aload_n (pc' := 25) rfl rfl rfl ?_
      refine j_gfr (pc' := 28) (x := 1) rfl rfl j_a0 rfl rfl ?_
      refine j_iload_n (pc' := 29) rfl rfl rfl ?_
      refine j_callPl (pc' := 32) (ai := 60) (vs := [.ref 37, .ref 1, .int l3]) (rest := []) rfl rfl (fun _ _ => rfl) (c_X5_rowsTo l3 σ1) (j_dd rfl hd) rfl (fun v3 => ?_)
      refine j_goto (t := 38) rfl rfl ?_
      exact j_ret rfl rfl rfl (fun _ h => h)
    · refine j_ldc2_w (pc' := 38) (x := (-2 : Int64)) rfl rfl rfl ?_
      exact j_ret rfl rfl rfl (fun _ h => h)
  · refine j_ldc2_w (pc' := 38) (x := (-2 : Int64)) rfl rfl rfl ?_
    exact j_ret rfl rfl rfl (fun _ h => h)

noncomputable def f_X12_ends (l1 : Int32) (l2 : Int32) (l3 : Int32) (σ : j_G) : Option (Int64 × j_G) :=
  j_b1 (f_X12_isHole (l3).toInt64 σ) fun v1 =>
  if (v1 = 0) ∨ (((f_X12_isLaw l1) = 0) ∨ ((f_X12_in (l2).toInt64 (1 : Int64) (12 : Int64)) = 0)) then (some ((-2 : Int64), σ)) else (j_b1 (f_X12_fillRows l1 l2 σ) fun σ2 =>
  j_b1 (f_X12_endingIn l3 σ2) fun v3 =>
  some (v3, σ2))
theorem c_X12_ends (l1 : Int32) (l2 : Int32) (l3 : Int32) (σ : j_G) : j_K false 3 294 [.ref 75, .int l1, .int l2, .int l3] σ (f_X12_ends l1 l2 l3 σ) j_Rl := by
  refine j_mkK (M := M_cX12_ends) (L := [some (.ref 75), some (.int l1), some (.int l2), some (.int l3)]) (m := 0) t_294 rfl (j_rcvO j_a75 rfl) rfl (fun d hd τ => ?_)
  unfold f_X12_ends
  refine j_aload_n (pc' := 1) rfl rfl rfl ?_
  refine j_iload_n (pc' := 2) rfl rfl rfl ?_
  refine j_i2l (pc' := 3) rfl rfl ?_
  refine j_callPi (pc' := 6) (ai := 201) (vs := [.ref 75, .long (l3).toInt64]) (rest := []) rfl rfl (fun _ _ => rfl) (c_X12_isHole (l3).toInt64 σ) (j_dd rfl hd) rfl (fun v1 => ?_)
  refine j_two (pT := 28) (pF := 32) (L1 := [some (.ref 75), some (.int l1), some (.int l2), some (.int l3)]) (st1 := []) (fun o kT kF => ?_) (fun h1 => ?_) (fun h1 => ?_)
  · refine j_ifeq (t := 28) (pc' := 9) rfl rfl rfl (fun h2 => ?_) (fun h2 => ?_)
    · exact kT (Or.inl h2)
    · refine j_iload_n (pc' := 10) rfl rfl rfl ?_
      refine j_callTi (pc' := 13) (ai := 289) (vs := [.int l1]) (rest := []) rfl rfl (fun _ _ => rfl) (c_X12_isLaw l1 σ) (j_dd rfl hd) rfl ?_
      refine j_ifeq (t := 28) (pc' := 16) rfl rfl rfl (fun h3 => ?_) (fun h3 => ?_)
      · exact kT (Or.inr (Or.inl h3))
      · refine j_iload_n (pc' := 17) rfl rfl rfl ?_
        refine j_i2l (pc' := 18) rfl rfl ?_
        refine j_lconst (pc' := 19) (x := (1 : Int64)) rfl rfl rfl ?_
        refine j_ldc2_w (pc' := 22) (x := (12 : Int64)) rfl rfl rfl ?_
        refine j_callTi (pc' := 25) (ai := 196) (vs := [.long (l2).toInt64, .long (1 : Int64), .long (12 : Int64)]) (rest := []) rfl rfl (fun _ _ => rfl) (c_X12_in (l2).toInt64 (1 : Int64) (12 : Int64) σ) (j_dd rfl hd) rfl ?_
        refine j_ifne (t := 32) (pc' := 28) rfl rfl rfl (fun h4 => ?_) (fun h4 => ?_)
        · exact kF (fun z => z.elim h2 (fun z => z.elim h3 (h4)))
        · exact kT (Or.inr (Or.inr (h4)))
  · refine j_ldc2_w (pc' := 31) (x := (-2 : Int64)) rfl rfl rfl ?_
    exact j_ret rfl rfl rfl (fun _ h => h)
  · refine j_aload_n (pc' := 33) rfl rfl rfl ?_
    refine j_iload_n (pc' := 34) rfl rfl rfl ?_
    refine j_iload_n (pc' := 35) rfl rfl rfl ?_
    refine j_callRv (pc' := 38) (ai := 291) (vs := [.ref 75, .int l1, .int l2]) (rest := []) rfl rfl (fun _ _ => rfl) (c_X12_fillRows l1 l2 σ) (j_dd rfl hd) rfl (fun σ2 => ?_)
    refine j_aload_n (pc' := 39) rfl rfl rfl ?_
    refine j_iload_n (pc' := 40) rfl rfl rfl ?_
    refine j_callPl (pc' := 43) (ai := 292) (vs := [.ref 75, .int l3]) (rest := []) rfl rfl (fun _ _ => rfl) (c_X12_endingIn l3 σ2) (j_dd rfl hd) rfl (fun v3 => ?_)
    exact j_ret rfl rfl rfl (fun _ h => h)

noncomputable def p_X5_isEven_7 (σ : j_G) : Nat → Int64 → Int32 → Option Int32
  | 0, _, _ => none
  | n + 1, l2, l4 =>
    if l4 < (f_X2_holes 1 σ) then (j_lt (fun (v3 : Int64) => (p_X5_isEven_7 σ n v3 (l4 + (1 : Int32)))) fun (k1 : Int64 → Option Int32) =>
    if (f_X2_isShut 1 l4 σ) = 0 then (j_b1 (f_X5_rowsTo l4 σ) fun v2 =>
    if (¬ l2 = (-1 : Int64)) ∧ (¬ v2 = l2) then (some (0 : Int32)) else (k1 v2)) else (k1 l2)) else (some (1 : Int32))

noncomputable def f_X5_isEven (σ : j_G) : Option Int32 :=
  p_X5_isEven_7 σ j_F (-1 : Int64) (0 : Int32)
theorem l_X5_isEven_7 {d : Nat} (hd : 3 ≤ d) (τ : j_G) (σ : j_G) : ∀ (n : Nat) (l2 : Int64) (l4 : Int32), j_J true τ M_cX5_isEven d 7 [some (.ref 37), some (.ref 1), some (.long l2), none, some (.int l4), none, none] [] σ (p_X5_isEven_7 σ n l2 l4) (j_Pi σ) := by
  intro n
  induction n with
  | zero => intro l2 l4; exact j_none
  | succ n ih =>
    intro l2 l4
    unfold p_X5_isEven_7
    refine j_iload (pc' := 9) rfl rfl rfl ?_
    refine j_aload_n (pc' := 10) rfl rfl rfl ?_
    refine j_callTi (pc' := 13) (ai := 12) (vs := [.ref 1]) (rest := [.int l4]) rfl rfl (fun _ _ => rfl) (c_X2_holes_1  σ) (j_dd rfl hd) rfl ?_
    refine j_two (pT := 16) (pF := 60) (L1 := [some (.ref 37), some (.ref 1), some (.long l2), none, some (.int l4), none, none]) (st1 := []) (fun o kT kF => ?_) (fun h6 => ?_) (fun h6 => ?_)
    · refine j_icge (t := 60) (pc' := 16) rfl rfl rfl (fun h7 => ?_) (fun h7 => ?_)
      · exact kF h7
      · exact kT h7
    · refine j_aload_n (pc' := 17) rfl rfl rfl ?_
      refine j_iload (pc' := 19) rfl rfl rfl ?_
      refine j_callTi (pc' := 22) (ai := 16) (vs := [.ref 1, .int l4]) (rest := []) rfl rfl (fun _ _ => rfl) (c_X2_isShut_1 l4 σ) (j_dd rfl hd) rfl ?_
      refine j_jn (P := (fun k => ∀ (v3 : Int64), j_J true τ M_cX5_isEven d 54 [some (.ref 37), some (.ref 1), some (.long v3), none, some (.int l4), none, none] [] σ (k v3) (j_Pi σ))) ?_ (fun k1 k1_h => ?_)
      · intro v3
        refine j_iincx (pc' := 57) (y := (1 : Int32)) (L' := [some (.ref 37), some (.ref 1), some (.long v3), none, some (.int (l4 + (1 : Int32))), none, none]) rfl rfl rfl rfl rfl ?_
        refine j_goto (t := 7) rfl rfl ?_
        exact ih v3 (l4 + (1 : Int32))
      · refine j_two (pT := 25) (pF := 54) (L1 := [some (.ref 37), some (.ref 1), some (.long l2), none, some (.int l4), none, none]) (st1 := []) (fun o kT kF => ?_) (fun h4 => ?_) (fun h4 => ?_)
        · refine j_ifne (t := 54) (pc' := 25) rfl rfl rfl (fun h5 => ?_) (fun h5 => ?_)
          · exact kF h5
          · exact kT h5
        · refine j_aload_n (pc' := 26) rfl rfl rfl ?_
          refine j_aload_n (pc' := 27) rfl rfl rfl ?_
          refine j_iload (pc' := 29) rfl rfl rfl ?_
          refine j_callPl (pc' := 32) (ai := 60) (vs := [.ref 37, .ref 1, .int l4]) (rest := []) rfl rfl (fun _ _ => rfl) (c_X5_rowsTo l4 σ) (j_dd rfl hd) rfl (fun v2 => ?_)
          refine j_lstore (pc' := 34) (L' := [some (.ref 37), some (.ref 1), some (.long l2), none, some (.int l4), some (.long v2), none]) rfl rfl rfl ?_
          refine j_lload_n (pc' := 35) rfl rfl rfl ?_
          refine j_ldc2_w (pc' := 38) (x := (-1 : Int64)) rfl rfl rfl ?_
          refine j_lcmp (pc' := 39) rfl rfl ?_
          refine j_two (pT := 49) (pF := 51) (L1 := [some (.ref 37), some (.ref 1), some (.long l2), none, some (.int l4), some (.long v2), none]) (st1 := []) (fun o kT kF => ?_) (fun h1 => ?_) (fun h1 => ?_)
          · refine j_ifeqL (t := 51) (pc' := 42) rfl rfl rfl (fun h2 => ?_) (fun h2 => ?_)
            · exact kF (fun z => z.1 h2)
            · refine j_lload (pc' := 44) rfl rfl rfl ?_
              refine j_lload_n (pc' := 45) rfl rfl rfl ?_
              refine j_lcmp (pc' := 46) rfl rfl ?_
              refine j_ifeqL (t := 51) (pc' := 49) rfl rfl rfl (fun h3 => ?_) (fun h3 => ?_)
              · exact kF (fun z => (fun z => z h3) z.2)
              · exact kT (⟨h2, h3⟩)
          · refine j_iconst (pc' := 50) (x := (0 : Int32)) rfl rfl rfl ?_
            exact j_ret rfl rfl rfl (fun _ h => h)
          · refine j_lload (pc' := 53) rfl rfl rfl ?_
            refine j_lstore_n (pc' := 54) (L' := [some (.ref 37), some (.ref 1), some (.long v2), none, some (.int l4), some (.long v2), none]) rfl rfl rfl ?_
            refine j_wk [true, true, true, true, true, false, true] (L' := [some (.ref 37), some (.ref 1), some (.long v2), none, some (.int l4), none, none]) rfl ?_
            exact k1_h v2
        · exact k1_h l2
    · refine j_iconst (pc' := 61) (x := (1 : Int32)) rfl rfl rfl ?_
      exact j_ret rfl rfl rfl (fun _ h => h)

theorem c_X5_isEven (σ : j_G) : j_K true 3 62 [.ref 37, .ref 1] σ (f_X5_isEven σ) (j_Pi σ) := by
  refine j_mkK (M := M_cX5_isEven) (L := [some (.ref 37), some (.ref 1), none, none, none, none, none]) (m := 5) t_62 rfl (j_rcvO j_a37 rfl) rfl (fun d hd τ => ?_)
  unfold f_X5_isEven
  refine j_ldc2_w (pc' := 3) (x := (-1 : Int64)) rfl rfl rfl ?_
  refine j_lstore_n (pc' := 4) (L' := [some (.ref 37), some (.ref 1), some (.long (-1 : Int64)), none, none, none, none]) rfl rfl rfl ?_
  refine j_iconst (pc' := 5) (x := (0 : Int32)) rfl rfl rfl ?_
  refine j_istore (pc' := 7) (L' := [some (.ref 37), some (.ref 1), some (.long (-1 : Int64)), none, some (.int (0 : Int32)), none, none]) rfl rfl rfl ?_
  exact (l_X5_isEven_7 hd τ σ j_F (-1 : Int64) (0 : Int32))

noncomputable def p_X11_fair_45 (l1 : Int32) : Nat → Int32 → Int32 → j_G → Option (Int32 × j_G)
  | 0, _, _, _ => none
  | n + 1, l2, l3, σ =>
    if (¬ (12 : Int32) < l3) ∧ (¬ l2 = 0) then (j_b1 (f_X5_grow l1 σ) fun σ1 =>
    j_b1 (f_X5_isEven σ1) fun v2 =>
    p_X11_fair_45 l1 n v2 (l3 + (1 : Int32)) σ1) else (some (l2, σ))

noncomputable def f_X11_fair (l1 : Int32) (σ : j_G) : Option (Int32 × j_G) :=
  if ((f_X2_isTold σ) = 0) ∨ ((f_X11_isLaw l1) = 0) then (some ((-2 : Int32), σ)) else (j_b1 (f_X5_begin σ) fun σ1 =>
  j_b1 (f_X5_isEven σ1) fun v2 =>
  j_b2 (p_X11_fair_45 l1 j_F v2 (2 : Int32) σ1) fun v3 σ4 =>
  if ¬ v3 = 0 then (some ((1 : Int32), σ4)) else (some ((0 : Int32), σ4)))
theorem l_X11_fair_45 {d : Nat} (hd : 4 ≤ d) (τ : j_G) (l1 : Int32) : ∀ (n : Nat) (l2 : Int32) (l3 : Int32) (σ : j_G), j_J true τ M_cX11_fair d 45 [some (.ref 0), some (.int l1), some (.int l2), some (.int l3)] [] σ (p_X11_fair_45 l1 n l2 l3 σ) (fun r Q => j_Tr true τ M_cX11_fair d 85 [none, none, some (.int r.1), none] [] r.2 Q) := by
  intro n
  induction n with
  | zero => intro l2 l3 σ; exact j_none
  | succ n ih =>
    intro l2 l3 σ
    unfold p_X11_fair_45
    refine j_iload_n (pc' := 46) rfl rfl rfl ?_
    refine j_bipush (pc' := 48) (x := (12 : Int32)) rfl rfl rfl ?_
    refine j_two (pT := 55) (pF := 85) (L1 := [some (.ref 0), some (.int l1), some (.int l2), some (.int l3)]) (st1 := []) (fun o kT kF => ?_) (fun h1 => ?_) (fun h1 => ?_)
    · refine j_icgt (t := 85) (pc' := 51) rfl rfl rfl (fun h2 => ?_) (fun h2 => ?_)
      · exact kF (fun z => z.1 h2)
      · refine j_iload_n (pc' := 52) rfl rfl rfl ?_
        refine j_ifeq (t := 85) (pc' := 55) rfl rfl rfl (fun h3 => ?_) (fun h3 => ?_)
        · exact kF (fun z => (fun z => z h3) z.2)
        · exact kT (⟨h2, h3⟩)
    · refine j_aload_n (pc' := 56) rfl rfl rfl ?_
      refine j_gfr (pc' := 59) (x := 37) rfl rfl j_a0 rfl rfl ?_
      refine j_aload_n (pc' := 60) rfl rfl rfl ?_
      refine j_gfr (pc' := 63) (x := 1) rfl rfl j_a0 rfl rfl ?_
      refine j_iload_n (pc' := 64) rfl rfl rfl ?_
      refine j_callRv (pc' := 67) (ai := 55) (vs := [.ref 37, .ref 1, .int l1]) (rest := []) rfl rfl (fun _ _ => rfl) (c_X5_grow l1 σ) (j_dd rfl hd) rfl (fun σ1 => ?_)
      refine j_aload_n (pc' := 68) rfl rfl rfl ?_
      refine j_gfr (pc' := 71) (x := 37) rfl rfl j_a0 rfl rfl ?_
      refine j_aload_n (pc' := 72) rfl rfl rfl ?_
      refine j_gfr (pc' := 75) (x := 1) rfl rfl j_a0 rfl rfl ?_
      refine j_callPi (pc' := 78) (ai := 62) (vs := [.ref 37, .ref 1]) (rest := []) rfl rfl (fun _ _ => rfl) (c_X5_isEven  σ1) (j_dd rfl hd) rfl (fun v2 => ?_)
      refine j_istore_n (pc' := 79) (L' := [some (.ref 0), some (.int l1), some (.int v2), some (.int l3)]) rfl rfl rfl ?_
      refine j_iincx (pc' := 82) (y := (1 : Int32)) (L' := [some (.ref 0), some (.int l1), some (.int v2), some (.int (l3 + (1 : Int32)))]) rfl rfl rfl rfl rfl ?_
      refine j_goto (t := 45) rfl rfl ?_
      exact ih v2 (l3 + (1 : Int32)) σ1
    · refine j_wk [false, false, true, false] (L' := [none, none, some (.int l2), none]) rfl ?_
      exact j_end (fun _ h => h)

theorem c_X11_fair (l1 : Int32) (σ : j_G) : j_K true 4 146 [.ref 0, .int l1] σ (f_X11_fair l1 σ) j_Ri := by
  refine j_mkK (M := M_cX11_fair) (L := [some (.ref 0), some (.int l1), none, none]) (m := 2) t_146 rfl (j_rcvO j_a0 rfl) rfl (fun d hd τ => ?_)
  unfold f_X11_fair
  refine j_aload_n (pc' := 1) rfl rfl rfl ?_
  refine j_gfr (pc' := 4) (x := 1) rfl rfl j_a0 rfl rfl ?_
  refine j_callTi (pc' := 7) (ai := 11) (vs := [.ref 1]) (rest := []) rfl rfl (fun _ _ => rfl) (c_X2_isTold  σ) (j_dd rfl hd) rfl ?_
  refine j_two (pT := 17) (pF := 20) (L1 := [some (.ref 0), some (.int l1), none, none]) (st1 := []) (fun o kT kF => ?_) (fun h3 => ?_) (fun h3 => ?_)
  · refine j_ifeq (t := 17) (pc' := 10) rfl rfl rfl (fun h4 => ?_) (fun h4 => ?_)
    · exact kT (Or.inl h4)
    · refine j_iload_n (pc' := 11) rfl rfl rfl ?_
      refine j_callTi (pc' := 14) (ai := 183) (vs := [.int l1]) (rest := []) rfl rfl (fun _ _ => rfl) (c_X11_isLaw l1 σ) (j_dd rfl hd) rfl ?_
      refine j_ifne (t := 20) (pc' := 17) rfl rfl rfl (fun h5 => ?_) (fun h5 => ?_)
      · exact kF (fun z => z.elim h4 (h5))
      · exact kT (Or.inr (h5))
  · refine j_bipush (pc' := 19) (x := (-2 : Int32)) rfl rfl rfl ?_
    exact j_ret rfl rfl rfl (fun _ h => h)
  · refine j_aload_n (pc' := 21) rfl rfl rfl ?_
    refine j_gfr (pc' := 24) (x := 37) rfl rfl j_a0 rfl rfl ?_
    refine j_aload_n (pc' := 25) rfl rfl rfl ?_
    refine j_gfr (pc' := 28) (x := 1) rfl rfl j_a0 rfl rfl ?_
    refine j_callRv (pc' := 31) (ai := 54) (vs := [.ref 37, .ref 1]) (rest := []) rfl rfl (fun _ _ => rfl) (c_X5_begin  σ) (j_dd rfl hd) rfl (fun σ1 => ?_)
    refine j_aload_n (pc' := 32) rfl rfl rfl ?_
    refine j_gfr (pc' := 35) (x := 37) rfl rfl j_a0 rfl rfl ?_
    refine j_aload_n (pc' := 36) rfl rfl rfl ?_
    refine j_gfr (pc' := 39) (x := 1) rfl rfl j_a0 rfl rfl ?_
    refine j_callPi (pc' := 42) (ai := 62) (vs := [.ref 37, .ref 1]) (rest := []) rfl rfl (fun _ _ => rfl) (c_X5_isEven  σ1) (j_dd rfl hd) rfl (fun v2 => ?_)
    refine j_istore_n (pc' := 43) (L' := [some (.ref 0), some (.int l1), some (.int v2), none]) rfl rfl rfl ?_
    refine j_iconst (pc' := 44) (x := (2 : Int32)) rfl rfl rfl ?_
    refine j_istore_n (pc' := 45) (L' := [some (.ref 0), some (.int l1), some (.int v2), some (.int (2 : Int32))]) rfl rfl rfl ?_
    refine j_q2 (l_X11_fair_45 hd τ l1 j_F v2 (2 : Int32) σ1) (fun v3 σ4 => ?_)
    show j_J true τ M_cX11_fair d 85 [none, none, some (.int v3), none] [] σ4 _ _
    refine j_iload_n (pc' := 86) rfl rfl rfl ?_
    refine j_two (pT := 89) (pF := 93) (L1 := [none, none, some (.int v3), none]) (st1 := []) (fun o kT kF => ?_) (fun h1 => ?_) (fun h1 => ?_)
    · refine j_ifeq (t := 93) (pc' := 89) rfl rfl rfl (fun h2 => ?_) (fun h2 => ?_)
      · exact kF (fun z => z h2)
      · exact kT h2
    · refine j_iconst (pc' := 90) (x := (1 : Int32)) rfl rfl rfl ?_
      refine j_goto (t := 94) rfl rfl ?_
      exact j_ret rfl rfl rfl (fun _ h => h)
    · refine j_iconst (pc' := 94) (x := (0 : Int32)) rfl rfl rfl ?_
      exact j_ret rfl rfl rfl (fun _ h => h)

noncomputable def p_X12_fair_36 (l1 : Int32) (l2 : Int32) (σ : j_G) (k19 : Int32 → j_G → Option (Int32 × j_G)) : Nat → Int32 → Int32 → Option (Int32 × j_G)
  | 0, _, _ => none
  | n + 1, l3, l4 =>
    j_b1 (f_X12_holes σ) fun v1 =>
    if l4 < v1 then (j_b1 (f_X12_isShut l4 σ) fun v2 =>
    j_lt (fun (v7 : Int32) => (p_X12_fair_36 l1 l2 σ k19 n v7 (l4 + (1 : Int32)))) fun (k3 : Int32 → Option (Int32 × j_G)) =>
    if ¬ v2 = 0 then (k3 l3) else (j_lt (if l3 = (-1 : Int32) then (l4) else (l3)) fun v4 =>
    j_b1 (f_X12_endingIn l4 σ) fun v5 =>
    j_b1 (f_X12_endingIn v4 σ) fun v6 =>
    if ¬ v5 = v6 then (some ((0 : Int32), σ)) else (k3 v4))) else (k19 (l2 + (1 : Int32)) σ)

noncomputable def p_X12_fair_19 (l1 : Int32) : Nat → Int32 → j_G → Option (Int32 × j_G)
  | 0, _, _ => none
  | n + 1, l2, σ =>
    if ¬ (12 : Int32) < l2 then (j_b1 (f_X12_fillRows l1 l2 σ) fun σ1 =>
    p_X12_fair_36 l1 l2 σ1 (fun w2 σw => p_X12_fair_19 l1 n w2 σw) j_F (-1 : Int32) (0 : Int32)) else (some ((1 : Int32), σ))

noncomputable def f_X12_fair (l1 : Int32) (σ : j_G) : Option (Int32 × j_G) :=
  j_b1 (f_X12_isBoard σ) fun v1 =>
  if (v1 = 0) ∨ ((f_X12_isLaw l1) = 0) then (some ((-2 : Int32), σ)) else (p_X12_fair_19 l1 j_F (1 : Int32) σ)
theorem l_X12_fair_36 {d : Nat} (hd : 3 ≤ d) (τ : j_G) (l1 : Int32) (l2 : Int32) (σ : j_G) (k19 : Int32 → j_G → Option (Int32 × j_G)) (k19_h : ∀ (l2 : Int32) (σ : j_G), j_J false τ M_cX12_fair d 19 [some (.ref 75), some (.int l1), some (.int l2), none, none] [] σ (k19 l2 σ) j_Ri) : ∀ (n : Nat) (l3 : Int32) (l4 : Int32), j_J false τ M_cX12_fair d 36 [some (.ref 75), some (.int l1), some (.int l2), some (.int l3), some (.int l4)] [] σ (p_X12_fair_36 l1 l2 σ k19 n l3 l4) j_Ri := by
  intro n
  induction n with
  | zero => intro l3 l4; exact j_none
  | succ n ih =>
    intro l3 l4
    unfold p_X12_fair_36
    refine j_iload (pc' := 38) rfl rfl rfl ?_
    refine j_aload_n (pc' := 39) rfl rfl rfl ?_
    refine j_callPi (pc' := 42) (ai := 200) (vs := [.ref 75]) (rest := [.int l4]) rfl rfl (fun _ _ => rfl) (c_X12_holes  σ) (j_dd rfl hd) rfl (fun v1 => ?_)
    refine j_two (pT := 45) (pF := 92) (L1 := [some (.ref 75), some (.int l1), some (.int l2), some (.int l3), some (.int l4)]) (st1 := []) (fun o kT kF => ?_) (fun h7 => ?_) (fun h7 => ?_)
    · refine j_icge (t := 92) (pc' := 45) rfl rfl rfl (fun h8 => ?_) (fun h8 => ?_)
      · exact kF h8
      · exact kT h8
    · refine j_aload_n (pc' := 46) rfl rfl rfl ?_
      refine j_iload (pc' := 48) rfl rfl rfl ?_
      refine j_callPi (pc' := 51) (ai := 202) (vs := [.ref 75, .int l4]) (rest := []) rfl rfl (fun _ _ => rfl) (c_X12_isShut l4 σ) (j_dd rfl hd) rfl (fun v2 => ?_)
      refine j_jn (P := (fun k => ∀ (v7 : Int32), j_J false τ M_cX12_fair d 86 [some (.ref 75), some (.int l1), some (.int l2), some (.int v7), some (.int l4)] [] σ (k v7) j_Ri)) ?_ (fun k3 k3_h => ?_)
      · intro v7
        refine j_iincx (pc' := 89) (y := (1 : Int32)) (L' := [some (.ref 75), some (.int l1), some (.int l2), some (.int v7), some (.int (l4 + (1 : Int32)))]) rfl rfl rfl rfl rfl ?_
        refine j_goto (t := 36) rfl rfl ?_
        exact ih v7 (l4 + (1 : Int32))
      · refine j_two (pT := 54) (pF := 57) (L1 := [some (.ref 75), some (.int l1), some (.int l2), some (.int l3), some (.int l4)]) (st1 := []) (fun o kT kF => ?_) (fun h5 => ?_) (fun h5 => ?_)
        · refine j_ifeq (t := 57) (pc' := 54) rfl rfl rfl (fun h6 => ?_) (fun h6 => ?_)
          · exact kF (fun z => z h6)
          · exact kT h6
        · refine j_goto (t := 86) rfl rfl ?_
          exact k3_h l3
        · refine j_iload_n (pc' := 58) rfl rfl rfl ?_
          refine j_iconst (pc' := 59) (x := (-1 : Int32)) rfl rfl rfl ?_
          refine j_ql (Φl := (fun r Q => j_Tr false τ M_cX12_fair d 68 [some (.ref 75), some (.int l1), some (.int l2), none, some (.int l4)] [.int r] σ Q)) ?_ (fun v4 => ?_)
          · refine j_twoT (pT := 62) (pF := 67) (L1 := [some (.ref 75), some (.int l1), some (.int l2), some (.int l3), some (.int l4)]) (st1 := []) (fun o kT kF => ?_) (fun h1 => ?_) (fun h1 => ?_)
            · refine j_icne (t := 67) (pc' := 62) rfl rfl rfl (fun h2 => ?_) (fun h2 => ?_)
              · exact kF h2
              · exact kT h2
            · refine j_iload (pc' := 64) rfl rfl rfl ?_
              refine j_goto (t := 68) rfl rfl ?_
              refine j_wk [true, true, true, false, true] (L' := [some (.ref 75), some (.int l1), some (.int l2), none, some (.int l4)]) rfl ?_
              exact j_end (fun _ h => h)
            · refine j_iload_n (pc' := 68) rfl rfl rfl ?_
              refine j_wk [true, true, true, false, true] (L' := [some (.ref 75), some (.int l1), some (.int l2), none, some (.int l4)]) rfl ?_
              exact j_end (fun _ h => h)
          show j_J false τ M_cX12_fair d 68 [some (.ref 75), some (.int l1), some (.int l2), none, some (.int l4)] [.int v4] σ _ _
          refine j_istore_n (pc' := 69) (L' := [some (.ref 75), some (.int l1), some (.int l2), some (.int v4), some (.int l4)]) rfl rfl rfl ?_
          refine j_aload_n (pc' := 70) rfl rfl rfl ?_
          refine j_iload (pc' := 72) rfl rfl rfl ?_
          refine j_callPl (pc' := 75) (ai := 292) (vs := [.ref 75, .int l4]) (rest := []) rfl rfl (fun _ _ => rfl) (c_X12_endingIn l4 σ) (j_dd rfl hd) rfl (fun v5 => ?_)
          refine j_aload_n (pc' := 76) rfl rfl rfl ?_
          refine j_iload_n (pc' := 77) rfl rfl rfl ?_
          refine j_callPl (pc' := 80) (ai := 292) (vs := [.ref 75, .int v4]) (rest := [.long v5]) rfl rfl (fun _ _ => rfl) (c_X12_endingIn v4 σ) (j_dd rfl hd) rfl (fun v6 => ?_)
          refine j_lcmp (pc' := 81) rfl rfl ?_
          refine j_two (pT := 84) (pF := 86) (L1 := [some (.ref 75), some (.int l1), some (.int l2), some (.int v4), some (.int l4)]) (st1 := []) (fun o kT kF => ?_) (fun h3 => ?_) (fun h3 => ?_)
          · refine j_ifeqL (t := 86) (pc' := 84) rfl rfl rfl (fun h4 => ?_) (fun h4 => ?_)
            · exact kF (fun z => z h4)
            · exact kT h4
          · refine j_iconst (pc' := 85) (x := (0 : Int32)) rfl rfl rfl ?_
            exact j_ret rfl rfl rfl (fun _ h => h)
          · exact k3_h v4
    · refine j_iincx (pc' := 95) (y := (1 : Int32)) (L' := [some (.ref 75), some (.int l1), some (.int (l2 + (1 : Int32))), some (.int l3), some (.int l4)]) rfl rfl rfl rfl rfl ?_
      refine j_goto (t := 19) rfl rfl ?_
      refine j_wk [true, true, true, false, false] (L' := [some (.ref 75), some (.int l1), some (.int (l2 + (1 : Int32))), none, none]) rfl ?_
      exact k19_h (l2 + (1 : Int32)) σ

theorem l_X12_fair_19 {d : Nat} (hd : 3 ≤ d) (τ : j_G) (l1 : Int32) : ∀ (n : Nat) (l2 : Int32) (σ : j_G), j_J false τ M_cX12_fair d 19 [some (.ref 75), some (.int l1), some (.int l2), none, none] [] σ (p_X12_fair_19 l1 n l2 σ) j_Ri := by
  intro n
  induction n with
  | zero => intro l2 σ; exact j_none
  | succ n ih =>
    intro l2 σ
    unfold p_X12_fair_19
    refine j_iload_n (pc' := 20) rfl rfl rfl ?_
    refine j_bipush (pc' := 22) (x := (12 : Int32)) rfl rfl rfl ?_
    refine j_two (pT := 25) (pF := 98) (L1 := [some (.ref 75), some (.int l1), some (.int l2), none, none]) (st1 := []) (fun o kT kF => ?_) (fun h1 => ?_) (fun h1 => ?_)
    · refine j_icgt (t := 98) (pc' := 25) rfl rfl rfl (fun h2 => ?_) (fun h2 => ?_)
      · exact kF (fun z => z h2)
      · exact kT h2
    · refine j_aload_n (pc' := 26) rfl rfl rfl ?_
      refine j_iload_n (pc' := 27) rfl rfl rfl ?_
      refine j_iload_n (pc' := 28) rfl rfl rfl ?_
      refine j_callRv (pc' := 31) (ai := 291) (vs := [.ref 75, .int l1, .int l2]) (rest := []) rfl rfl (fun _ _ => rfl) (c_X12_fillRows l1 l2 σ) (j_dd rfl hd) rfl (fun σ1 => ?_)
      refine j_iconst (pc' := 32) (x := (-1 : Int32)) rfl rfl rfl ?_
      refine j_istore_n (pc' := 33) (L' := [some (.ref 75), some (.int l1), some (.int l2), some (.int (-1 : Int32)), none]) rfl rfl rfl ?_
      refine j_iconst (pc' := 34) (x := (0 : Int32)) rfl rfl rfl ?_
      refine j_istore (pc' := 36) (L' := [some (.ref 75), some (.int l1), some (.int l2), some (.int (-1 : Int32)), some (.int (0 : Int32))]) rfl rfl rfl ?_
      exact (l_X12_fair_36 hd τ l1 l2 σ1 _ (by
    intro w2 σw
    exact ih w2 σw) j_F (-1 : Int32) (0 : Int32))
    · refine j_iconst (pc' := 99) (x := (1 : Int32)) rfl rfl rfl ?_
      exact j_ret rfl rfl rfl (fun _ h => h)

theorem c_X12_fair (l1 : Int32) (σ : j_G) : j_K false 3 295 [.ref 75, .int l1] σ (f_X12_fair l1 σ) j_Ri := by
  refine j_mkK (M := M_cX12_fair) (L := [some (.ref 75), some (.int l1), none, none, none]) (m := 3) t_295 rfl (j_rcvO j_a75 rfl) rfl (fun d hd τ => ?_)
  unfold f_X12_fair
  refine j_aload_n (pc' := 1) rfl rfl rfl ?_
  refine j_callPi (pc' := 4) (ai := 199) (vs := [.ref 75]) (rest := []) rfl rfl (fun _ _ => rfl) (c_X12_isBoard  σ) (j_dd rfl hd) rfl (fun v1 => ?_)
  refine j_two (pT := 14) (pF := 17) (L1 := [some (.ref 75), some (.int l1), none, none, none]) (st1 := []) (fun o kT kF => ?_) (fun h1 => ?_) (fun h1 => ?_)
  · refine j_ifeq (t := 14) (pc' := 7) rfl rfl rfl (fun h2 => ?_) (fun h2 => ?_)
    · exact kT (Or.inl h2)
    · refine j_iload_n (pc' := 8) rfl rfl rfl ?_
      refine j_callTi (pc' := 11) (ai := 289) (vs := [.int l1]) (rest := []) rfl rfl (fun _ _ => rfl) (c_X12_isLaw l1 σ) (j_dd rfl hd) rfl ?_
      refine j_ifne (t := 17) (pc' := 14) rfl rfl rfl (fun h3 => ?_) (fun h3 => ?_)
      · exact kF (fun z => z.elim h2 (h3))
      · exact kT (Or.inr (h3))
  · refine j_bipush (pc' := 16) (x := (-2 : Int32)) rfl rfl rfl ?_
    exact j_ret rfl rfl rfl (fun _ h => h)
  · refine j_iconst (pc' := 18) (x := (1 : Int32)) rfl rfl rfl ?_
    refine j_istore_n (pc' := 19) (L' := [some (.ref 75), some (.int l1), some (.int (1 : Int32)), none, none]) rfl rfl rfl ?_
    exact (l_X12_fair_19 hd τ l1 j_F (1 : Int32) σ)

noncomputable def f_J9_floorMod_7cf53 (l0 : Int32) (l1 : Int32) : Option Int32 :=
  if l1 = 0 then none else (
  j_lt (l0 - l0 / l1 * l1) fun v1 =>
  if ((l0 ^^^ l1) < 0) ∧ (¬ v1 = 0) then (some (v1 + l1)) else (some v1))
theorem c_J9_floorMod_7cf53_ (l0 : Int32) (l1 : Int32) (σ : j_G) : j_K true 0 357 [.int l0, .int l1] σ (f_J9_floorMod_7cf53 l0 l1) (j_Pi σ) := by
  refine j_mkK (M := M_cJ9_floorMod_7cf53) (L := [some (.int l0), some (.int l1), none]) (m := 1) t_357 rfl (j_rcvS rfl) rfl (fun d hd τ => ?_)
  unfold f_J9_floorMod_7cf53
  refine j_iload_n (pc' := 1) rfl rfl rfl ?_
  refine j_iload_n (pc' := 2) rfl rfl rfl ?_
  refine j_irem (pc' := 3) rfl rfl ?_
  refine j_leti (fun v1 => ?_)
  refine j_istore_n (pc' := 4) (L' := [some (.int l0), some (.int l1), some (.int v1)]) rfl rfl rfl ?_
  refine j_iload_n (pc' := 5) rfl rfl rfl ?_
  refine j_iload_n (pc' := 6) rfl rfl rfl ?_
  refine j_ixor (pc' := 7) rfl rfl ?_
  refine j_two (pT := 14) (pF := 18) (L1 := [some (.int l0), some (.int l1), some (.int v1)]) (st1 := []) (fun o kT kF => ?_) (fun h1 => ?_) (fun h1 => ?_)
  · refine j_ifge (t := 18) (pc' := 10) rfl rfl rfl (fun h2 => ?_) (fun h2 => ?_)
    · exact kF (fun z => h2 z.1)
    · refine j_iload_n (pc' := 11) rfl rfl rfl ?_
      refine j_ifeq (t := 18) (pc' := 14) rfl rfl rfl (fun h3 => ?_) (fun h3 => ?_)
      · exact kF (fun z => (fun z => z h3) z.2)
      · exact kT (⟨h2, h3⟩)
  · refine j_iload_n (pc' := 15) rfl rfl rfl ?_
    refine j_iload_n (pc' := 16) rfl rfl rfl ?_
    refine j_iadd (pc' := 17) rfl rfl ?_
    exact j_ret rfl rfl rfl (fun _ h => h)
  · refine j_iload_n (pc' := 19) rfl rfl rfl ?_
    exact j_ret rfl rfl rfl (fun _ h => h)

noncomputable def f_X3_round (l1 : Int32) (σ : j_G) : Option Int32 :=
  if 0 < (σ.1 5 0) then (j_b1 (f_J9_floorMod_7cf53 l1 (σ.1 5 0)) fun v1 =>
  j_ix v1 24 (
  some (σ.1 6 (v1).toNatClampNeg))) else (some (-1 : Int32))
theorem c_X3_round (l1 : Int32) (σ : j_G) : j_K true 1 35 [.ref 5, .int l1] σ (f_X3_round l1 σ) (j_Pi σ) := by
  refine j_mkK (M := M_cX3_round) (L := [some (.ref 5), some (.int l1)]) (m := 0) t_35 rfl (j_rcvO j_a5 rfl) rfl (fun d hd τ => ?_)
  unfold f_X3_round
  refine j_aload_n (pc' := 1) rfl rfl rfl ?_
  refine j_gfi (pc' := 4) rfl rfl j_a5 rfl ?_
  refine j_two (pT := 7) (pF := 23) (L1 := [some (.ref 5), some (.int l1)]) (st1 := []) (fun o kT kF => ?_) (fun h1 => ?_) (fun h1 => ?_)
  · refine j_ifle (t := 23) (pc' := 7) rfl rfl rfl (fun h2 => ?_) (fun h2 => ?_)
    · exact kF h2
    · exact kT h2
  · refine j_aload_n (pc' := 8) rfl rfl rfl ?_
    refine j_gfr (pc' := 11) (x := 6) rfl rfl j_a5 rfl rfl ?_
    refine j_iload_n (pc' := 12) rfl rfl rfl ?_
    refine j_aload_n (pc' := 13) rfl rfl rfl ?_
    refine j_gfi (pc' := 16) rfl rfl j_a5 rfl ?_
    refine j_callPi (pc' := 19) (ai := 357) (vs := [.int l1, .int (σ.1 5 0)]) (rest := [.ref 6]) rfl rfl (fun _ _ => rfl) (c_J9_floorMod_7cf53_ l1 (σ.1 5 0) σ) (j_dd rfl hd) rfl (fun v1 => ?_)
    refine j_iald (pc' := 20) rfl rfl j_a6 ?_
    refine j_goto (t := 24) rfl rfl ?_
    exact j_ret rfl rfl rfl (fun _ h => h)
  · refine j_iconst (pc' := 24) (x := (-1 : Int32)) rfl rfl rfl ?_
    exact j_ret rfl rfl rfl (fun _ h => h)

noncomputable def p_X11_breaks_30 (l1 : Int32) (σ : j_G) : Nat → Int32 → Option Int32
  | 0, _ => none
  | n + 1, l3 =>
    if l3 < (σ.1 5 0) then (j_b1 (f_X3_round (l3 - (2 : Int32)) σ) fun v1 =>
    j_b1 (f_X3_round (l3 - (1 : Int32)) σ) fun v2 =>
    j_b1 (f_X3_round l3 σ) fun v3 =>
    j_b1 (f_X2_lets l1 v1 v2 v3 σ) fun v4 =>
    if v4 = 0 then (some l3) else (p_X11_breaks_30 l1 σ n (l3 + (1 : Int32)))) else (some (-1 : Int32))

noncomputable def f_X11_breaks (l1 : Int32) (σ : j_G) : Option Int32 :=
  if ((f_X2_isTold σ) = 0) ∨ ((f_X11_isLaw l1) = 0) then (some (-2 : Int32)) else (p_X11_breaks_30 l1 σ j_F (0 : Int32))
theorem l_X11_breaks_30 {d : Nat} (hd : 2 ≤ d) (τ : j_G) (l1 : Int32) (σ : j_G) : ∀ (n : Nat) (l3 : Int32), j_J true τ M_cX11_breaks d 30 [some (.ref 0), some (.int l1), some (.ref 5), some (.int l3)] [] σ (p_X11_breaks_30 l1 σ n l3) (j_Pi σ) := by
  intro n
  induction n with
  | zero => intro l3; exact j_none
  | succ n ih =>
    intro l3
    unfold p_X11_breaks_30
    refine j_iload_n (pc' := 31) rfl rfl rfl ?_
    refine j_aload_n (pc' := 32) rfl rfl rfl ?_
    refine j_gfi (pc' := 35) rfl rfl j_a5 rfl ?_
    refine j_two (pT := 38) (pF := 76) (L1 := [some (.ref 0), some (.int l1), some (.ref 5), some (.int l3)]) (st1 := []) (fun o kT kF => ?_) (fun h3 => ?_) (fun h3 => ?_)
    · refine j_icge (t := 76) (pc' := 38) rfl rfl rfl (fun h4 => ?_) (fun h4 => ?_)
      · exact kF h4
      · exact kT h4
    · refine j_aload_n (pc' := 39) rfl rfl rfl ?_
      refine j_gfr (pc' := 42) (x := 1) rfl rfl j_a0 rfl rfl ?_
      refine j_iload_n (pc' := 43) rfl rfl rfl ?_
      refine j_aload_n (pc' := 44) rfl rfl rfl ?_
      refine j_iload_n (pc' := 45) rfl rfl rfl ?_
      refine j_iconst (pc' := 46) (x := (2 : Int32)) rfl rfl rfl ?_
      refine j_isub (pc' := 47) rfl rfl ?_
      refine j_callPi (pc' := 50) (ai := 35) (vs := [.ref 5, .int (l3 - (2 : Int32))]) (rest := [.int l1, .ref 1]) rfl rfl (fun _ _ => rfl) (c_X3_round (l3 - (2 : Int32)) σ) (j_dd rfl hd) rfl (fun v1 => ?_)
      refine j_aload_n (pc' := 51) rfl rfl rfl ?_
      refine j_iload_n (pc' := 52) rfl rfl rfl ?_
      refine j_iconst (pc' := 53) (x := (1 : Int32)) rfl rfl rfl ?_
      refine j_isub (pc' := 54) rfl rfl ?_
      refine j_callPi (pc' := 57) (ai := 35) (vs := [.ref 5, .int (l3 - (1 : Int32))]) (rest := [.int v1, .int l1, .ref 1]) rfl rfl (fun _ _ => rfl) (c_X3_round (l3 - (1 : Int32)) σ) (j_dd rfl hd) rfl (fun v2 => ?_)
      refine j_aload_n (pc' := 58) rfl rfl rfl ?_
      refine j_iload_n (pc' := 59) rfl rfl rfl ?_
      refine j_callPi (pc' := 62) (ai := 35) (vs := [.ref 5, .int l3]) (rest := [.int v2, .int v1, .int l1, .ref 1]) rfl rfl (fun _ _ => rfl) (c_X3_round l3 σ) (j_dd rfl hd) rfl (fun v3 => ?_)
      refine j_callPi (pc' := 65) (ai := 27) (vs := [.ref 1, .int l1, .int v1, .int v2, .int v3]) (rest := []) rfl rfl (fun _ _ => rfl) (c_X2_lets l1 v1 v2 v3 σ) (j_dd rfl hd) rfl (fun v4 => ?_)
      refine j_two (pT := 68) (pF := 70) (L1 := [some (.ref 0), some (.int l1), some (.ref 5), some (.int l3)]) (st1 := []) (fun o kT kF => ?_) (fun h1 => ?_) (fun h1 => ?_)
      · refine j_ifne (t := 70) (pc' := 68) rfl rfl rfl (fun h2 => ?_) (fun h2 => ?_)
        · exact kF h2
        · exact kT h2
      · refine j_iload_n (pc' := 69) rfl rfl rfl ?_
        exact j_ret rfl rfl rfl (fun _ h => h)
      · refine j_iincx (pc' := 73) (y := (1 : Int32)) (L' := [some (.ref 0), some (.int l1), some (.ref 5), some (.int (l3 + (1 : Int32)))]) rfl rfl rfl rfl rfl ?_
        refine j_goto (t := 30) rfl rfl ?_
        exact ih (l3 + (1 : Int32))
    · refine j_iconst (pc' := 77) (x := (-1 : Int32)) rfl rfl rfl ?_
      exact j_ret rfl rfl rfl (fun _ h => h)

theorem c_X11_breaks (l1 : Int32) (σ : j_G) : j_K true 2 147 [.ref 0, .int l1] σ (f_X11_breaks l1 σ) (j_Pi σ) := by
  refine j_mkK (M := M_cX11_breaks) (L := [some (.ref 0), some (.int l1), none, none]) (m := 2) t_147 rfl (j_rcvO j_a0 rfl) rfl (fun d hd τ => ?_)
  unfold f_X11_breaks
  refine j_aload_n (pc' := 1) rfl rfl rfl ?_
  refine j_gfr (pc' := 4) (x := 1) rfl rfl j_a0 rfl rfl ?_
  refine j_callTi (pc' := 7) (ai := 11) (vs := [.ref 1]) (rest := []) rfl rfl (fun _ _ => rfl) (c_X2_isTold  σ) (j_dd rfl hd) rfl ?_
  refine j_two (pT := 17) (pF := 20) (L1 := [some (.ref 0), some (.int l1), none, none]) (st1 := []) (fun o kT kF => ?_) (fun h1 => ?_) (fun h1 => ?_)
  · refine j_ifeq (t := 17) (pc' := 10) rfl rfl rfl (fun h2 => ?_) (fun h2 => ?_)
    · exact kT (Or.inl h2)
    · refine j_iload_n (pc' := 11) rfl rfl rfl ?_
      refine j_callTi (pc' := 14) (ai := 183) (vs := [.int l1]) (rest := []) rfl rfl (fun _ _ => rfl) (c_X11_isLaw l1 σ) (j_dd rfl hd) rfl ?_
      refine j_ifne (t := 20) (pc' := 17) rfl rfl rfl (fun h3 => ?_) (fun h3 => ?_)
      · exact kF (fun z => z.elim h2 (h3))
      · exact kT (Or.inr (h3))
  · refine j_bipush (pc' := 19) (x := (-2 : Int32)) rfl rfl rfl ?_
    exact j_ret rfl rfl rfl (fun _ h => h)
  · refine j_aload_n (pc' := 21) rfl rfl rfl ?_
    refine j_gfr (pc' := 24) (x := 1) rfl rfl j_a0 rfl rfl ?_
    refine j_gfr (pc' := 27) (x := 5) rfl rfl j_a1 rfl rfl ?_
    refine j_astore_n (pc' := 28) (L' := [some (.ref 0), some (.int l1), some (.ref 5), none]) rfl rfl rfl ?_
    refine j_iconst (pc' := 29) (x := (0 : Int32)) rfl rfl rfl ?_
    refine j_istore_n (pc' := 30) (L' := [some (.ref 0), some (.int l1), some (.ref 5), some (.int (0 : Int32))]) rfl rfl rfl ?_
    exact (l_X11_breaks_30 hd τ l1 σ j_F (0 : Int32))

theorem c_J9_floorMod_7cf53_m (l0 : Int32) (l1 : Int32) (σ : j_G) : j_K false 0 357 [.int l0, .int l1] σ (f_J9_floorMod_7cf53 l0 l1) (j_Pi σ) := by
  refine j_mkK (M := M_cJ9_floorMod_7cf53) (L := [some (.int l0), some (.int l1), none]) (m := 1) t_357 rfl (j_rcvS rfl) rfl (fun d hd τ => ?_)
  unfold f_J9_floorMod_7cf53
  refine j_iload_n (pc' := 1) rfl rfl rfl ?_
  refine j_iload_n (pc' := 2) rfl rfl rfl ?_
  refine j_irem (pc' := 3) rfl rfl ?_
  refine j_leti (fun v1 => ?_)
  refine j_istore_n (pc' := 4) (L' := [some (.int l0), some (.int l1), some (.int v1)]) rfl rfl rfl ?_
  refine j_iload_n (pc' := 5) rfl rfl rfl ?_
  refine j_iload_n (pc' := 6) rfl rfl rfl ?_
  refine j_ixor (pc' := 7) rfl rfl ?_
  refine j_two (pT := 14) (pF := 18) (L1 := [some (.int l0), some (.int l1), some (.int v1)]) (st1 := []) (fun o kT kF => ?_) (fun h1 => ?_) (fun h1 => ?_)
  · refine j_ifge (t := 18) (pc' := 10) rfl rfl rfl (fun h2 => ?_) (fun h2 => ?_)
    · exact kF (fun z => h2 z.1)
    · refine j_iload_n (pc' := 11) rfl rfl rfl ?_
      refine j_ifeq (t := 18) (pc' := 14) rfl rfl rfl (fun h3 => ?_) (fun h3 => ?_)
      · exact kF (fun z => (fun z => z h3) z.2)
      · exact kT (⟨h2, h3⟩)
  · refine j_iload_n (pc' := 15) rfl rfl rfl ?_
    refine j_iload_n (pc' := 16) rfl rfl rfl ?_
    refine j_iadd (pc' := 17) rfl rfl ?_
    exact j_ret rfl rfl rfl (fun _ h => h)
  · refine j_iload_n (pc' := 19) rfl rfl rfl ?_
    exact j_ret rfl rfl rfl (fun _ h => h)

noncomputable def f_X12_holeAt (l1 : Int32) (σ : j_G) : Option Int32 :=
  j_ix (5 : Int32) 116 (
  j_b1 (f_J9_floorMod_7cf53 l1 (σ.1 76 ((5 : Int32)).toNatClampNeg)) fun v1 =>
  j_b1 (f_X12_ofComing v1 (0 : Int32) σ) fun v2 =>
  some v2)
theorem c_X12_holeAt (l1 : Int32) (σ : j_G) : j_K false 1 296 [.ref 75, .int l1] σ (f_X12_holeAt l1 σ) (j_Pi σ) := by
  refine j_mkK (M := M_cX12_holeAt) (L := [some (.ref 75), some (.int l1)]) (m := 0) t_296 rfl (j_rcvO j_a75 rfl) rfl (fun d hd τ => ?_)
  unfold f_X12_holeAt
  refine j_aload_n (pc' := 1) rfl rfl rfl ?_
  refine j_iload_n (pc' := 2) rfl rfl rfl ?_
  refine j_aload_n (pc' := 3) rfl rfl rfl ?_
  refine j_gfr (pc' := 6) (x := 76) rfl rfl j_a75 rfl rfl ?_
  refine j_iconst (pc' := 7) (x := (5 : Int32)) rfl rfl rfl ?_
  refine j_iald (pc' := 8) rfl rfl j_a76 ?_
  refine j_callPi (pc' := 11) (ai := 357) (vs := [.int l1, .int (σ.1 76 ((5 : Int32)).toNatClampNeg)]) (rest := [.ref 75]) rfl rfl (fun _ _ => rfl) (c_J9_floorMod_7cf53_m l1 (σ.1 76 ((5 : Int32)).toNatClampNeg) σ) (j_dd rfl hd) rfl (fun v1 => ?_)
  refine j_iconst (pc' := 12) (x := (0 : Int32)) rfl rfl rfl ?_
  refine j_callPi (pc' := 15) (ai := 206) (vs := [.ref 75, .int v1, .int (0 : Int32)]) (rest := []) rfl rfl (fun _ _ => rfl) (c_X12_ofComing v1 (0 : Int32) σ) (j_dd rfl hd) rfl (fun v2 => ?_)
  exact j_ret rfl rfl rfl (fun _ h => h)

noncomputable def p_X12_breaks_19 (l1 : Int32) (σ : j_G) : Nat → Int32 → Option Int32
  | 0, _ => none
  | n + 1, l2 =>
    j_ix (5 : Int32) 116 (
    if l2 < (σ.1 76 ((5 : Int32)).toNatClampNeg) then (j_b1 (f_X12_holeAt l2 σ) fun v1 =>
    j_b1 (f_X12_holeAt (l2 - (1 : Int32)) σ) fun v2 =>
    j_b1 (f_X12_holeAt (l2 - (2 : Int32)) σ) fun v3 =>
    j_b1 (f_X12_lets l1 v1 v2 v3 σ) fun v4 =>
    if v4 = 0 then (some l2) else (p_X12_breaks_19 l1 σ n (l2 + (1 : Int32)))) else (some (-1 : Int32)))

noncomputable def f_X12_breaks (l1 : Int32) (σ : j_G) : Option Int32 :=
  j_b1 (f_X12_isBoard σ) fun v1 =>
  if (v1 = 0) ∨ ((f_X12_isLaw l1) = 0) then (some (-2 : Int32)) else (p_X12_breaks_19 l1 σ j_F (0 : Int32))
theorem l_X12_breaks_19 {d : Nat} (hd : 2 ≤ d) (τ : j_G) (l1 : Int32) (σ : j_G) : ∀ (n : Nat) (l2 : Int32), j_J false τ M_cX12_breaks d 19 [some (.ref 75), some (.int l1), some (.int l2)] [] σ (p_X12_breaks_19 l1 σ n l2) (j_Pi σ) := by
  intro n
  induction n with
  | zero => intro l2; exact j_none
  | succ n ih =>
    intro l2
    unfold p_X12_breaks_19
    refine j_iload_n (pc' := 20) rfl rfl rfl ?_
    refine j_aload_n (pc' := 21) rfl rfl rfl ?_
    refine j_gfr (pc' := 24) (x := 76) rfl rfl j_a75 rfl rfl ?_
    refine j_iconst (pc' := 25) (x := (5 : Int32)) rfl rfl rfl ?_
    refine j_iald (pc' := 26) rfl rfl j_a76 ?_
    refine j_two (pT := 29) (pF := 64) (L1 := [some (.ref 75), some (.int l1), some (.int l2)]) (st1 := []) (fun o kT kF => ?_) (fun h3 => ?_) (fun h3 => ?_)
    · refine j_icge (t := 64) (pc' := 29) rfl rfl rfl (fun h4 => ?_) (fun h4 => ?_)
      · exact kF h4
      · exact kT h4
    · refine j_aload_n (pc' := 30) rfl rfl rfl ?_
      refine j_iload_n (pc' := 31) rfl rfl rfl ?_
      refine j_aload_n (pc' := 32) rfl rfl rfl ?_
      refine j_iload_n (pc' := 33) rfl rfl rfl ?_
      refine j_callPi (pc' := 36) (ai := 296) (vs := [.ref 75, .int l2]) (rest := [.int l1, .ref 75]) rfl rfl (fun _ _ => rfl) (c_X12_holeAt l2 σ) (j_dd rfl hd) rfl (fun v1 => ?_)
      refine j_aload_n (pc' := 37) rfl rfl rfl ?_
      refine j_iload_n (pc' := 38) rfl rfl rfl ?_
      refine j_iconst (pc' := 39) (x := (1 : Int32)) rfl rfl rfl ?_
      refine j_isub (pc' := 40) rfl rfl ?_
      refine j_callPi (pc' := 43) (ai := 296) (vs := [.ref 75, .int (l2 - (1 : Int32))]) (rest := [.int v1, .int l1, .ref 75]) rfl rfl (fun _ _ => rfl) (c_X12_holeAt (l2 - (1 : Int32)) σ) (j_dd rfl hd) rfl (fun v2 => ?_)
      refine j_aload_n (pc' := 44) rfl rfl rfl ?_
      refine j_iload_n (pc' := 45) rfl rfl rfl ?_
      refine j_iconst (pc' := 46) (x := (2 : Int32)) rfl rfl rfl ?_
      refine j_isub (pc' := 47) rfl rfl ?_
      refine j_callPi (pc' := 50) (ai := 296) (vs := [.ref 75, .int (l2 - (2 : Int32))]) (rest := [.int v2, .int v1, .int l1, .ref 75]) rfl rfl (fun _ _ => rfl) (c_X12_holeAt (l2 - (2 : Int32)) σ) (j_dd rfl hd) rfl (fun v3 => ?_)
      refine j_callPi (pc' := 53) (ai := 290) (vs := [.ref 75, .int l1, .int v1, .int v2, .int v3]) (rest := []) rfl rfl (fun _ _ => rfl) (c_X12_lets l1 v1 v2 v3 σ) (j_dd rfl hd) rfl (fun v4 => ?_)
      refine j_two (pT := 56) (pF := 58) (L1 := [some (.ref 75), some (.int l1), some (.int l2)]) (st1 := []) (fun o kT kF => ?_) (fun h1 => ?_) (fun h1 => ?_)
      · refine j_ifne (t := 58) (pc' := 56) rfl rfl rfl (fun h2 => ?_) (fun h2 => ?_)
        · exact kF h2
        · exact kT h2
      · refine j_iload_n (pc' := 57) rfl rfl rfl ?_
        exact j_ret rfl rfl rfl (fun _ h => h)
      · refine j_iincx (pc' := 61) (y := (1 : Int32)) (L' := [some (.ref 75), some (.int l1), some (.int (l2 + (1 : Int32)))]) rfl rfl rfl rfl rfl ?_
        refine j_goto (t := 19) rfl rfl ?_
        exact ih (l2 + (1 : Int32))
    · refine j_iconst (pc' := 65) (x := (-1 : Int32)) rfl rfl rfl ?_
      exact j_ret rfl rfl rfl (fun _ h => h)

theorem c_X12_breaks (l1 : Int32) (σ : j_G) : j_K false 2 297 [.ref 75, .int l1] σ (f_X12_breaks l1 σ) (j_Pi σ) := by
  refine j_mkK (M := M_cX12_breaks) (L := [some (.ref 75), some (.int l1), none]) (m := 1) t_297 rfl (j_rcvO j_a75 rfl) rfl (fun d hd τ => ?_)
  unfold f_X12_breaks
  refine j_aload_n (pc' := 1) rfl rfl rfl ?_
  refine j_callPi (pc' := 4) (ai := 199) (vs := [.ref 75]) (rest := []) rfl rfl (fun _ _ => rfl) (c_X12_isBoard  σ) (j_dd rfl hd) rfl (fun v1 => ?_)
  refine j_two (pT := 14) (pF := 17) (L1 := [some (.ref 75), some (.int l1), none]) (st1 := []) (fun o kT kF => ?_) (fun h1 => ?_) (fun h1 => ?_)
  · refine j_ifeq (t := 14) (pc' := 7) rfl rfl rfl (fun h2 => ?_) (fun h2 => ?_)
    · exact kT (Or.inl h2)
    · refine j_iload_n (pc' := 8) rfl rfl rfl ?_
      refine j_callTi (pc' := 11) (ai := 289) (vs := [.int l1]) (rest := []) rfl rfl (fun _ _ => rfl) (c_X12_isLaw l1 σ) (j_dd rfl hd) rfl ?_
      refine j_ifne (t := 17) (pc' := 14) rfl rfl rfl (fun h3 => ?_) (fun h3 => ?_)
      · exact kF (fun z => z.elim h2 (h3))
      · exact kT (Or.inr (h3))
  · refine j_bipush (pc' := 16) (x := (-2 : Int32)) rfl rfl rfl ?_
    exact j_ret rfl rfl rfl (fun _ h => h)
  · refine j_iconst (pc' := 18) (x := (0 : Int32)) rfl rfl rfl ?_
    refine j_istore_n (pc' := 19) (L' := [some (.ref 75), some (.int l1), some (.int (0 : Int32))]) rfl rfl rfl ?_
    exact (l_X12_breaks_19 hd τ l1 σ j_F (0 : Int32))

noncomputable def f_X11_isSlot (l0 : Int32) : Int32 :=
  if (¬ l0 < 0) ∧ (l0 < (4 : Int32)) then ((1 : Int32)) else ((0 : Int32))

theorem b_X11_isSlot (l0 : Int32) : f_X11_isSlot l0 = 0 ∨ f_X11_isSlot l0 = 1 := by
  unfold f_X11_isSlot
  repeat' split
  all_goals first | exact Or.inl rfl | exact Or.inr rfl
theorem c_X11_isSlot (l0 : Int32) (σ : j_G) : j_K true 0 182 [.int l0] σ (some (f_X11_isSlot l0)) (j_Pi σ) := by
  refine j_mkK (M := M_cX11_isSlot) (L := [some (.int l0)]) (m := 0) t_182 rfl (j_rcvS rfl) rfl (fun d hd τ => ?_)
  unfold f_X11_isSlot
  refine j_iload_n (pc' := 1) rfl rfl rfl ?_
  refine j_twoT (pT := 9) (pF := 13) (L1 := [some (.int l0)]) (st1 := []) (fun o kT kF => ?_) (fun h1 => ?_) (fun h1 => ?_)
  · refine j_iflt (t := 13) (pc' := 4) rfl rfl rfl (fun h2 => ?_) (fun h2 => ?_)
    · exact kF (fun z => z.1 h2)
    · refine j_iload_n (pc' := 5) rfl rfl rfl ?_
      refine j_iconst (pc' := 6) (x := (4 : Int32)) rfl rfl rfl ?_
      refine j_icge (t := 13) (pc' := 9) rfl rfl rfl (fun h3 => ?_) (fun h3 => ?_)
      · exact kF (fun z => (h3) z.2)
      · exact kT (⟨h2, h3⟩)
  · refine j_iconst (pc' := 10) (x := (1 : Int32)) rfl rfl rfl ?_
    refine j_goto (t := 14) rfl rfl ?_
    exact j_ret rfl rfl rfl (fun _ h => h)
  · refine j_iconst (pc' := 14) (x := (0 : Int32)) rfl rfl rfl ?_
    exact j_ret rfl rfl rfl (fun _ h => h)

noncomputable def p_X8_isBelow_2 (a0 : Nat) (a0_2 : Nat) (l1 : Int32) (l2 : Int32) (σ : j_G) : Nat → Int32 → Option Int32
  | 0, _ => none
  | n + 1, l3 =>
    if l3 < (σ.1 a0 0) then (if (2 : Int32) = 0 then none else (
    j_lt (if (l3 - l3 / (2 : Int32) * (2 : Int32)) = 0 then (l1) else (l2)) fun v1 =>
    j_ix l3 60 (
    if ¬ (σ.2 a0_2 (l3).toNatClampNeg) < (0 : Int64) then (j_ix l3 60 (
    if ¬ (σ.2 a0_2 (l3).toNatClampNeg) < (v1).toInt64 then (some (0 : Int32)) else (p_X8_isBelow_2 a0 a0_2 l1 l2 σ n (l3 + (1 : Int32))))) else (some (0 : Int32))))) else (some (1 : Int32))

noncomputable def f_X8_isBelow (a0 : Nat) (a0_2 : Nat) (l1 : Int32) (l2 : Int32) (σ : j_G) : Option Int32 :=
  p_X8_isBelow_2 a0 a0_2 l1 l2 σ j_F (0 : Int32)
theorem l_X8_isBelow_2_67 {d : Nat} (hd : 0 ≤ d) (τ : j_G) (l1 : Int32) (l2 : Int32) (σ : j_G) : ∀ (n : Nat) (l3 : Int32), j_J true τ M_cX8_isBelow d 2 [some (.ref 67), some (.int l1), some (.int l2), some (.int l3), none] [] σ (p_X8_isBelow_2 67 68 l1 l2 σ n l3) (j_Pi σ) := by
  intro n
  induction n with
  | zero => intro l3; exact j_none
  | succ n ih =>
    intro l3
    unfold p_X8_isBelow_2
    refine j_iload_n (pc' := 3) rfl rfl rfl ?_
    refine j_aload_n (pc' := 4) rfl rfl rfl ?_
    refine j_gfi (pc' := 7) rfl rfl j_a67 rfl ?_
    refine j_two (pT := 10) (pF := 55) (L1 := [some (.ref 67), some (.int l1), some (.int l2), some (.int l3), none]) (st1 := []) (fun o kT kF => ?_) (fun h7 => ?_) (fun h7 => ?_)
    · refine j_icge (t := 55) (pc' := 10) rfl rfl rfl (fun h8 => ?_) (fun h8 => ?_)
      · exact kF h8
      · exact kT h8
    · refine j_iload_n (pc' := 11) rfl rfl rfl ?_
      refine j_iconst (pc' := 12) (x := (2 : Int32)) rfl rfl rfl ?_
      refine j_irem (pc' := 13) rfl rfl ?_
      refine j_ql (Φl := (fun r Q => j_Tr true τ M_cX8_isBelow d 21 [some (.ref 67), some (.int l1), some (.int l2), some (.int l3), none] [.int r] σ Q)) ?_ (fun v1 => ?_)
      · refine j_twoT (pT := 16) (pF := 20) (L1 := [some (.ref 67), some (.int l1), some (.int l2), some (.int l3), none]) (st1 := []) (fun o kT kF => ?_) (fun h1 => ?_) (fun h1 => ?_)
        · refine j_ifne (t := 20) (pc' := 16) rfl rfl rfl (fun h2 => ?_) (fun h2 => ?_)
          · exact kF h2
          · exact kT h2
        · refine j_iload_n (pc' := 17) rfl rfl rfl ?_
          refine j_goto (t := 21) rfl rfl ?_
          exact j_end (fun _ h => h)
        · refine j_iload_n (pc' := 21) rfl rfl rfl ?_
          exact j_end (fun _ h => h)
      show j_J true τ M_cX8_isBelow d 21 [some (.ref 67), some (.int l1), some (.int l2), some (.int l3), none] [.int v1] σ _ _
      refine j_istore (pc' := 23) (L' := [some (.ref 67), some (.int l1), some (.int l2), some (.int l3), some (.int v1)]) rfl rfl rfl ?_
      refine j_aload_n (pc' := 24) rfl rfl rfl ?_
      refine j_gfr (pc' := 27) (x := 68) rfl rfl j_a67 rfl rfl ?_
      refine j_iload_n (pc' := 28) rfl rfl rfl ?_
      refine j_lald (pc' := 29) rfl rfl j_a68 ?_
      refine j_lconst (pc' := 30) (x := (0 : Int64)) rfl rfl rfl ?_
      refine j_lcmp (pc' := 31) rfl rfl ?_
      refine j_two (pT := 34) (pF := 47) (L1 := [some (.ref 67), some (.int l1), some (.int l2), some (.int l3), some (.int v1)]) (st1 := []) (fun o kT kF => ?_) (fun h5 => ?_) (fun h5 => ?_)
      · refine j_ifltL (t := 47) (pc' := 34) rfl rfl rfl (fun h6 => ?_) (fun h6 => ?_)
        · exact kF (fun z => z h6)
        · exact kT h6
      · refine j_aload_n (pc' := 35) rfl rfl rfl ?_
        refine j_gfr (pc' := 38) (x := 68) rfl rfl j_a67 rfl rfl ?_
        refine j_iload_n (pc' := 39) rfl rfl rfl ?_
        refine j_lald (pc' := 40) rfl rfl j_a68 ?_
        refine j_iload (pc' := 42) rfl rfl rfl ?_
        refine j_i2l (pc' := 43) rfl rfl ?_
        refine j_lcmp (pc' := 44) rfl rfl ?_
        refine j_two (pT := 47) (pF := 49) (L1 := [some (.ref 67), some (.int l1), some (.int l2), some (.int l3), some (.int v1)]) (st1 := []) (fun o kT kF => ?_) (fun h3 => ?_) (fun h3 => ?_)
        · refine j_ifltL (t := 49) (pc' := 47) rfl rfl rfl (fun h4 => ?_) (fun h4 => ?_)
          · exact kF (fun z => z h4)
          · exact kT h4
        · refine j_iconst (pc' := 48) (x := (0 : Int32)) rfl rfl rfl ?_
          exact j_ret rfl rfl rfl (fun _ h => h)
        · refine j_iincx (pc' := 52) (y := (1 : Int32)) (L' := [some (.ref 67), some (.int l1), some (.int l2), some (.int (l3 + (1 : Int32))), some (.int v1)]) rfl rfl rfl rfl rfl ?_
          refine j_goto (t := 2) rfl rfl ?_
          refine j_wk [true, true, true, true, false] (L' := [some (.ref 67), some (.int l1), some (.int l2), some (.int (l3 + (1 : Int32))), none]) rfl ?_
          exact ih (l3 + (1 : Int32))
      · refine j_iconst (pc' := 48) (x := (0 : Int32)) rfl rfl rfl ?_
        exact j_ret rfl rfl rfl (fun _ h => h)
    · refine j_iconst (pc' := 56) (x := (1 : Int32)) rfl rfl rfl ?_
      exact j_ret rfl rfl rfl (fun _ h => h)

theorem c_X8_isBelow_67 (l1 : Int32) (l2 : Int32) (σ : j_G) : j_K true 0 95 [.ref 67, .int l1, .int l2] σ (f_X8_isBelow 67 68 l1 l2 σ) (j_Pi σ) := by
  refine j_mkK (M := M_cX8_isBelow) (L := [some (.ref 67), some (.int l1), some (.int l2), none, none]) (m := 2) t_95 rfl (j_rcvO j_a67 rfl) rfl (fun d hd τ => ?_)
  unfold f_X8_isBelow
  refine j_iconst (pc' := 1) (x := (0 : Int32)) rfl rfl rfl ?_
  refine j_istore_n (pc' := 2) (L' := [some (.ref 67), some (.int l1), some (.int l2), some (.int (0 : Int32)), none]) rfl rfl rfl ?_
  exact (l_X8_isBelow_2_67 hd τ l1 l2 σ j_F (0 : Int32))

theorem l_X8_isBelow_2_69 {d : Nat} (hd : 0 ≤ d) (τ : j_G) (l1 : Int32) (l2 : Int32) (σ : j_G) : ∀ (n : Nat) (l3 : Int32), j_J true τ M_cX8_isBelow d 2 [some (.ref 69), some (.int l1), some (.int l2), some (.int l3), none] [] σ (p_X8_isBelow_2 69 70 l1 l2 σ n l3) (j_Pi σ) := by
  intro n
  induction n with
  | zero => intro l3; exact j_none
  | succ n ih =>
    intro l3
    unfold p_X8_isBelow_2
    refine j_iload_n (pc' := 3) rfl rfl rfl ?_
    refine j_aload_n (pc' := 4) rfl rfl rfl ?_
    refine j_gfi (pc' := 7) rfl rfl j_a69 rfl ?_
    refine j_two (pT := 10) (pF := 55) (L1 := [some (.ref 69), some (.int l1), some (.int l2), some (.int l3), none]) (st1 := []) (fun o kT kF => ?_) (fun h7 => ?_) (fun h7 => ?_)
    · refine j_icge (t := 55) (pc' := 10) rfl rfl rfl (fun h8 => ?_) (fun h8 => ?_)
      · exact kF h8
      · exact kT h8
    · refine j_iload_n (pc' := 11) rfl rfl rfl ?_
      refine j_iconst (pc' := 12) (x := (2 : Int32)) rfl rfl rfl ?_
      refine j_irem (pc' := 13) rfl rfl ?_
      refine j_ql (Φl := (fun r Q => j_Tr true τ M_cX8_isBelow d 21 [some (.ref 69), some (.int l1), some (.int l2), some (.int l3), none] [.int r] σ Q)) ?_ (fun v1 => ?_)
      · refine j_twoT (pT := 16) (pF := 20) (L1 := [some (.ref 69), some (.int l1), some (.int l2), some (.int l3), none]) (st1 := []) (fun o kT kF => ?_) (fun h1 => ?_) (fun h1 => ?_)
        · refine j_ifne (t := 20) (pc' := 16) rfl rfl rfl (fun h2 => ?_) (fun h2 => ?_)
          · exact kF h2
          · exact kT h2
        · refine j_iload_n (pc' := 17) rfl rfl rfl ?_
          refine j_goto (t := 21) rfl rfl ?_
          exact j_end (fun _ h => h)
        · refine j_iload_n (pc' := 21) rfl rfl rfl ?_
          exact j_end (fun _ h => h)
      show j_J true τ M_cX8_isBelow d 21 [some (.ref 69), some (.int l1), some (.int l2), some (.int l3), none] [.int v1] σ _ _
      refine j_istore (pc' := 23) (L' := [some (.ref 69), some (.int l1), some (.int l2), some (.int l3), some (.int v1)]) rfl rfl rfl ?_
      refine j_aload_n (pc' := 24) rfl rfl rfl ?_
      refine j_gfr (pc' := 27) (x := 70) rfl rfl j_a69 rfl rfl ?_
      refine j_iload_n (pc' := 28) rfl rfl rfl ?_
      refine j_lald (pc' := 29) rfl rfl j_a70 ?_
      refine j_lconst (pc' := 30) (x := (0 : Int64)) rfl rfl rfl ?_
      refine j_lcmp (pc' := 31) rfl rfl ?_
      refine j_two (pT := 34) (pF := 47) (L1 := [some (.ref 69), some (.int l1), some (.int l2), some (.int l3), some (.int v1)]) (st1 := []) (fun o kT kF => ?_) (fun h5 => ?_) (fun h5 => ?_)
      · refine j_ifltL (t := 47) (pc' := 34) rfl rfl rfl (fun h6 => ?_) (fun h6 => ?_)
        · exact kF (fun z => z h6)
        · exact kT h6
      · refine j_aload_n (pc' := 35) rfl rfl rfl ?_
        refine j_gfr (pc' := 38) (x := 70) rfl rfl j_a69 rfl rfl ?_
        refine j_iload_n (pc' := 39) rfl rfl rfl ?_
        refine j_lald (pc' := 40) rfl rfl j_a70 ?_
        refine j_iload (pc' := 42) rfl rfl rfl ?_
        refine j_i2l (pc' := 43) rfl rfl ?_
        refine j_lcmp (pc' := 44) rfl rfl ?_
        refine j_two (pT := 47) (pF := 49) (L1 := [some (.ref 69), some (.int l1), some (.int l2), some (.int l3), some (.int v1)]) (st1 := []) (fun o kT kF => ?_) (fun h3 => ?_) (fun h3 => ?_)
        · refine j_ifltL (t := 49) (pc' := 47) rfl rfl rfl (fun h4 => ?_) (fun h4 => ?_)
          · exact kF (fun z => z h4)
          · exact kT h4
        · refine j_iconst (pc' := 48) (x := (0 : Int32)) rfl rfl rfl ?_
          exact j_ret rfl rfl rfl (fun _ h => h)
        · refine j_iincx (pc' := 52) (y := (1 : Int32)) (L' := [some (.ref 69), some (.int l1), some (.int l2), some (.int (l3 + (1 : Int32))), some (.int v1)]) rfl rfl rfl rfl rfl ?_
          refine j_goto (t := 2) rfl rfl ?_
          refine j_wk [true, true, true, true, false] (L' := [some (.ref 69), some (.int l1), some (.int l2), some (.int (l3 + (1 : Int32))), none]) rfl ?_
          exact ih (l3 + (1 : Int32))
      · refine j_iconst (pc' := 48) (x := (0 : Int32)) rfl rfl rfl ?_
        exact j_ret rfl rfl rfl (fun _ h => h)
    · refine j_iconst (pc' := 56) (x := (1 : Int32)) rfl rfl rfl ?_
      exact j_ret rfl rfl rfl (fun _ h => h)

theorem c_X8_isBelow_69 (l1 : Int32) (l2 : Int32) (σ : j_G) : j_K true 0 95 [.ref 69, .int l1, .int l2] σ (f_X8_isBelow 69 70 l1 l2 σ) (j_Pi σ) := by
  refine j_mkK (M := M_cX8_isBelow) (L := [some (.ref 69), some (.int l1), some (.int l2), none, none]) (m := 2) t_95 rfl (j_rcvO j_a69 rfl) rfl (fun d hd τ => ?_)
  unfold f_X8_isBelow
  refine j_iconst (pc' := 1) (x := (0 : Int32)) rfl rfl rfl ?_
  refine j_istore_n (pc' := 2) (L' := [some (.ref 69), some (.int l1), some (.int l2), some (.int (0 : Int32)), none]) rfl rfl rfl ?_
  exact (l_X8_isBelow_2_69 hd τ l1 l2 σ j_F (0 : Int32))

theorem l_X8_isBelow_2_71 {d : Nat} (hd : 0 ≤ d) (τ : j_G) (l1 : Int32) (l2 : Int32) (σ : j_G) : ∀ (n : Nat) (l3 : Int32), j_J true τ M_cX8_isBelow d 2 [some (.ref 71), some (.int l1), some (.int l2), some (.int l3), none] [] σ (p_X8_isBelow_2 71 72 l1 l2 σ n l3) (j_Pi σ) := by
  intro n
  induction n with
  | zero => intro l3; exact j_none
  | succ n ih =>
    intro l3
    unfold p_X8_isBelow_2
    refine j_iload_n (pc' := 3) rfl rfl rfl ?_
    refine j_aload_n (pc' := 4) rfl rfl rfl ?_
    refine j_gfi (pc' := 7) rfl rfl j_a71 rfl ?_
    refine j_two (pT := 10) (pF := 55) (L1 := [some (.ref 71), some (.int l1), some (.int l2), some (.int l3), none]) (st1 := []) (fun o kT kF => ?_) (fun h7 => ?_) (fun h7 => ?_)
    · refine j_icge (t := 55) (pc' := 10) rfl rfl rfl (fun h8 => ?_) (fun h8 => ?_)
      · exact kF h8
      · exact kT h8
    · refine j_iload_n (pc' := 11) rfl rfl rfl ?_
      refine j_iconst (pc' := 12) (x := (2 : Int32)) rfl rfl rfl ?_
      refine j_irem (pc' := 13) rfl rfl ?_
      refine j_ql (Φl := (fun r Q => j_Tr true τ M_cX8_isBelow d 21 [some (.ref 71), some (.int l1), some (.int l2), some (.int l3), none] [.int r] σ Q)) ?_ (fun v1 => ?_)
      · refine j_twoT (pT := 16) (pF := 20) (L1 := [some (.ref 71), some (.int l1), some (.int l2), some (.int l3), none]) (st1 := []) (fun o kT kF => ?_) (fun h1 => ?_) (fun h1 => ?_)
        · refine j_ifne (t := 20) (pc' := 16) rfl rfl rfl (fun h2 => ?_) (fun h2 => ?_)
          · exact kF h2
          · exact kT h2
        · refine j_iload_n (pc' := 17) rfl rfl rfl ?_
          refine j_goto (t := 21) rfl rfl ?_
          exact j_end (fun _ h => h)
        · refine j_iload_n (pc' := 21) rfl rfl rfl ?_
          exact j_end (fun _ h => h)
      show j_J true τ M_cX8_isBelow d 21 [some (.ref 71), some (.int l1), some (.int l2), some (.int l3), none] [.int v1] σ _ _
      refine j_istore (pc' := 23) (L' := [some (.ref 71), some (.int l1), some (.int l2), some (.int l3), some (.int v1)]) rfl rfl rfl ?_
      refine j_aload_n (pc' := 24) rfl rfl rfl ?_
      refine j_gfr (pc' := 27) (x := 72) rfl rfl j_a71 rfl rfl ?_
      refine j_iload_n (pc' := 28) rfl rfl rfl ?_
      refine j_lald (pc' := 29) rfl rfl j_a72 ?_
      refine j_lconst (pc' := 30) (x := (0 : Int64)) rfl rfl rfl ?_
      refine j_lcmp (pc' := 31) rfl rfl ?_
      refine j_two (pT := 34) (pF := 47) (L1 := [some (.ref 71), some (.int l1), some (.int l2), some (.int l3), some (.int v1)]) (st1 := []) (fun o kT kF => ?_) (fun h5 => ?_) (fun h5 => ?_)
      · refine j_ifltL (t := 47) (pc' := 34) rfl rfl rfl (fun h6 => ?_) (fun h6 => ?_)
        · exact kF (fun z => z h6)
        · exact kT h6
      · refine j_aload_n (pc' := 35) rfl rfl rfl ?_
        refine j_gfr (pc' := 38) (x := 72) rfl rfl j_a71 rfl rfl ?_
        refine j_iload_n (pc' := 39) rfl rfl rfl ?_
        refine j_lald (pc' := 40) rfl rfl j_a72 ?_
        refine j_iload (pc' := 42) rfl rfl rfl ?_
        refine j_i2l (pc' := 43) rfl rfl ?_
        refine j_lcmp (pc' := 44) rfl rfl ?_
        refine j_two (pT := 47) (pF := 49) (L1 := [some (.ref 71), some (.int l1), some (.int l2), some (.int l3), some (.int v1)]) (st1 := []) (fun o kT kF => ?_) (fun h3 => ?_) (fun h3 => ?_)
        · refine j_ifltL (t := 49) (pc' := 47) rfl rfl rfl (fun h4 => ?_) (fun h4 => ?_)
          · exact kF (fun z => z h4)
          · exact kT h4
        · refine j_iconst (pc' := 48) (x := (0 : Int32)) rfl rfl rfl ?_
          exact j_ret rfl rfl rfl (fun _ h => h)
        · refine j_iincx (pc' := 52) (y := (1 : Int32)) (L' := [some (.ref 71), some (.int l1), some (.int l2), some (.int (l3 + (1 : Int32))), some (.int v1)]) rfl rfl rfl rfl rfl ?_
          refine j_goto (t := 2) rfl rfl ?_
          refine j_wk [true, true, true, true, false] (L' := [some (.ref 71), some (.int l1), some (.int l2), some (.int (l3 + (1 : Int32))), none]) rfl ?_
          exact ih (l3 + (1 : Int32))
      · refine j_iconst (pc' := 48) (x := (0 : Int32)) rfl rfl rfl ?_
        exact j_ret rfl rfl rfl (fun _ h => h)
    · refine j_iconst (pc' := 56) (x := (1 : Int32)) rfl rfl rfl ?_
      exact j_ret rfl rfl rfl (fun _ h => h)

theorem c_X8_isBelow_71 (l1 : Int32) (l2 : Int32) (σ : j_G) : j_K true 0 95 [.ref 71, .int l1, .int l2] σ (f_X8_isBelow 71 72 l1 l2 σ) (j_Pi σ) := by
  refine j_mkK (M := M_cX8_isBelow) (L := [some (.ref 71), some (.int l1), some (.int l2), none, none]) (m := 2) t_95 rfl (j_rcvO j_a71 rfl) rfl (fun d hd τ => ?_)
  unfold f_X8_isBelow
  refine j_iconst (pc' := 1) (x := (0 : Int32)) rfl rfl rfl ?_
  refine j_istore_n (pc' := 2) (L' := [some (.ref 71), some (.int l1), some (.int l2), some (.int (0 : Int32)), none]) rfl rfl rfl ?_
  exact (l_X8_isBelow_2_71 hd τ l1 l2 σ j_F (0 : Int32))

theorem l_X8_isBelow_2_73 {d : Nat} (hd : 0 ≤ d) (τ : j_G) (l1 : Int32) (l2 : Int32) (σ : j_G) : ∀ (n : Nat) (l3 : Int32), j_J true τ M_cX8_isBelow d 2 [some (.ref 73), some (.int l1), some (.int l2), some (.int l3), none] [] σ (p_X8_isBelow_2 73 74 l1 l2 σ n l3) (j_Pi σ) := by
  intro n
  induction n with
  | zero => intro l3; exact j_none
  | succ n ih =>
    intro l3
    unfold p_X8_isBelow_2
    refine j_iload_n (pc' := 3) rfl rfl rfl ?_
    refine j_aload_n (pc' := 4) rfl rfl rfl ?_
    refine j_gfi (pc' := 7) rfl rfl j_a73 rfl ?_
    refine j_two (pT := 10) (pF := 55) (L1 := [some (.ref 73), some (.int l1), some (.int l2), some (.int l3), none]) (st1 := []) (fun o kT kF => ?_) (fun h7 => ?_) (fun h7 => ?_)
    · refine j_icge (t := 55) (pc' := 10) rfl rfl rfl (fun h8 => ?_) (fun h8 => ?_)
      · exact kF h8
      · exact kT h8
    · refine j_iload_n (pc' := 11) rfl rfl rfl ?_
      refine j_iconst (pc' := 12) (x := (2 : Int32)) rfl rfl rfl ?_
      refine j_irem (pc' := 13) rfl rfl ?_
      refine j_ql (Φl := (fun r Q => j_Tr true τ M_cX8_isBelow d 21 [some (.ref 73), some (.int l1), some (.int l2), some (.int l3), none] [.int r] σ Q)) ?_ (fun v1 => ?_)
      · refine j_twoT (pT := 16) (pF := 20) (L1 := [some (.ref 73), some (.int l1), some (.int l2), some (.int l3), none]) (st1 := []) (fun o kT kF => ?_) (fun h1 => ?_) (fun h1 => ?_)
        · refine j_ifne (t := 20) (pc' := 16) rfl rfl rfl (fun h2 => ?_) (fun h2 => ?_)
          · exact kF h2
          · exact kT h2
        · refine j_iload_n (pc' := 17) rfl rfl rfl ?_
          refine j_goto (t := 21) rfl rfl ?_
          exact j_end (fun _ h => h)
        · refine j_iload_n (pc' := 21) rfl rfl rfl ?_
          exact j_end (fun _ h => h)
      show j_J true τ M_cX8_isBelow d 21 [some (.ref 73), some (.int l1), some (.int l2), some (.int l3), none] [.int v1] σ _ _
      refine j_istore (pc' := 23) (L' := [some (.ref 73), some (.int l1), some (.int l2), some (.int l3), some (.int v1)]) rfl rfl rfl ?_
      refine j_aload_n (pc' := 24) rfl rfl rfl ?_
      refine j_gfr (pc' := 27) (x := 74) rfl rfl j_a73 rfl rfl ?_
      refine j_iload_n (pc' := 28) rfl rfl rfl ?_
      refine j_lald (pc' := 29) rfl rfl j_a74 ?_
      refine j_lconst (pc' := 30) (x := (0 : Int64)) rfl rfl rfl ?_
      refine j_lcmp (pc' := 31) rfl rfl ?_
      refine j_two (pT := 34) (pF := 47) (L1 := [some (.ref 73), some (.int l1), some (.int l2), some (.int l3), some (.int v1)]) (st1 := []) (fun o kT kF => ?_) (fun h5 => ?_) (fun h5 => ?_)
      · refine j_ifltL (t := 47) (pc' := 34) rfl rfl rfl (fun h6 => ?_) (fun h6 => ?_)
        · exact kF (fun z => z h6)
        · exact kT h6
      · refine j_aload_n (pc' := 35) rfl rfl rfl ?_
        refine j_gfr (pc' := 38) (x := 74) rfl rfl j_a73 rfl rfl ?_
        refine j_iload_n (pc' := 39) rfl rfl rfl ?_
        refine j_lald (pc' := 40) rfl rfl j_a74 ?_
        refine j_iload (pc' := 42) rfl rfl rfl ?_
        refine j_i2l (pc' := 43) rfl rfl ?_
        refine j_lcmp (pc' := 44) rfl rfl ?_
        refine j_two (pT := 47) (pF := 49) (L1 := [some (.ref 73), some (.int l1), some (.int l2), some (.int l3), some (.int v1)]) (st1 := []) (fun o kT kF => ?_) (fun h3 => ?_) (fun h3 => ?_)
        · refine j_ifltL (t := 49) (pc' := 47) rfl rfl rfl (fun h4 => ?_) (fun h4 => ?_)
          · exact kF (fun z => z h4)
          · exact kT h4
        · refine j_iconst (pc' := 48) (x := (0 : Int32)) rfl rfl rfl ?_
          exact j_ret rfl rfl rfl (fun _ h => h)
        · refine j_iincx (pc' := 52) (y := (1 : Int32)) (L' := [some (.ref 73), some (.int l1), some (.int l2), some (.int (l3 + (1 : Int32))), some (.int v1)]) rfl rfl rfl rfl rfl ?_
          refine j_goto (t := 2) rfl rfl ?_
          refine j_wk [true, true, true, true, false] (L' := [some (.ref 73), some (.int l1), some (.int l2), some (.int (l3 + (1 : Int32))), none]) rfl ?_
          exact ih (l3 + (1 : Int32))
      · refine j_iconst (pc' := 48) (x := (0 : Int32)) rfl rfl rfl ?_
        exact j_ret rfl rfl rfl (fun _ h => h)
    · refine j_iconst (pc' := 56) (x := (1 : Int32)) rfl rfl rfl ?_
      exact j_ret rfl rfl rfl (fun _ h => h)

theorem c_X8_isBelow_73 (l1 : Int32) (l2 : Int32) (σ : j_G) : j_K true 0 95 [.ref 73, .int l1, .int l2] σ (f_X8_isBelow 73 74 l1 l2 σ) (j_Pi σ) := by
  refine j_mkK (M := M_cX8_isBelow) (L := [some (.ref 73), some (.int l1), some (.int l2), none, none]) (m := 2) t_95 rfl (j_rcvO j_a73 rfl) rfl (fun d hd τ => ?_)
  unfold f_X8_isBelow
  refine j_iconst (pc' := 1) (x := (0 : Int32)) rfl rfl rfl ?_
  refine j_istore_n (pc' := 2) (L' := [some (.ref 73), some (.int l1), some (.int l2), some (.int (0 : Int32)), none]) rfl rfl rfl ?_
  exact (l_X8_isBelow_2_73 hd τ l1 l2 σ j_F (0 : Int32))

noncomputable def f_X11_whyUnheard (l1 : Int32) (σ : j_G) : Option Int32 :=
  if ((f_X11_isSlot l1) = 0) ∨ ((f_X2_isTold σ) = 0) then (some (-2 : Int32)) else (if l1 = 0 then (if (f_X8_isMade 67 σ) = 0 then (some (-6 : Int32)) else (j_b1 (f_X8_isBelow 67 68 (f_X2_holes 1 σ) (f_X2_holes 1 σ) σ) fun v1 =>
  if ¬ v1 = 0 then (some (0 : Int32)) else (some (-2 : Int32)))) else
  if l1 = 1 then (if (f_X8_isMade 69 σ) = 0 then (some (-6 : Int32)) else (j_b1 (f_X8_isBelow 69 70 (f_X2_holes 1 σ) (f_X2_holes 1 σ) σ) fun v2 =>
  if ¬ v2 = 0 then (some (0 : Int32)) else (some (-2 : Int32)))) else
  if l1 = 2 then (if (f_X8_isMade 71 σ) = 0 then (some (-6 : Int32)) else (j_b1 (f_X8_isBelow 71 72 (f_X2_holes 1 σ) (f_X2_holes 1 σ) σ) fun v3 =>
  if ¬ v3 = 0 then (some (0 : Int32)) else (some (-2 : Int32)))) else
  if l1 = 3 then (if (f_X8_isMade 73 σ) = 0 then (some (-6 : Int32)) else (j_b1 (f_X8_isBelow 73 74 (f_X2_holes 1 σ) (f_X2_holes 1 σ) σ) fun v4 =>
  if ¬ v4 = 0 then (some (0 : Int32)) else (some (-2 : Int32)))) else
  none)
theorem c_X11_whyUnheard (l1 : Int32) (σ : j_G) : j_K true 1 193 [.ref 0, .int l1] σ (f_X11_whyUnheard l1 σ) (j_Pi σ) := by
  refine j_mkK (M := M_cX11_whyUnheard) (L := [some (.ref 0), some (.int l1)]) (m := 0) t_193 rfl (j_rcvO j_a0 rfl) rfl (fun d hd τ => ?_)
  unfold f_X11_whyUnheard
  refine j_iload_n (pc' := 1) rfl rfl rfl ?_
  refine j_callTi (pc' := 4) (ai := 182) (vs := [.int l1]) (rest := []) rfl rfl (fun _ _ => rfl) (c_X11_isSlot l1 σ) (j_dd rfl hd) rfl ?_
  refine j_two (pT := 17) (pF := 20) (L1 := [some (.ref 0), some (.int l1)]) (st1 := []) (fun o kT kF => ?_) (fun h21 => ?_) (fun h21 => ?_)
  · refine j_ifeq (t := 17) (pc' := 7) rfl rfl rfl (fun h22 => ?_) (fun h22 => ?_)
    · exact kT (Or.inl h22)
    · refine j_aload_n (pc' := 8) rfl rfl rfl ?_
      refine j_gfr (pc' := 11) (x := 1) rfl rfl j_a0 rfl rfl ?_
      refine j_callTi (pc' := 14) (ai := 11) (vs := [.ref 1]) (rest := []) rfl rfl (fun _ _ => rfl) (c_X2_isTold  σ) (j_dd rfl hd) rfl ?_
      refine j_ifne (t := 20) (pc' := 17) rfl rfl rfl (fun h23 => ?_) (fun h23 => ?_)
      · exact kF (fun z => z.elim h22 (h23))
      · exact kT (Or.inr (h23))
  · refine j_bipush (pc' := 19) (x := (-2 : Int32)) rfl rfl rfl ?_
    exact j_ret rfl rfl rfl (fun _ h => h)
  · refine j_aload_n (pc' := 21) rfl rfl rfl ?_
    refine j_gfr (pc' := 24) (x := 42) rfl rfl j_a0 rfl rfl ?_
    refine j_iload_n (pc' := 25) rfl rfl rfl ?_
    refine j_spl (k := (0 : Int32)) (fun h1 => ?_) (fun h1 => ?_)
    · subst h1
      refine j_aald (pc' := 26) (r := 67) rfl rfl j_a42 (by decide) rfl ?_
      refine j_callTi (pc' := 29) (ai := 91) (vs := [.ref 67]) (rest := []) rfl rfl (fun _ _ => rfl) (c_X8_isMade_67  σ) (j_dd rfl hd) rfl ?_
      refine j_two (pT := 32) (pF := 35) (L1 := [some (.ref 0), some (.int (0 : Int32))]) (st1 := []) (fun o kT kF => ?_) (fun h4 => ?_) (fun h4 => ?_)
      · refine j_ifne (t := 35) (pc' := 32) rfl rfl rfl (fun h5 => ?_) (fun h5 => ?_)
        · exact kF h5
        · exact kT h5
      · refine j_bipush (pc' := 34) (x := (-6 : Int32)) rfl rfl rfl ?_
        exact j_ret rfl rfl rfl (fun _ h => h)
      · refine j_aload_n (pc' := 36) rfl rfl rfl ?_
        refine j_gfr (pc' := 39) (x := 42) rfl rfl j_a0 rfl rfl ?_
        refine j_iload_n (pc' := 40) rfl rfl rfl ?_
        refine j_aald (pc' := 41) (r := 67) rfl rfl j_a42 (by decide) rfl ?_
        refine j_aload_n (pc' := 42) rfl rfl rfl ?_
        refine j_gfr (pc' := 45) (x := 1) rfl rfl j_a0 rfl rfl ?_
        refine j_callTi (pc' := 48) (ai := 12) (vs := [.ref 1]) (rest := [.ref 67]) rfl rfl (fun _ _ => rfl) (c_X2_holes_1  σ) (j_dd rfl hd) rfl ?_
        refine j_aload_n (pc' := 49) rfl rfl rfl ?_
        refine j_gfr (pc' := 52) (x := 1) rfl rfl j_a0 rfl rfl ?_
        refine j_callTi (pc' := 55) (ai := 12) (vs := [.ref 1]) (rest := [.int (f_X2_holes 1 σ), .ref 67]) rfl rfl (fun _ _ => rfl) (c_X2_holes_1  σ) (j_dd rfl hd) rfl ?_
        refine j_callPi (pc' := 58) (ai := 95) (vs := [.ref 67, .int (f_X2_holes 1 σ), .int (f_X2_holes 1 σ)]) (rest := []) rfl rfl (fun _ _ => rfl) (c_X8_isBelow_67 (f_X2_holes 1 σ) (f_X2_holes 1 σ) σ) (j_dd rfl hd) rfl (fun v1 => ?_)
        refine j_two (pT := 61) (pF := 65) (L1 := [some (.ref 0), some (.int (0 : Int32))]) (st1 := []) (fun o kT kF => ?_) (fun h2 => ?_) (fun h2 => ?_)
        · refine j_ifeq (t := 65) (pc' := 61) rfl rfl rfl (fun h3 => ?_) (fun h3 => ?_)
          · exact kF (fun z => z h3)
          · exact kT h3
        · refine j_iconst (pc' := 62) (x := (0 : Int32)) rfl rfl rfl ?_
          refine j_goto (t := 67) rfl rfl ?_
          exact j_ret rfl rfl rfl (fun _ h => h)
        · refine j_bipush (pc' := 67) (x := (-2 : Int32)) rfl rfl rfl ?_
          exact j_ret rfl rfl rfl (fun _ h => h)
    refine j_spl (k := (1 : Int32)) (fun h6 => ?_) (fun h6 => ?_)
    · subst h6
      refine j_aald (pc' := 26) (r := 69) rfl rfl j_a42 (by decide) rfl ?_
      refine j_callTi (pc' := 29) (ai := 91) (vs := [.ref 69]) (rest := []) rfl rfl (fun _ _ => rfl) (c_X8_isMade_69  σ) (j_dd rfl hd) rfl ?_
      refine j_two (pT := 32) (pF := 35) (L1 := [some (.ref 0), some (.int (1 : Int32))]) (st1 := []) (fun o kT kF => ?_) (fun h9 => ?_) (fun h9 => ?_)
      · refine j_ifne (t := 35) (pc' := 32) rfl rfl rfl (fun h10 => ?_) (fun h10 => ?_)
        · exact kF h10
        · exact kT h10
      · refine j_bipush (pc' := 34) (x := (-6 : Int32)) rfl rfl rfl ?_
        exact j_ret rfl rfl rfl (fun _ h => h)
      · refine j_aload_n (pc' := 36) rfl rfl rfl ?_
        refine j_gfr (pc' := 39) (x := 42) rfl rfl j_a0 rfl rfl ?_
        refine j_iload_n (pc' := 40) rfl rfl rfl ?_
        refine j_aald (pc' := 41) (r := 69) rfl rfl j_a42 (by decide) rfl ?_
        refine j_aload_n (pc' := 42) rfl rfl rfl ?_
        refine j_gfr (pc' := 45) (x := 1) rfl rfl j_a0 rfl rfl ?_
        refine j_callTi (pc' := 48) (ai := 12) (vs := [.ref 1]) (rest := [.ref 69]) rfl rfl (fun _ _ => rfl) (c_X2_holes_1  σ) (j_dd rfl hd) rfl ?_
        refine j_aload_n (pc' := 49) rfl rfl rfl ?_
        refine j_gfr (pc' := 52) (x := 1) rfl rfl j_a0 rfl rfl ?_
        refine j_callTi (pc' := 55) (ai := 12) (vs := [.ref 1]) (rest := [.int (f_X2_holes 1 σ), .ref 69]) rfl rfl (fun _ _ => rfl) (c_X2_holes_1  σ) (j_dd rfl hd) rfl ?_
        refine j_callPi (pc' := 58) (ai := 95) (vs := [.ref 69, .int (f_X2_holes 1 σ), .int (f_X2_holes 1 σ)]) (rest := []) rfl rfl (fun _ _ => rfl) (c_X8_isBelow_69 (f_X2_holes 1 σ) (f_X2_holes 1 σ) σ) (j_dd rfl hd) rfl (fun v2 => ?_)
        refine j_two (pT := 61) (pF := 65) (L1 := [some (.ref 0), some (.int (1 : Int32))]) (st1 := []) (fun o kT kF => ?_) (fun h7 => ?_) (fun h7 => ?_)
        · refine j_ifeq (t := 65) (pc' := 61) rfl rfl rfl (fun h8 => ?_) (fun h8 => ?_)
          · exact kF (fun z => z h8)
          · exact kT h8
        · refine j_iconst (pc' := 62) (x := (0 : Int32)) rfl rfl rfl ?_
          refine j_goto (t := 67) rfl rfl ?_
          exact j_ret rfl rfl rfl (fun _ h => h)
        · refine j_bipush (pc' := 67) (x := (-2 : Int32)) rfl rfl rfl ?_
          exact j_ret rfl rfl rfl (fun _ h => h)
    refine j_spl (k := (2 : Int32)) (fun h11 => ?_) (fun h11 => ?_)
    · subst h11
      refine j_aald (pc' := 26) (r := 71) rfl rfl j_a42 (by decide) rfl ?_
      refine j_callTi (pc' := 29) (ai := 91) (vs := [.ref 71]) (rest := []) rfl rfl (fun _ _ => rfl) (c_X8_isMade_71  σ) (j_dd rfl hd) rfl ?_
      refine j_two (pT := 32) (pF := 35) (L1 := [some (.ref 0), some (.int (2 : Int32))]) (st1 := []) (fun o kT kF => ?_) (fun h14 => ?_) (fun h14 => ?_)
      · refine j_ifne (t := 35) (pc' := 32) rfl rfl rfl (fun h15 => ?_) (fun h15 => ?_)
        · exact kF h15
        · exact kT h15
      · refine j_bipush (pc' := 34) (x := (-6 : Int32)) rfl rfl rfl ?_
        exact j_ret rfl rfl rfl (fun _ h => h)
      · refine j_aload_n (pc' := 36) rfl rfl rfl ?_
        refine j_gfr (pc' := 39) (x := 42) rfl rfl j_a0 rfl rfl ?_
        refine j_iload_n (pc' := 40) rfl rfl rfl ?_
        refine j_aald (pc' := 41) (r := 71) rfl rfl j_a42 (by decide) rfl ?_
        refine j_aload_n (pc' := 42) rfl rfl rfl ?_
        refine j_gfr (pc' := 45) (x := 1) rfl rfl j_a0 rfl rfl ?_
        refine j_callTi (pc' := 48) (ai := 12) (vs := [.ref 1]) (rest := [.ref 71]) rfl rfl (fun _ _ => rfl) (c_X2_holes_1  σ) (j_dd rfl hd) rfl ?_
        refine j_aload_n (pc' := 49) rfl rfl rfl ?_
        refine j_gfr (pc' := 52) (x := 1) rfl rfl j_a0 rfl rfl ?_
        refine j_callTi (pc' := 55) (ai := 12) (vs := [.ref 1]) (rest := [.int (f_X2_holes 1 σ), .ref 71]) rfl rfl (fun _ _ => rfl) (c_X2_holes_1  σ) (j_dd rfl hd) rfl ?_
        refine j_callPi (pc' := 58) (ai := 95) (vs := [.ref 71, .int (f_X2_holes 1 σ), .int (f_X2_holes 1 σ)]) (rest := []) rfl rfl (fun _ _ => rfl) (c_X8_isBelow_71 (f_X2_holes 1 σ) (f_X2_holes 1 σ) σ) (j_dd rfl hd) rfl (fun v3 => ?_)
        refine j_two (pT := 61) (pF := 65) (L1 := [some (.ref 0), some (.int (2 : Int32))]) (st1 := []) (fun o kT kF => ?_) (fun h12 => ?_) (fun h12 => ?_)
        · refine j_ifeq (t := 65) (pc' := 61) rfl rfl rfl (fun h13 => ?_) (fun h13 => ?_)
          · exact kF (fun z => z h13)
          · exact kT h13
        · refine j_iconst (pc' := 62) (x := (0 : Int32)) rfl rfl rfl ?_
          refine j_goto (t := 67) rfl rfl ?_
          exact j_ret rfl rfl rfl (fun _ h => h)
        · refine j_bipush (pc' := 67) (x := (-2 : Int32)) rfl rfl rfl ?_
          exact j_ret rfl rfl rfl (fun _ h => h)
    refine j_spl (k := (3 : Int32)) (fun h16 => ?_) (fun h16 => ?_)
    · subst h16
      refine j_aald (pc' := 26) (r := 73) rfl rfl j_a42 (by decide) rfl ?_
      refine j_callTi (pc' := 29) (ai := 91) (vs := [.ref 73]) (rest := []) rfl rfl (fun _ _ => rfl) (c_X8_isMade_73  σ) (j_dd rfl hd) rfl ?_
      refine j_two (pT := 32) (pF := 35) (L1 := [some (.ref 0), some (.int (3 : Int32))]) (st1 := []) (fun o kT kF => ?_) (fun h19 => ?_) (fun h19 => ?_)
      · refine j_ifne (t := 35) (pc' := 32) rfl rfl rfl (fun h20 => ?_) (fun h20 => ?_)
        · exact kF h20
        · exact kT h20
      · refine j_bipush (pc' := 34) (x := (-6 : Int32)) rfl rfl rfl ?_
        exact j_ret rfl rfl rfl (fun _ h => h)
      · refine j_aload_n (pc' := 36) rfl rfl rfl ?_
        refine j_gfr (pc' := 39) (x := 42) rfl rfl j_a0 rfl rfl ?_
        refine j_iload_n (pc' := 40) rfl rfl rfl ?_
        refine j_aald (pc' := 41) (r := 73) rfl rfl j_a42 (by decide) rfl ?_
        refine j_aload_n (pc' := 42) rfl rfl rfl ?_
        refine j_gfr (pc' := 45) (x := 1) rfl rfl j_a0 rfl rfl ?_
        refine j_callTi (pc' := 48) (ai := 12) (vs := [.ref 1]) (rest := [.ref 73]) rfl rfl (fun _ _ => rfl) (c_X2_holes_1  σ) (j_dd rfl hd) rfl ?_
        refine j_aload_n (pc' := 49) rfl rfl rfl ?_
        refine j_gfr (pc' := 52) (x := 1) rfl rfl j_a0 rfl rfl ?_
        refine j_callTi (pc' := 55) (ai := 12) (vs := [.ref 1]) (rest := [.int (f_X2_holes 1 σ), .ref 73]) rfl rfl (fun _ _ => rfl) (c_X2_holes_1  σ) (j_dd rfl hd) rfl ?_
        refine j_callPi (pc' := 58) (ai := 95) (vs := [.ref 73, .int (f_X2_holes 1 σ), .int (f_X2_holes 1 σ)]) (rest := []) rfl rfl (fun _ _ => rfl) (c_X8_isBelow_73 (f_X2_holes 1 σ) (f_X2_holes 1 σ) σ) (j_dd rfl hd) rfl (fun v4 => ?_)
        refine j_two (pT := 61) (pF := 65) (L1 := [some (.ref 0), some (.int (3 : Int32))]) (st1 := []) (fun o kT kF => ?_) (fun h17 => ?_) (fun h17 => ?_)
        · refine j_ifeq (t := 65) (pc' := 61) rfl rfl rfl (fun h18 => ?_) (fun h18 => ?_)
          · exact kF (fun z => z h18)
          · exact kT h18
        · refine j_iconst (pc' := 62) (x := (0 : Int32)) rfl rfl rfl ?_
          refine j_goto (t := 67) rfl rfl ?_
          exact j_ret rfl rfl rfl (fun _ h => h)
        · refine j_bipush (pc' := 67) (x := (-2 : Int32)) rfl rfl rfl ?_
          exact j_ret rfl rfl rfl (fun _ h => h)
    exact j_none

noncomputable def p_X8_isPeriod_2 (a0 : Nat) (a0_2 : Nat) (l1 : Int32) (σ : j_G) : Nat → Int32 → Option Int32
  | 0, _ => none
  | n + 1, l2 =>
    if l2 < (σ.1 a0 0) then (j_ix l2 60 (
    j_ix (l2 - l1) 60 (
    if ¬ (σ.2 a0_2 (l2).toNatClampNeg) = (σ.2 a0_2 ((l2 - l1)).toNatClampNeg) then (some (0 : Int32)) else (p_X8_isPeriod_2 a0 a0_2 l1 σ n (l2 + (1 : Int32)))))) else (some (1 : Int32))

noncomputable def f_X8_isPeriod (a0 : Nat) (a0_2 : Nat) (l1 : Int32) (σ : j_G) : Option Int32 :=
  p_X8_isPeriod_2 a0 a0_2 l1 σ j_F l1
theorem l_X8_isPeriod_2_67 {d : Nat} (hd : 0 ≤ d) (τ : j_G) (l1 : Int32) (σ : j_G) : ∀ (n : Nat) (l2 : Int32), j_J true τ M_cX8_isPeriod d 2 [some (.ref 67), some (.int l1), some (.int l2)] [] σ (p_X8_isPeriod_2 67 68 l1 σ n l2) (j_Pi σ) := by
  intro n
  induction n with
  | zero => intro l2; exact j_none
  | succ n ih =>
    intro l2
    unfold p_X8_isPeriod_2
    refine j_iload_n (pc' := 3) rfl rfl rfl ?_
    refine j_aload_n (pc' := 4) rfl rfl rfl ?_
    refine j_gfi (pc' := 7) rfl rfl j_a67 rfl ?_
    refine j_two (pT := 10) (pF := 36) (L1 := [some (.ref 67), some (.int l1), some (.int l2)]) (st1 := []) (fun o kT kF => ?_) (fun h3 => ?_) (fun h3 => ?_)
    · refine j_icge (t := 36) (pc' := 10) rfl rfl rfl (fun h4 => ?_) (fun h4 => ?_)
      · exact kF h4
      · exact kT h4
    · refine j_aload_n (pc' := 11) rfl rfl rfl ?_
      refine j_gfr (pc' := 14) (x := 68) rfl rfl j_a67 rfl rfl ?_
      refine j_iload_n (pc' := 15) rfl rfl rfl ?_
      refine j_lald (pc' := 16) rfl rfl j_a68 ?_
      refine j_aload_n (pc' := 17) rfl rfl rfl ?_
      refine j_gfr (pc' := 20) (x := 68) rfl rfl j_a67 rfl rfl ?_
      refine j_iload_n (pc' := 21) rfl rfl rfl ?_
      refine j_iload_n (pc' := 22) rfl rfl rfl ?_
      refine j_isub (pc' := 23) rfl rfl ?_
      refine j_lald (pc' := 24) rfl rfl j_a68 ?_
      refine j_lcmp (pc' := 25) rfl rfl ?_
      refine j_two (pT := 28) (pF := 30) (L1 := [some (.ref 67), some (.int l1), some (.int l2)]) (st1 := []) (fun o kT kF => ?_) (fun h1 => ?_) (fun h1 => ?_)
      · refine j_ifeqL (t := 30) (pc' := 28) rfl rfl rfl (fun h2 => ?_) (fun h2 => ?_)
        · exact kF (fun z => z h2)
        · exact kT h2
      · refine j_iconst (pc' := 29) (x := (0 : Int32)) rfl rfl rfl ?_
        exact j_ret rfl rfl rfl (fun _ h => h)
      · refine j_iincx (pc' := 33) (y := (1 : Int32)) (L' := [some (.ref 67), some (.int l1), some (.int (l2 + (1 : Int32)))]) rfl rfl rfl rfl rfl ?_
        refine j_goto (t := 2) rfl rfl ?_
        exact ih (l2 + (1 : Int32))
    · refine j_iconst (pc' := 37) (x := (1 : Int32)) rfl rfl rfl ?_
      exact j_ret rfl rfl rfl (fun _ h => h)

theorem c_X8_isPeriod_67 (l1 : Int32) (σ : j_G) : j_K true 0 96 [.ref 67, .int l1] σ (f_X8_isPeriod 67 68 l1 σ) (j_Pi σ) := by
  refine j_mkK (M := M_cX8_isPeriod) (L := [some (.ref 67), some (.int l1), none]) (m := 1) t_96 rfl (j_rcvO j_a67 rfl) rfl (fun d hd τ => ?_)
  unfold f_X8_isPeriod
  refine j_iload_n (pc' := 1) rfl rfl rfl ?_
  refine j_istore_n (pc' := 2) (L' := [some (.ref 67), some (.int l1), some (.int l1)]) rfl rfl rfl ?_
  exact (l_X8_isPeriod_2_67 hd τ l1 σ j_F l1)

noncomputable def p_X8_leastPeriod_2 (a0 : Nat) (a0_2 : Nat) (σ : j_G) : Nat → Int32 → Option Int32
  | 0, _ => none
  | n + 1, l1 =>
    if l1 < (σ.1 a0 0) then (j_b1 (f_X8_isPeriod a0 a0_2 l1 σ) fun v1 =>
    if ¬ v1 = 0 then (some l1) else (p_X8_leastPeriod_2 a0 a0_2 σ n (l1 + (1 : Int32)))) else (some (-1 : Int32))

noncomputable def f_X8_leastPeriod (a0 : Nat) (a0_2 : Nat) (σ : j_G) : Option Int32 :=
  p_X8_leastPeriod_2 a0 a0_2 σ j_F (1 : Int32)
theorem l_X8_leastPeriod_2_67 {d : Nat} (hd : 1 ≤ d) (τ : j_G) (σ : j_G) : ∀ (n : Nat) (l1 : Int32), j_J true τ M_cX8_leastPeriod d 2 [some (.ref 67), some (.int l1)] [] σ (p_X8_leastPeriod_2 67 68 σ n l1) (j_Pi σ) := by
  intro n
  induction n with
  | zero => intro l1; exact j_none
  | succ n ih =>
    intro l1
    unfold p_X8_leastPeriod_2
    refine j_iload_n (pc' := 3) rfl rfl rfl ?_
    refine j_aload_n (pc' := 4) rfl rfl rfl ?_
    refine j_gfi (pc' := 7) rfl rfl j_a67 rfl ?_
    refine j_two (pT := 10) (pF := 26) (L1 := [some (.ref 67), some (.int l1)]) (st1 := []) (fun o kT kF => ?_) (fun h3 => ?_) (fun h3 => ?_)
    · refine j_icge (t := 26) (pc' := 10) rfl rfl rfl (fun h4 => ?_) (fun h4 => ?_)
      · exact kF h4
      · exact kT h4
    · refine j_aload_n (pc' := 11) rfl rfl rfl ?_
      refine j_iload_n (pc' := 12) rfl rfl rfl ?_
      refine j_callPi (pc' := 15) (ai := 96) (vs := [.ref 67, .int l1]) (rest := []) rfl rfl (fun _ _ => rfl) (c_X8_isPeriod_67 l1 σ) (j_dd rfl hd) rfl (fun v1 => ?_)
      refine j_two (pT := 18) (pF := 20) (L1 := [some (.ref 67), some (.int l1)]) (st1 := []) (fun o kT kF => ?_) (fun h1 => ?_) (fun h1 => ?_)
      · refine j_ifeq (t := 20) (pc' := 18) rfl rfl rfl (fun h2 => ?_) (fun h2 => ?_)
        · exact kF (fun z => z h2)
        · exact kT h2
      · refine j_iload_n (pc' := 19) rfl rfl rfl ?_
        exact j_ret rfl rfl rfl (fun _ h => h)
      · refine j_iincx (pc' := 23) (y := (1 : Int32)) (L' := [some (.ref 67), some (.int (l1 + (1 : Int32)))]) rfl rfl rfl rfl rfl ?_
        refine j_goto (t := 2) rfl rfl ?_
        exact ih (l1 + (1 : Int32))
    · refine j_iconst (pc' := 27) (x := (-1 : Int32)) rfl rfl rfl ?_
      exact j_ret rfl rfl rfl (fun _ h => h)

theorem c_X8_leastPeriod_67 (σ : j_G) : j_K true 1 97 [.ref 67] σ (f_X8_leastPeriod 67 68 σ) (j_Pi σ) := by
  refine j_mkK (M := M_cX8_leastPeriod) (L := [some (.ref 67), none]) (m := 1) t_97 rfl (j_rcvO j_a67 rfl) rfl (fun d hd τ => ?_)
  unfold f_X8_leastPeriod
  refine j_iconst (pc' := 1) (x := (1 : Int32)) rfl rfl rfl ?_
  refine j_istore_n (pc' := 2) (L' := [some (.ref 67), some (.int (1 : Int32))]) rfl rfl rfl ?_
  exact (l_X8_leastPeriod_2_67 hd τ σ j_F (1 : Int32))

theorem l_X8_isPeriod_2_69 {d : Nat} (hd : 0 ≤ d) (τ : j_G) (l1 : Int32) (σ : j_G) : ∀ (n : Nat) (l2 : Int32), j_J true τ M_cX8_isPeriod d 2 [some (.ref 69), some (.int l1), some (.int l2)] [] σ (p_X8_isPeriod_2 69 70 l1 σ n l2) (j_Pi σ) := by
  intro n
  induction n with
  | zero => intro l2; exact j_none
  | succ n ih =>
    intro l2
    unfold p_X8_isPeriod_2
    refine j_iload_n (pc' := 3) rfl rfl rfl ?_
    refine j_aload_n (pc' := 4) rfl rfl rfl ?_
    refine j_gfi (pc' := 7) rfl rfl j_a69 rfl ?_
    refine j_two (pT := 10) (pF := 36) (L1 := [some (.ref 69), some (.int l1), some (.int l2)]) (st1 := []) (fun o kT kF => ?_) (fun h3 => ?_) (fun h3 => ?_)
    · refine j_icge (t := 36) (pc' := 10) rfl rfl rfl (fun h4 => ?_) (fun h4 => ?_)
      · exact kF h4
      · exact kT h4
    · refine j_aload_n (pc' := 11) rfl rfl rfl ?_
      refine j_gfr (pc' := 14) (x := 70) rfl rfl j_a69 rfl rfl ?_
      refine j_iload_n (pc' := 15) rfl rfl rfl ?_
      refine j_lald (pc' := 16) rfl rfl j_a70 ?_
      refine j_aload_n (pc' := 17) rfl rfl rfl ?_
      refine j_gfr (pc' := 20) (x := 70) rfl rfl j_a69 rfl rfl ?_
      refine j_iload_n (pc' := 21) rfl rfl rfl ?_
      refine j_iload_n (pc' := 22) rfl rfl rfl ?_
      refine j_isub (pc' := 23) rfl rfl ?_
      refine j_lald (pc' := 24) rfl rfl j_a70 ?_
      refine j_lcmp (pc' := 25) rfl rfl ?_
      refine j_two (pT := 28) (pF := 30) (L1 := [some (.ref 69), some (.int l1), some (.int l2)]) (st1 := []) (fun o kT kF => ?_) (fun h1 => ?_) (fun h1 => ?_)
      · refine j_ifeqL (t := 30) (pc' := 28) rfl rfl rfl (fun h2 => ?_) (fun h2 => ?_)
        · exact kF (fun z => z h2)
        · exact kT h2
      · refine j_iconst (pc' := 29) (x := (0 : Int32)) rfl rfl rfl ?_
        exact j_ret rfl rfl rfl (fun _ h => h)
      · refine j_iincx (pc' := 33) (y := (1 : Int32)) (L' := [some (.ref 69), some (.int l1), some (.int (l2 + (1 : Int32)))]) rfl rfl rfl rfl rfl ?_
        refine j_goto (t := 2) rfl rfl ?_
        exact ih (l2 + (1 : Int32))
    · refine j_iconst (pc' := 37) (x := (1 : Int32)) rfl rfl rfl ?_
      exact j_ret rfl rfl rfl (fun _ h => h)

theorem c_X8_isPeriod_69 (l1 : Int32) (σ : j_G) : j_K true 0 96 [.ref 69, .int l1] σ (f_X8_isPeriod 69 70 l1 σ) (j_Pi σ) := by
  refine j_mkK (M := M_cX8_isPeriod) (L := [some (.ref 69), some (.int l1), none]) (m := 1) t_96 rfl (j_rcvO j_a69 rfl) rfl (fun d hd τ => ?_)
  unfold f_X8_isPeriod
  refine j_iload_n (pc' := 1) rfl rfl rfl ?_
  refine j_istore_n (pc' := 2) (L' := [some (.ref 69), some (.int l1), some (.int l1)]) rfl rfl rfl ?_
  exact (l_X8_isPeriod_2_69 hd τ l1 σ j_F l1)

theorem l_X8_leastPeriod_2_69 {d : Nat} (hd : 1 ≤ d) (τ : j_G) (σ : j_G) : ∀ (n : Nat) (l1 : Int32), j_J true τ M_cX8_leastPeriod d 2 [some (.ref 69), some (.int l1)] [] σ (p_X8_leastPeriod_2 69 70 σ n l1) (j_Pi σ) := by
  intro n
  induction n with
  | zero => intro l1; exact j_none
  | succ n ih =>
    intro l1
    unfold p_X8_leastPeriod_2
    refine j_iload_n (pc' := 3) rfl rfl rfl ?_
    refine j_aload_n (pc' := 4) rfl rfl rfl ?_
    refine j_gfi (pc' := 7) rfl rfl j_a69 rfl ?_
    refine j_two (pT := 10) (pF := 26) (L1 := [some (.ref 69), some (.int l1)]) (st1 := []) (fun o kT kF => ?_) (fun h3 => ?_) (fun h3 => ?_)
    · refine j_icge (t := 26) (pc' := 10) rfl rfl rfl (fun h4 => ?_) (fun h4 => ?_)
      · exact kF h4
      · exact kT h4
    · refine j_aload_n (pc' := 11) rfl rfl rfl ?_
      refine j_iload_n (pc' := 12) rfl rfl rfl ?_
      refine j_callPi (pc' := 15) (ai := 96) (vs := [.ref 69, .int l1]) (rest := []) rfl rfl (fun _ _ => rfl) (c_X8_isPeriod_69 l1 σ) (j_dd rfl hd) rfl (fun v1 => ?_)
      refine j_two (pT := 18) (pF := 20) (L1 := [some (.ref 69), some (.int l1)]) (st1 := []) (fun o kT kF => ?_) (fun h1 => ?_) (fun h1 => ?_)
      · refine j_ifeq (t := 20) (pc' := 18) rfl rfl rfl (fun h2 => ?_) (fun h2 => ?_)
        · exact kF (fun z => z h2)
        · exact kT h2
      · refine j_iload_n (pc' := 19) rfl rfl rfl ?_
        exact j_ret rfl rfl rfl (fun _ h => h)
      · refine j_iincx (pc' := 23) (y := (1 : Int32)) (L' := [some (.ref 69), some (.int (l1 + (1 : Int32)))]) rfl rfl rfl rfl rfl ?_
        refine j_goto (t := 2) rfl rfl ?_
        exact ih (l1 + (1 : Int32))
    · refine j_iconst (pc' := 27) (x := (-1 : Int32)) rfl rfl rfl ?_
      exact j_ret rfl rfl rfl (fun _ h => h)

theorem c_X8_leastPeriod_69 (σ : j_G) : j_K true 1 97 [.ref 69] σ (f_X8_leastPeriod 69 70 σ) (j_Pi σ) := by
  refine j_mkK (M := M_cX8_leastPeriod) (L := [some (.ref 69), none]) (m := 1) t_97 rfl (j_rcvO j_a69 rfl) rfl (fun d hd τ => ?_)
  unfold f_X8_leastPeriod
  refine j_iconst (pc' := 1) (x := (1 : Int32)) rfl rfl rfl ?_
  refine j_istore_n (pc' := 2) (L' := [some (.ref 69), some (.int (1 : Int32))]) rfl rfl rfl ?_
  exact (l_X8_leastPeriod_2_69 hd τ σ j_F (1 : Int32))

theorem l_X8_isPeriod_2_71 {d : Nat} (hd : 0 ≤ d) (τ : j_G) (l1 : Int32) (σ : j_G) : ∀ (n : Nat) (l2 : Int32), j_J true τ M_cX8_isPeriod d 2 [some (.ref 71), some (.int l1), some (.int l2)] [] σ (p_X8_isPeriod_2 71 72 l1 σ n l2) (j_Pi σ) := by
  intro n
  induction n with
  | zero => intro l2; exact j_none
  | succ n ih =>
    intro l2
    unfold p_X8_isPeriod_2
    refine j_iload_n (pc' := 3) rfl rfl rfl ?_
    refine j_aload_n (pc' := 4) rfl rfl rfl ?_
    refine j_gfi (pc' := 7) rfl rfl j_a71 rfl ?_
    refine j_two (pT := 10) (pF := 36) (L1 := [some (.ref 71), some (.int l1), some (.int l2)]) (st1 := []) (fun o kT kF => ?_) (fun h3 => ?_) (fun h3 => ?_)
    · refine j_icge (t := 36) (pc' := 10) rfl rfl rfl (fun h4 => ?_) (fun h4 => ?_)
      · exact kF h4
      · exact kT h4
    · refine j_aload_n (pc' := 11) rfl rfl rfl ?_
      refine j_gfr (pc' := 14) (x := 72) rfl rfl j_a71 rfl rfl ?_
      refine j_iload_n (pc' := 15) rfl rfl rfl ?_
      refine j_lald (pc' := 16) rfl rfl j_a72 ?_
      refine j_aload_n (pc' := 17) rfl rfl rfl ?_
      refine j_gfr (pc' := 20) (x := 72) rfl rfl j_a71 rfl rfl ?_
      refine j_iload_n (pc' := 21) rfl rfl rfl ?_
      refine j_iload_n (pc' := 22) rfl rfl rfl ?_
      refine j_isub (pc' := 23) rfl rfl ?_
      refine j_lald (pc' := 24) rfl rfl j_a72 ?_
      refine j_lcmp (pc' := 25) rfl rfl ?_
      refine j_two (pT := 28) (pF := 30) (L1 := [some (.ref 71), some (.int l1), some (.int l2)]) (st1 := []) (fun o kT kF => ?_) (fun h1 => ?_) (fun h1 => ?_)
      · refine j_ifeqL (t := 30) (pc' := 28) rfl rfl rfl (fun h2 => ?_) (fun h2 => ?_)
        · exact kF (fun z => z h2)
        · exact kT h2
      · refine j_iconst (pc' := 29) (x := (0 : Int32)) rfl rfl rfl ?_
        exact j_ret rfl rfl rfl (fun _ h => h)
      · refine j_iincx (pc' := 33) (y := (1 : Int32)) (L' := [some (.ref 71), some (.int l1), some (.int (l2 + (1 : Int32)))]) rfl rfl rfl rfl rfl ?_
        refine j_goto (t := 2) rfl rfl ?_
        exact ih (l2 + (1 : Int32))
    · refine j_iconst (pc' := 37) (x := (1 : Int32)) rfl rfl rfl ?_
      exact j_ret rfl rfl rfl (fun _ h => h)

theorem c_X8_isPeriod_71 (l1 : Int32) (σ : j_G) : j_K true 0 96 [.ref 71, .int l1] σ (f_X8_isPeriod 71 72 l1 σ) (j_Pi σ) := by
  refine j_mkK (M := M_cX8_isPeriod) (L := [some (.ref 71), some (.int l1), none]) (m := 1) t_96 rfl (j_rcvO j_a71 rfl) rfl (fun d hd τ => ?_)
  unfold f_X8_isPeriod
  refine j_iload_n (pc' := 1) rfl rfl rfl ?_
  refine j_istore_n (pc' := 2) (L' := [some (.ref 71), some (.int l1), some (.int l1)]) rfl rfl rfl ?_
  exact (l_X8_isPeriod_2_71 hd τ l1 σ j_F l1)

theorem l_X8_leastPeriod_2_71 {d : Nat} (hd : 1 ≤ d) (τ : j_G) (σ : j_G) : ∀ (n : Nat) (l1 : Int32), j_J true τ M_cX8_leastPeriod d 2 [some (.ref 71), some (.int l1)] [] σ (p_X8_leastPeriod_2 71 72 σ n l1) (j_Pi σ) := by
  intro n
  induction n with
  | zero => intro l1; exact j_none
  | succ n ih =>
    intro l1
    unfold p_X8_leastPeriod_2
    refine j_iload_n (pc' := 3) rfl rfl rfl ?_
    refine j_aload_n (pc' := 4) rfl rfl rfl ?_
    refine j_gfi (pc' := 7) rfl rfl j_a71 rfl ?_
    refine j_two (pT := 10) (pF := 26) (L1 := [some (.ref 71), some (.int l1)]) (st1 := []) (fun o kT kF => ?_) (fun h3 => ?_) (fun h3 => ?_)
    · refine j_icge (t := 26) (pc' := 10) rfl rfl rfl (fun h4 => ?_) (fun h4 => ?_)
      · exact kF h4
      · exact kT h4
    · refine j_aload_n (pc' := 11) rfl rfl rfl ?_
      refine j_iload_n (pc' := 12) rfl rfl rfl ?_
      refine j_callPi (pc' := 15) (ai := 96) (vs := [.ref 71, .int l1]) (rest := []) rfl rfl (fun _ _ => rfl) (c_X8_isPeriod_71 l1 σ) (j_dd rfl hd) rfl (fun v1 => ?_)
      refine j_two (pT := 18) (pF := 20) (L1 := [some (.ref 71), some (.int l1)]) (st1 := []) (fun o kT kF => ?_) (fun h1 => ?_) (fun h1 => ?_)
      · refine j_ifeq (t := 20) (pc' := 18) rfl rfl rfl (fun h2 => ?_) (fun h2 => ?_)
        · exact kF (fun z => z h2)
        · exact kT h2
      · refine j_iload_n (pc' := 19) rfl rfl rfl ?_
        exact j_ret rfl rfl rfl (fun _ h => h)
      · refine j_iincx (pc' := 23) (y := (1 : Int32)) (L' := [some (.ref 71), some (.int (l1 + (1 : Int32)))]) rfl rfl rfl rfl rfl ?_
        refine j_goto (t := 2) rfl rfl ?_
        exact ih (l1 + (1 : Int32))
    · refine j_iconst (pc' := 27) (x := (-1 : Int32)) rfl rfl rfl ?_
      exact j_ret rfl rfl rfl (fun _ h => h)

theorem c_X8_leastPeriod_71 (σ : j_G) : j_K true 1 97 [.ref 71] σ (f_X8_leastPeriod 71 72 σ) (j_Pi σ) := by
  refine j_mkK (M := M_cX8_leastPeriod) (L := [some (.ref 71), none]) (m := 1) t_97 rfl (j_rcvO j_a71 rfl) rfl (fun d hd τ => ?_)
  unfold f_X8_leastPeriod
  refine j_iconst (pc' := 1) (x := (1 : Int32)) rfl rfl rfl ?_
  refine j_istore_n (pc' := 2) (L' := [some (.ref 71), some (.int (1 : Int32))]) rfl rfl rfl ?_
  exact (l_X8_leastPeriod_2_71 hd τ σ j_F (1 : Int32))

theorem l_X8_isPeriod_2_73 {d : Nat} (hd : 0 ≤ d) (τ : j_G) (l1 : Int32) (σ : j_G) : ∀ (n : Nat) (l2 : Int32), j_J true τ M_cX8_isPeriod d 2 [some (.ref 73), some (.int l1), some (.int l2)] [] σ (p_X8_isPeriod_2 73 74 l1 σ n l2) (j_Pi σ) := by
  intro n
  induction n with
  | zero => intro l2; exact j_none
  | succ n ih =>
    intro l2
    unfold p_X8_isPeriod_2
    refine j_iload_n (pc' := 3) rfl rfl rfl ?_
    refine j_aload_n (pc' := 4) rfl rfl rfl ?_
    refine j_gfi (pc' := 7) rfl rfl j_a73 rfl ?_
    refine j_two (pT := 10) (pF := 36) (L1 := [some (.ref 73), some (.int l1), some (.int l2)]) (st1 := []) (fun o kT kF => ?_) (fun h3 => ?_) (fun h3 => ?_)
    · refine j_icge (t := 36) (pc' := 10) rfl rfl rfl (fun h4 => ?_) (fun h4 => ?_)
      · exact kF h4
      · exact kT h4
    · refine j_aload_n (pc' := 11) rfl rfl rfl ?_
      refine j_gfr (pc' := 14) (x := 74) rfl rfl j_a73 rfl rfl ?_
      refine j_iload_n (pc' := 15) rfl rfl rfl ?_
      refine j_lald (pc' := 16) rfl rfl j_a74 ?_
      refine j_aload_n (pc' := 17) rfl rfl rfl ?_
      refine j_gfr (pc' := 20) (x := 74) rfl rfl j_a73 rfl rfl ?_
      refine j_iload_n (pc' := 21) rfl rfl rfl ?_
      refine j_iload_n (pc' := 22) rfl rfl rfl ?_
      refine j_isub (pc' := 23) rfl rfl ?_
      refine j_lald (pc' := 24) rfl rfl j_a74 ?_
      refine j_lcmp (pc' := 25) rfl rfl ?_
      refine j_two (pT := 28) (pF := 30) (L1 := [some (.ref 73), some (.int l1), some (.int l2)]) (st1 := []) (fun o kT kF => ?_) (fun h1 => ?_) (fun h1 => ?_)
      · refine j_ifeqL (t := 30) (pc' := 28) rfl rfl rfl (fun h2 => ?_) (fun h2 => ?_)
        · exact kF (fun z => z h2)
        · exact kT h2
      · refine j_iconst (pc' := 29) (x := (0 : Int32)) rfl rfl rfl ?_
        exact j_ret rfl rfl rfl (fun _ h => h)
      · refine j_iincx (pc' := 33) (y := (1 : Int32)) (L' := [some (.ref 73), some (.int l1), some (.int (l2 + (1 : Int32)))]) rfl rfl rfl rfl rfl ?_
        refine j_goto (t := 2) rfl rfl ?_
        exact ih (l2 + (1 : Int32))
    · refine j_iconst (pc' := 37) (x := (1 : Int32)) rfl rfl rfl ?_
      exact j_ret rfl rfl rfl (fun _ h => h)

theorem c_X8_isPeriod_73 (l1 : Int32) (σ : j_G) : j_K true 0 96 [.ref 73, .int l1] σ (f_X8_isPeriod 73 74 l1 σ) (j_Pi σ) := by
  refine j_mkK (M := M_cX8_isPeriod) (L := [some (.ref 73), some (.int l1), none]) (m := 1) t_96 rfl (j_rcvO j_a73 rfl) rfl (fun d hd τ => ?_)
  unfold f_X8_isPeriod
  refine j_iload_n (pc' := 1) rfl rfl rfl ?_
  refine j_istore_n (pc' := 2) (L' := [some (.ref 73), some (.int l1), some (.int l1)]) rfl rfl rfl ?_
  exact (l_X8_isPeriod_2_73 hd τ l1 σ j_F l1)

theorem l_X8_leastPeriod_2_73 {d : Nat} (hd : 1 ≤ d) (τ : j_G) (σ : j_G) : ∀ (n : Nat) (l1 : Int32), j_J true τ M_cX8_leastPeriod d 2 [some (.ref 73), some (.int l1)] [] σ (p_X8_leastPeriod_2 73 74 σ n l1) (j_Pi σ) := by
  intro n
  induction n with
  | zero => intro l1; exact j_none
  | succ n ih =>
    intro l1
    unfold p_X8_leastPeriod_2
    refine j_iload_n (pc' := 3) rfl rfl rfl ?_
    refine j_aload_n (pc' := 4) rfl rfl rfl ?_
    refine j_gfi (pc' := 7) rfl rfl j_a73 rfl ?_
    refine j_two (pT := 10) (pF := 26) (L1 := [some (.ref 73), some (.int l1)]) (st1 := []) (fun o kT kF => ?_) (fun h3 => ?_) (fun h3 => ?_)
    · refine j_icge (t := 26) (pc' := 10) rfl rfl rfl (fun h4 => ?_) (fun h4 => ?_)
      · exact kF h4
      · exact kT h4
    · refine j_aload_n (pc' := 11) rfl rfl rfl ?_
      refine j_iload_n (pc' := 12) rfl rfl rfl ?_
      refine j_callPi (pc' := 15) (ai := 96) (vs := [.ref 73, .int l1]) (rest := []) rfl rfl (fun _ _ => rfl) (c_X8_isPeriod_73 l1 σ) (j_dd rfl hd) rfl (fun v1 => ?_)
      refine j_two (pT := 18) (pF := 20) (L1 := [some (.ref 73), some (.int l1)]) (st1 := []) (fun o kT kF => ?_) (fun h1 => ?_) (fun h1 => ?_)
      · refine j_ifeq (t := 20) (pc' := 18) rfl rfl rfl (fun h2 => ?_) (fun h2 => ?_)
        · exact kF (fun z => z h2)
        · exact kT h2
      · refine j_iload_n (pc' := 19) rfl rfl rfl ?_
        exact j_ret rfl rfl rfl (fun _ h => h)
      · refine j_iincx (pc' := 23) (y := (1 : Int32)) (L' := [some (.ref 73), some (.int (l1 + (1 : Int32)))]) rfl rfl rfl rfl rfl ?_
        refine j_goto (t := 2) rfl rfl ?_
        exact ih (l1 + (1 : Int32))
    · refine j_iconst (pc' := 27) (x := (-1 : Int32)) rfl rfl rfl ?_
      exact j_ret rfl rfl rfl (fun _ h => h)

theorem c_X8_leastPeriod_73 (σ : j_G) : j_K true 1 97 [.ref 73] σ (f_X8_leastPeriod 73 74 σ) (j_Pi σ) := by
  refine j_mkK (M := M_cX8_leastPeriod) (L := [some (.ref 73), none]) (m := 1) t_97 rfl (j_rcvO j_a73 rfl) rfl (fun d hd τ => ?_)
  unfold f_X8_leastPeriod
  refine j_iconst (pc' := 1) (x := (1 : Int32)) rfl rfl rfl ?_
  refine j_istore_n (pc' := 2) (L' := [some (.ref 73), some (.int (1 : Int32))]) rfl rfl rfl ?_
  exact (l_X8_leastPeriod_2_73 hd τ σ j_F (1 : Int32))

noncomputable def f_X11_period (l1 : Int32) (σ : j_G) : Option Int32 :=
  j_b1 (f_X11_whyUnheard l1 σ) fun v1 =>
  if v1 = 0 then (if l1 = 0 then (j_b1 (f_X8_leastPeriod 67 68 σ) fun v2 =>
  some v2) else
  if l1 = 1 then (j_b1 (f_X8_leastPeriod 69 70 σ) fun v3 =>
  some v3) else
  if l1 = 2 then (j_b1 (f_X8_leastPeriod 71 72 σ) fun v4 =>
  some v4) else
  if l1 = 3 then (j_b1 (f_X8_leastPeriod 73 74 σ) fun v5 =>
  some v5) else
  none) else (some v1)
theorem c_X11_period (l1 : Int32) (σ : j_G) : j_K true 2 148 [.ref 0, .int l1] σ (f_X11_period l1 σ) (j_Pi σ) := by
  refine j_mkK (M := M_cX11_period) (L := [some (.ref 0), some (.int l1), none]) (m := 1) t_148 rfl (j_rcvO j_a0 rfl) rfl (fun d hd τ => ?_)
  unfold f_X11_period
  refine j_aload_n (pc' := 1) rfl rfl rfl ?_
  refine j_iload_n (pc' := 2) rfl rfl rfl ?_
  refine j_callPi (pc' := 5) (ai := 193) (vs := [.ref 0, .int l1]) (rest := []) rfl rfl (fun _ _ => rfl) (c_X11_whyUnheard l1 σ) (j_dd rfl hd) rfl (fun v1 => ?_)
  refine j_istore_n (pc' := 6) (L' := [some (.ref 0), some (.int l1), some (.int v1)]) rfl rfl rfl ?_
  refine j_iload_n (pc' := 7) rfl rfl rfl ?_
  refine j_two (pT := 10) (pF := 22) (L1 := [some (.ref 0), some (.int l1), some (.int v1)]) (st1 := []) (fun o kT kF => ?_) (fun h5 => ?_) (fun h5 => ?_)
  · refine j_ifne (t := 22) (pc' := 10) rfl rfl rfl (fun h6 => ?_) (fun h6 => ?_)
    · exact kF h6
    · exact kT h6
  · refine j_aload_n (pc' := 11) rfl rfl rfl ?_
    refine j_gfr (pc' := 14) (x := 42) rfl rfl j_a0 rfl rfl ?_
    refine j_iload_n (pc' := 15) rfl rfl rfl ?_
    refine j_spl (k := (0 : Int32)) (fun h1 => ?_) (fun h1 => ?_)
    · subst h1
      refine j_aald (pc' := 16) (r := 67) rfl rfl j_a42 (by decide) rfl ?_
      refine j_callPi (pc' := 19) (ai := 97) (vs := [.ref 67]) (rest := []) rfl rfl (fun _ _ => rfl) (c_X8_leastPeriod_67  σ) (j_dd rfl hd) rfl (fun v2 => ?_)
      refine j_goto (t := 23) rfl rfl ?_
      exact j_ret rfl rfl rfl (fun _ h => h)
    refine j_spl (k := (1 : Int32)) (fun h2 => ?_) (fun h2 => ?_)
    · subst h2
      refine j_aald (pc' := 16) (r := 69) rfl rfl j_a42 (by decide) rfl ?_
      refine j_callPi (pc' := 19) (ai := 97) (vs := [.ref 69]) (rest := []) rfl rfl (fun _ _ => rfl) (c_X8_leastPeriod_69  σ) (j_dd rfl hd) rfl (fun v3 => ?_)
      refine j_goto (t := 23) rfl rfl ?_
      exact j_ret rfl rfl rfl (fun _ h => h)
    refine j_spl (k := (2 : Int32)) (fun h3 => ?_) (fun h3 => ?_)
    · subst h3
      refine j_aald (pc' := 16) (r := 71) rfl rfl j_a42 (by decide) rfl ?_
      refine j_callPi (pc' := 19) (ai := 97) (vs := [.ref 71]) (rest := []) rfl rfl (fun _ _ => rfl) (c_X8_leastPeriod_71  σ) (j_dd rfl hd) rfl (fun v4 => ?_)
      refine j_goto (t := 23) rfl rfl ?_
      exact j_ret rfl rfl rfl (fun _ h => h)
    refine j_spl (k := (3 : Int32)) (fun h4 => ?_) (fun h4 => ?_)
    · subst h4
      refine j_aald (pc' := 16) (r := 73) rfl rfl j_a42 (by decide) rfl ?_
      refine j_callPi (pc' := 19) (ai := 97) (vs := [.ref 73]) (rest := []) rfl rfl (fun _ _ => rfl) (c_X8_leastPeriod_73  σ) (j_dd rfl hd) rfl (fun v5 => ?_)
      refine j_goto (t := 23) rfl rfl ?_
      exact j_ret rfl rfl rfl (fun _ h => h)
    exact j_none
  · refine j_iload_n (pc' := 23) rfl rfl rfl ?_
    exact j_ret rfl rfl rfl (fun _ h => h)

noncomputable def f_X12_isSlot (l0 : Int32) : Int32 :=
  (f_X12_in (l0).toInt64 (0 : Int64) (3 : Int64))

theorem b_X12_isSlot (l0 : Int32) : f_X12_isSlot l0 = 0 ∨ f_X12_isSlot l0 = 1 := by
  unfold f_X12_isSlot
  exact (b_X12_in (l0).toInt64 (0 : Int64) (3 : Int64))
theorem c_X12_isSlot (l0 : Int32) (σ : j_G) : j_K false 1 351 [.int l0] σ (some (f_X12_isSlot l0)) (j_Pi σ) := by
  refine j_mkK (M := M_cX12_isSlot) (L := [some (.int l0)]) (m := 0) t_351 rfl (j_rcvS rfl) rfl (fun d hd τ => ?_)
  unfold f_X12_isSlot
  refine j_iload_n (pc' := 1) rfl rfl rfl ?_
  refine j_i2l (pc' := 2) rfl rfl ?_
  refine j_lconst (pc' := 3) (x := (0 : Int64)) rfl rfl rfl ?_
  refine j_ldc2_w (pc' := 6) (x := (3 : Int64)) rfl rfl rfl ?_
  refine j_callTi (pc' := 9) (ai := 196) (vs := [.long (l0).toInt64, .long (0 : Int64), .long (3 : Int64)]) (rest := []) rfl rfl (fun _ _ => rfl) (c_X12_in (l0).toInt64 (0 : Int64) (3 : Int64) σ) (j_dd rfl hd) rfl ?_
  exact j_retb rfl rfl (b_X12_in (l0).toInt64 (0 : Int64) (3 : Int64)) (fun _ h => h)

noncomputable def f_X12_numberAt (l1 : Int32) (l2 : Int32) (σ : j_G) : Option Int64 :=
  j_ix (((60 : Int32) * l1) + l2) 240 (
  some (σ.2 96 ((((60 : Int32) * l1) + l2)).toNatClampNeg))
theorem c_X12_numberAt (l1 : Int32) (l2 : Int32) (σ : j_G) : j_K false 0 298 [.ref 75, .int l1, .int l2] σ (f_X12_numberAt l1 l2 σ) (j_Pl σ) := by
  refine j_mkK (M := M_cX12_numberAt) (L := [some (.ref 75), some (.int l1), some (.int l2)]) (m := 0) t_298 rfl (j_rcvO j_a75 rfl) rfl (fun d hd τ => ?_)
  unfold f_X12_numberAt
  refine j_aload_n (pc' := 1) rfl rfl rfl ?_
  refine j_gfr (pc' := 4) (x := 96) rfl rfl j_a75 rfl rfl ?_
  refine j_bipush (pc' := 6) (x := (60 : Int32)) rfl rfl rfl ?_
  refine j_iload_n (pc' := 7) rfl rfl rfl ?_
  refine j_imul (pc' := 8) rfl rfl ?_
  refine j_iload_n (pc' := 9) rfl rfl rfl ?_
  refine j_iadd (pc' := 10) rfl rfl ?_
  refine j_lald (pc' := 11) rfl rfl j_a96 ?_
  exact j_ret rfl rfl rfl (fun _ h => h)

noncomputable def p_X12_asksHeard_32 (l1 : Int32) (σ : j_G) : Nat → Int32 → Option Int32
  | 0, _ => none
  | n + 1, l2 =>
    j_ix l1 4 (
    if l2 < (σ.1 94 (l1).toNatClampNeg) then (j_b1 (f_X12_numberAt l1 l2 σ) fun v1 =>
    j_b1 (f_X12_isHole v1 σ) fun v2 =>
    if v2 = 0 then (some (-2 : Int32)) else (p_X12_asksHeard_32 l1 σ n (l2 + (1 : Int32)))) else (some (0 : Int32)))

noncomputable def f_X12_asksHeard (l1 : Int32) (σ : j_G) : Option Int32 :=
  if ¬ (f_X12_isSlot l1) = 0 then (j_b1 (f_X12_isBoard σ) fun v1 =>
  if v1 = 0 then (some (-2 : Int32)) else (j_ix l1 4 (
  if (σ.1 94 (l1).toNatClampNeg) = (-1 : Int32) then (some (-6 : Int32)) else (p_X12_asksHeard_32 l1 σ j_F (0 : Int32))))) else (some (-2 : Int32))
theorem l_X12_asksHeard_32 {d : Nat} (hd : 2 ≤ d) (τ : j_G) (l1 : Int32) (σ : j_G) : ∀ (n : Nat) (l2 : Int32), j_J false τ M_cX12_asksHeard d 32 [some (.ref 75), some (.int l1), some (.int l2)] [] σ (p_X12_asksHeard_32 l1 σ n l2) (j_Pi σ) := by
  intro n
  induction n with
  | zero => intro l2; exact j_none
  | succ n ih =>
    intro l2
    unfold p_X12_asksHeard_32
    refine j_iload_n (pc' := 33) rfl rfl rfl ?_
    refine j_aload_n (pc' := 34) rfl rfl rfl ?_
    refine j_gfr (pc' := 37) (x := 94) rfl rfl j_a75 rfl rfl ?_
    refine j_iload_n (pc' := 38) rfl rfl rfl ?_
    refine j_iald (pc' := 39) rfl rfl j_a94 ?_
    refine j_two (pT := 42) (pF := 64) (L1 := [some (.ref 75), some (.int l1), some (.int l2)]) (st1 := []) (fun o kT kF => ?_) (fun h3 => ?_) (fun h3 => ?_)
    · refine j_icge (t := 64) (pc' := 42) rfl rfl rfl (fun h4 => ?_) (fun h4 => ?_)
      · exact kF h4
      · exact kT h4
    · refine j_aload_n (pc' := 43) rfl rfl rfl ?_
      refine j_aload_n (pc' := 44) rfl rfl rfl ?_
      refine j_iload_n (pc' := 45) rfl rfl rfl ?_
      refine j_iload_n (pc' := 46) rfl rfl rfl ?_
      refine j_callPl (pc' := 49) (ai := 298) (vs := [.ref 75, .int l1, .int l2]) (rest := [.ref 75]) rfl rfl (fun _ _ => rfl) (c_X12_numberAt l1 l2 σ) (j_dd rfl hd) rfl (fun v1 => ?_)
      refine j_callPi (pc' := 52) (ai := 201) (vs := [.ref 75, .long v1]) (rest := []) rfl rfl (fun _ _ => rfl) (c_X12_isHole v1 σ) (j_dd rfl hd) rfl (fun v2 => ?_)
      refine j_two (pT := 55) (pF := 58) (L1 := [some (.ref 75), some (.int l1), some (.int l2)]) (st1 := []) (fun o kT kF => ?_) (fun h1 => ?_) (fun h1 => ?_)
      · refine j_ifne (t := 58) (pc' := 55) rfl rfl rfl (fun h2 => ?_) (fun h2 => ?_)
        · exact kF h2
        · exact kT h2
      · refine j_bipush (pc' := 57) (x := (-2 : Int32)) rfl rfl rfl ?_
        exact j_ret rfl rfl rfl (fun _ h => h)
      · refine j_iincx (pc' := 61) (y := (1 : Int32)) (L' := [some (.ref 75), some (.int l1), some (.int (l2 + (1 : Int32)))]) rfl rfl rfl rfl rfl ?_
        refine j_goto (t := 32) rfl rfl ?_
        exact ih (l2 + (1 : Int32))
    · refine j_iconst (pc' := 65) (x := (0 : Int32)) rfl rfl rfl ?_
      exact j_ret rfl rfl rfl (fun _ h => h)

theorem c_X12_asksHeard (l1 : Int32) (σ : j_G) : j_K false 2 299 [.ref 75, .int l1] σ (f_X12_asksHeard l1 σ) (j_Pi σ) := by
  refine j_mkK (M := M_cX12_asksHeard) (L := [some (.ref 75), some (.int l1), none]) (m := 1) t_299 rfl (j_rcvO j_a75 rfl) rfl (fun d hd τ => ?_)
  unfold f_X12_asksHeard
  refine j_iload_n (pc' := 1) rfl rfl rfl ?_
  refine j_callTi (pc' := 4) (ai := 351) (vs := [.int l1]) (rest := []) rfl rfl (fun _ _ => rfl) (c_X12_isSlot l1 σ) (j_dd rfl hd) rfl ?_
  refine j_two (pT := 7) (pF := 14) (L1 := [some (.ref 75), some (.int l1), none]) (st1 := []) (fun o kT kF => ?_) (fun h5 => ?_) (fun h5 => ?_)
  · refine j_ifeq (t := 14) (pc' := 7) rfl rfl rfl (fun h6 => ?_) (fun h6 => ?_)
    · exact kF (fun z => z h6)
    · exact kT h6
  · refine j_aload_n (pc' := 8) rfl rfl rfl ?_
    refine j_callPi (pc' := 11) (ai := 199) (vs := [.ref 75]) (rest := []) rfl rfl (fun _ _ => rfl) (c_X12_isBoard  σ) (j_dd rfl hd) rfl (fun v1 => ?_)
    refine j_two (pT := 14) (pF := 17) (L1 := [some (.ref 75), some (.int l1), none]) (st1 := []) (fun o kT kF => ?_) (fun h3 => ?_) (fun h3 => ?_)
    · refine j_ifne (t := 17) (pc' := 14) rfl rfl rfl (fun h4 => ?_) (fun h4 => ?_)
      · exact kF h4
      · exact kT h4
    · refine j_bipush (pc' := 16) (x := (-2 : Int32)) rfl rfl rfl ?_
      exact j_ret rfl rfl rfl (fun _ h => h)
    · refine j_aload_n (pc' := 18) rfl rfl rfl ?_
      refine j_gfr (pc' := 21) (x := 94) rfl rfl j_a75 rfl rfl ?_
      refine j_iload_n (pc' := 22) rfl rfl rfl ?_
      refine j_iald (pc' := 23) rfl rfl j_a94 ?_
      refine j_iconst (pc' := 24) (x := (-1 : Int32)) rfl rfl rfl ?_
      refine j_two (pT := 27) (pF := 30) (L1 := [some (.ref 75), some (.int l1), none]) (st1 := []) (fun o kT kF => ?_) (fun h1 => ?_) (fun h1 => ?_)
      · refine j_icne (t := 30) (pc' := 27) rfl rfl rfl (fun h2 => ?_) (fun h2 => ?_)
        · exact kF h2
        · exact kT h2
      · refine j_bipush (pc' := 29) (x := (-6 : Int32)) rfl rfl rfl ?_
        exact j_ret rfl rfl rfl (fun _ h => h)
      · refine j_iconst (pc' := 31) (x := (0 : Int32)) rfl rfl rfl ?_
        refine j_istore_n (pc' := 32) (L' := [some (.ref 75), some (.int l1), some (.int (0 : Int32))]) rfl rfl rfl ?_
        exact (l_X12_asksHeard_32 hd τ l1 σ j_F (0 : Int32))
  · refine j_bipush (pc' := 16) (x := (-2 : Int32)) rfl rfl rfl ?_
    exact j_ret rfl rfl rfl (fun _ h => h)

noncomputable def p_X12_isPeriod_2 (l1 : Int32) (l2 : Int32) (σ : j_G) : Nat → Int32 → Option Int32
  | 0, _ => none
  | n + 1, l3 =>
    j_ix l1 4 (
    if l3 < (σ.1 94 (l1).toNatClampNeg) then (j_b1 (f_X12_numberAt l1 l3 σ) fun v1 =>
    j_b1 (f_X12_numberAt l1 (l3 - l2) σ) fun v2 =>
    if ¬ v1 = v2 then (some (0 : Int32)) else (p_X12_isPeriod_2 l1 l2 σ n (l3 + (1 : Int32)))) else (some (1 : Int32)))

noncomputable def f_X12_isPeriod (l1 : Int32) (l2 : Int32) (σ : j_G) : Option Int32 :=
  p_X12_isPeriod_2 l1 l2 σ j_F l2
theorem l_X12_isPeriod_2 {d : Nat} (hd : 1 ≤ d) (τ : j_G) (l1 : Int32) (l2 : Int32) (σ : j_G) : ∀ (n : Nat) (l3 : Int32), j_J false τ M_cX12_isPeriod d 2 [some (.ref 75), some (.int l1), some (.int l2), some (.int l3)] [] σ (p_X12_isPeriod_2 l1 l2 σ n l3) (j_Pi σ) := by
  intro n
  induction n with
  | zero => intro l3; exact j_none
  | succ n ih =>
    intro l3
    unfold p_X12_isPeriod_2
    refine j_iload_n (pc' := 3) rfl rfl rfl ?_
    refine j_aload_n (pc' := 4) rfl rfl rfl ?_
    refine j_gfr (pc' := 7) (x := 94) rfl rfl j_a75 rfl rfl ?_
    refine j_iload_n (pc' := 8) rfl rfl rfl ?_
    refine j_iald (pc' := 9) rfl rfl j_a94 ?_
    refine j_two (pT := 12) (pF := 38) (L1 := [some (.ref 75), some (.int l1), some (.int l2), some (.int l3)]) (st1 := []) (fun o kT kF => ?_) (fun h3 => ?_) (fun h3 => ?_)
    · refine j_icge (t := 38) (pc' := 12) rfl rfl rfl (fun h4 => ?_) (fun h4 => ?_)
      · exact kF h4
      · exact kT h4
    · refine j_aload_n (pc' := 13) rfl rfl rfl ?_
      refine j_iload_n (pc' := 14) rfl rfl rfl ?_
      refine j_iload_n (pc' := 15) rfl rfl rfl ?_
      refine j_callPl (pc' := 18) (ai := 298) (vs := [.ref 75, .int l1, .int l3]) (rest := []) rfl rfl (fun _ _ => rfl) (c_X12_numberAt l1 l3 σ) (j_dd rfl hd) rfl (fun v1 => ?_)
      refine j_aload_n (pc' := 19) rfl rfl rfl ?_
      refine j_iload_n (pc' := 20) rfl rfl rfl ?_
      refine j_iload_n (pc' := 21) rfl rfl rfl ?_
      refine j_iload_n (pc' := 22) rfl rfl rfl ?_
      refine j_isub (pc' := 23) rfl rfl ?_
      refine j_callPl (pc' := 26) (ai := 298) (vs := [.ref 75, .int l1, .int (l3 - l2)]) (rest := [.long v1]) rfl rfl (fun _ _ => rfl) (c_X12_numberAt l1 (l3 - l2) σ) (j_dd rfl hd) rfl (fun v2 => ?_)
      refine j_lcmp (pc' := 27) rfl rfl ?_
      refine j_two (pT := 30) (pF := 32) (L1 := [some (.ref 75), some (.int l1), some (.int l2), some (.int l3)]) (st1 := []) (fun o kT kF => ?_) (fun h1 => ?_) (fun h1 => ?_)
      · refine j_ifeqL (t := 32) (pc' := 30) rfl rfl rfl (fun h2 => ?_) (fun h2 => ?_)
        · exact kF (fun z => z h2)
        · exact kT h2
      · refine j_iconst (pc' := 31) (x := (0 : Int32)) rfl rfl rfl ?_
        exact j_ret rfl rfl rfl (fun _ h => h)
      · refine j_iincx (pc' := 35) (y := (1 : Int32)) (L' := [some (.ref 75), some (.int l1), some (.int l2), some (.int (l3 + (1 : Int32)))]) rfl rfl rfl rfl rfl ?_
        refine j_goto (t := 2) rfl rfl ?_
        exact ih (l3 + (1 : Int32))
    · refine j_iconst (pc' := 39) (x := (1 : Int32)) rfl rfl rfl ?_
      exact j_ret rfl rfl rfl (fun _ h => h)

theorem c_X12_isPeriod (l1 : Int32) (l2 : Int32) (σ : j_G) : j_K false 1 300 [.ref 75, .int l1, .int l2] σ (f_X12_isPeriod l1 l2 σ) (j_Pi σ) := by
  refine j_mkK (M := M_cX12_isPeriod) (L := [some (.ref 75), some (.int l1), some (.int l2), none]) (m := 1) t_300 rfl (j_rcvO j_a75 rfl) rfl (fun d hd τ => ?_)
  unfold f_X12_isPeriod
  refine j_iload_n (pc' := 1) rfl rfl rfl ?_
  refine j_istore_n (pc' := 2) (L' := [some (.ref 75), some (.int l1), some (.int l2), some (.int l2)]) rfl rfl rfl ?_
  exact (l_X12_isPeriod_2 hd τ l1 l2 σ j_F l2)

noncomputable def p_X12_leastPeriod_2 (l1 : Int32) (σ : j_G) : Nat → Int32 → Option Int32
  | 0, _ => none
  | n + 1, l2 =>
    j_ix l1 4 (
    if l2 < (σ.1 94 (l1).toNatClampNeg) then (j_b1 (f_X12_isPeriod l1 l2 σ) fun v1 =>
    if ¬ v1 = 0 then (some l2) else (p_X12_leastPeriod_2 l1 σ n (l2 + (1 : Int32)))) else (some (-1 : Int32)))

noncomputable def f_X12_leastPeriod (l1 : Int32) (σ : j_G) : Option Int32 :=
  p_X12_leastPeriod_2 l1 σ j_F (1 : Int32)
theorem l_X12_leastPeriod_2 {d : Nat} (hd : 2 ≤ d) (τ : j_G) (l1 : Int32) (σ : j_G) : ∀ (n : Nat) (l2 : Int32), j_J false τ M_cX12_leastPeriod d 2 [some (.ref 75), some (.int l1), some (.int l2)] [] σ (p_X12_leastPeriod_2 l1 σ n l2) (j_Pi σ) := by
  intro n
  induction n with
  | zero => intro l2; exact j_none
  | succ n ih =>
    intro l2
    unfold p_X12_leastPeriod_2
    refine j_iload_n (pc' := 3) rfl rfl rfl ?_
    refine j_aload_n (pc' := 4) rfl rfl rfl ?_
    refine j_gfr (pc' := 7) (x := 94) rfl rfl j_a75 rfl rfl ?_
    refine j_iload_n (pc' := 8) rfl rfl rfl ?_
    refine j_iald (pc' := 9) rfl rfl j_a94 ?_
    refine j_two (pT := 12) (pF := 29) (L1 := [some (.ref 75), some (.int l1), some (.int l2)]) (st1 := []) (fun o kT kF => ?_) (fun h3 => ?_) (fun h3 => ?_)
    · refine j_icge (t := 29) (pc' := 12) rfl rfl rfl (fun h4 => ?_) (fun h4 => ?_)
      · exact kF h4
      · exact kT h4
    · refine j_aload_n (pc' := 13) rfl rfl rfl ?_
      refine j_iload_n (pc' := 14) rfl rfl rfl ?_
      refine j_iload_n (pc' := 15) rfl rfl rfl ?_
      refine j_callPi (pc' := 18) (ai := 300) (vs := [.ref 75, .int l1, .int l2]) (rest := []) rfl rfl (fun _ _ => rfl) (c_X12_isPeriod l1 l2 σ) (j_dd rfl hd) rfl (fun v1 => ?_)
      refine j_two (pT := 21) (pF := 23) (L1 := [some (.ref 75), some (.int l1), some (.int l2)]) (st1 := []) (fun o kT kF => ?_) (fun h1 => ?_) (fun h1 => ?_)
      · refine j_ifeq (t := 23) (pc' := 21) rfl rfl rfl (fun h2 => ?_) (fun h2 => ?_)
        · exact kF (fun z => z h2)
        · exact kT h2
      · refine j_iload_n (pc' := 22) rfl rfl rfl ?_
        exact j_ret rfl rfl rfl (fun _ h => h)
      · refine j_iincx (pc' := 26) (y := (1 : Int32)) (L' := [some (.ref 75), some (.int l1), some (.int (l2 + (1 : Int32)))]) rfl rfl rfl rfl rfl ?_
        refine j_goto (t := 2) rfl rfl ?_
        exact ih (l2 + (1 : Int32))
    · refine j_iconst (pc' := 30) (x := (-1 : Int32)) rfl rfl rfl ?_
      exact j_ret rfl rfl rfl (fun _ h => h)

theorem c_X12_leastPeriod (l1 : Int32) (σ : j_G) : j_K false 2 301 [.ref 75, .int l1] σ (f_X12_leastPeriod l1 σ) (j_Pi σ) := by
  refine j_mkK (M := M_cX12_leastPeriod) (L := [some (.ref 75), some (.int l1), none]) (m := 1) t_301 rfl (j_rcvO j_a75 rfl) rfl (fun d hd τ => ?_)
  unfold f_X12_leastPeriod
  refine j_iconst (pc' := 1) (x := (1 : Int32)) rfl rfl rfl ?_
  refine j_istore_n (pc' := 2) (L' := [some (.ref 75), some (.int l1), some (.int (1 : Int32))]) rfl rfl rfl ?_
  exact (l_X12_leastPeriod_2 hd τ l1 σ j_F (1 : Int32))

noncomputable def f_X12_period (l1 : Int32) (σ : j_G) : Option Int32 :=
  j_b1 (f_X12_asksHeard l1 σ) fun v1 =>
  if v1 < 0 then (some v1) else (j_b1 (f_X12_leastPeriod l1 σ) fun v2 =>
  some v2)
theorem c_X12_period (l1 : Int32) (σ : j_G) : j_K false 3 302 [.ref 75, .int l1] σ (f_X12_period l1 σ) (j_Pi σ) := by
  refine j_mkK (M := M_cX12_period) (L := [some (.ref 75), some (.int l1), none]) (m := 1) t_302 rfl (j_rcvO j_a75 rfl) rfl (fun d hd τ => ?_)
  unfold f_X12_period
  refine j_aload_n (pc' := 1) rfl rfl rfl ?_
  refine j_iload_n (pc' := 2) rfl rfl rfl ?_
  refine j_callPi (pc' := 5) (ai := 299) (vs := [.ref 75, .int l1]) (rest := []) rfl rfl (fun _ _ => rfl) (c_X12_asksHeard l1 σ) (j_dd rfl hd) rfl (fun v1 => ?_)
  refine j_istore_n (pc' := 6) (L' := [some (.ref 75), some (.int l1), some (.int v1)]) rfl rfl rfl ?_
  refine j_iload_n (pc' := 7) rfl rfl rfl ?_
  refine j_two (pT := 10) (pF := 14) (L1 := [some (.ref 75), some (.int l1), some (.int v1)]) (st1 := []) (fun o kT kF => ?_) (fun h1 => ?_) (fun h1 => ?_)
  · refine j_ifge (t := 14) (pc' := 10) rfl rfl rfl (fun h2 => ?_) (fun h2 => ?_)
    · exact kF h2
    · exact kT h2
  · refine j_iload_n (pc' := 11) rfl rfl rfl ?_
    refine j_goto (t := 19) rfl rfl ?_
    exact j_ret rfl rfl rfl (fun _ h => h)
  · refine j_aload_n (pc' := 15) rfl rfl rfl ?_
    refine j_iload_n (pc' := 16) rfl rfl rfl ?_
    refine j_callPi (pc' := 19) (ai := 301) (vs := [.ref 75, .int l1]) (rest := []) rfl rfl (fun _ _ => rfl) (c_X12_leastPeriod l1 σ) (j_dd rfl hd) rfl (fun v2 => ?_)
    exact j_ret rfl rfl rfl (fun _ h => h)

noncomputable def p_X8_periodsInAll_4 (a0 : Nat) (a0_2 : Nat) (σ : j_G) : Nat → Int32 → Int32 → Option Int32
  | 0, _, _ => none
  | n + 1, l1, l2 =>
    if l2 < (σ.1 a0 0) then (j_b1 (f_X8_isPeriod a0 a0_2 l2 σ) fun v1 =>
    j_lt (if ¬ v1 = 0 then ((l1 + (1 : Int32))) else (l1)) fun v2 =>
    p_X8_periodsInAll_4 a0 a0_2 σ n v2 (l2 + (1 : Int32))) else (some l1)

noncomputable def f_X8_periodsInAll (a0 : Nat) (a0_2 : Nat) (σ : j_G) : Option Int32 :=
  j_b1 (p_X8_periodsInAll_4 a0 a0_2 σ j_F (0 : Int32) (1 : Int32)) fun v1 =>
  some v1
theorem l_X8_periodsInAll_4_67 {d : Nat} (hd : 1 ≤ d) (τ : j_G) (σ : j_G) : ∀ (n : Nat) (l1 : Int32) (l2 : Int32), j_J true τ M_cX8_periodsInAll d 4 [some (.ref 67), some (.int l1), some (.int l2)] [] σ (p_X8_periodsInAll_4 67 68 σ n l1 l2) (fun r Q => j_Tr true τ M_cX8_periodsInAll d 29 [none, some (.int r), none] [] σ Q) := by
  intro n
  induction n with
  | zero => intro l1 l2; exact j_none
  | succ n ih =>
    intro l1 l2
    unfold p_X8_periodsInAll_4
    refine j_iload_n (pc' := 5) rfl rfl rfl ?_
    refine j_aload_n (pc' := 6) rfl rfl rfl ?_
    refine j_gfi (pc' := 9) rfl rfl j_a67 rfl ?_
    refine j_two (pT := 12) (pF := 29) (L1 := [some (.ref 67), some (.int l1), some (.int l2)]) (st1 := []) (fun o kT kF => ?_) (fun h3 => ?_) (fun h3 => ?_)
    · refine j_icge (t := 29) (pc' := 12) rfl rfl rfl (fun h4 => ?_) (fun h4 => ?_)
      · exact kF h4
      · exact kT h4
    · refine j_aload_n (pc' := 13) rfl rfl rfl ?_
      refine j_iload_n (pc' := 14) rfl rfl rfl ?_
      refine j_callPi (pc' := 17) (ai := 96) (vs := [.ref 67, .int l2]) (rest := []) rfl rfl (fun _ _ => rfl) (c_X8_isPeriod_67 l2 σ) (j_dd rfl hd) rfl (fun v1 => ?_)
      refine j_ql (Φl := (fun r Q => j_Tr true τ M_cX8_periodsInAll d 23 [some (.ref 67), some (.int r), some (.int l2)] [] σ Q)) ?_ (fun v2 => ?_)
      · refine j_twoT (pT := 20) (pF := 23) (L1 := [some (.ref 67), some (.int l1), some (.int l2)]) (st1 := []) (fun o kT kF => ?_) (fun h1 => ?_) (fun h1 => ?_)
        · refine j_ifeq (t := 23) (pc' := 20) rfl rfl rfl (fun h2 => ?_) (fun h2 => ?_)
          · exact kF (fun z => z h2)
          · exact kT h2
        · refine j_iincx (pc' := 23) (y := (1 : Int32)) (L' := [some (.ref 67), some (.int (l1 + (1 : Int32))), some (.int l2)]) rfl rfl rfl rfl rfl ?_
          exact j_end (fun _ h => h)
        · exact j_end (fun _ h => h)
      show j_J true τ M_cX8_periodsInAll d 23 [some (.ref 67), some (.int v2), some (.int l2)] [] σ _ _
      refine j_iincx (pc' := 26) (y := (1 : Int32)) (L' := [some (.ref 67), some (.int v2), some (.int (l2 + (1 : Int32)))]) rfl rfl rfl rfl rfl ?_
      refine j_goto (t := 4) rfl rfl ?_
      exact ih v2 (l2 + (1 : Int32))
    · refine j_wk [false, true, false] (L' := [none, some (.int l1), none]) rfl ?_
      exact j_end (fun _ h => h)

theorem c_X8_periodsInAll_67 (σ : j_G) : j_K true 1 98 [.ref 67] σ (f_X8_periodsInAll 67 68 σ) (j_Pi σ) := by
  refine j_mkK (M := M_cX8_periodsInAll) (L := [some (.ref 67), none, none]) (m := 2) t_98 rfl (j_rcvO j_a67 rfl) rfl (fun d hd τ => ?_)
  unfold f_X8_periodsInAll
  refine j_iconst (pc' := 1) (x := (0 : Int32)) rfl rfl rfl ?_
  refine j_istore_n (pc' := 2) (L' := [some (.ref 67), some (.int (0 : Int32)), none]) rfl rfl rfl ?_
  refine j_iconst (pc' := 3) (x := (1 : Int32)) rfl rfl rfl ?_
  refine j_istore_n (pc' := 4) (L' := [some (.ref 67), some (.int (0 : Int32)), some (.int (1 : Int32))]) rfl rfl rfl ?_
  refine j_q1 (l_X8_periodsInAll_4_67 hd τ σ j_F (0 : Int32) (1 : Int32)) (fun v1 => ?_)
  show j_J true τ M_cX8_periodsInAll d 29 [none, some (.int v1), none] [] σ _ _
  refine j_iload_n (pc' := 30) rfl rfl rfl ?_
  exact j_ret rfl rfl rfl (fun _ h => h)

theorem l_X8_periodsInAll_4_69 {d : Nat} (hd : 1 ≤ d) (τ : j_G) (σ : j_G) : ∀ (n : Nat) (l1 : Int32) (l2 : Int32), j_J true τ M_cX8_periodsInAll d 4 [some (.ref 69), some (.int l1), some (.int l2)] [] σ (p_X8_periodsInAll_4 69 70 σ n l1 l2) (fun r Q => j_Tr true τ M_cX8_periodsInAll d 29 [none, some (.int r), none] [] σ Q) := by
  intro n
  induction n with
  | zero => intro l1 l2; exact j_none
  | succ n ih =>
    intro l1 l2
    unfold p_X8_periodsInAll_4
    refine j_iload_n (pc' := 5) rfl rfl rfl ?_
    refine j_aload_n (pc' := 6) rfl rfl rfl ?_
    refine j_gfi (pc' := 9) rfl rfl j_a69 rfl ?_
    refine j_two (pT := 12) (pF := 29) (L1 := [some (.ref 69), some (.int l1), some (.int l2)]) (st1 := []) (fun o kT kF => ?_) (fun h3 => ?_) (fun h3 => ?_)
    · refine j_icge (t := 29) (pc' := 12) rfl rfl rfl (fun h4 => ?_) (fun h4 => ?_)
      · exact kF h4
      · exact kT h4
    · refine j_aload_n (pc' := 13) rfl rfl rfl ?_
      refine j_iload_n (pc' := 14) rfl rfl rfl ?_
      refine j_callPi (pc' := 17) (ai := 96) (vs := [.ref 69, .int l2]) (rest := []) rfl rfl (fun _ _ => rfl) (c_X8_isPeriod_69 l2 σ) (j_dd rfl hd) rfl (fun v1 => ?_)
      refine j_ql (Φl := (fun r Q => j_Tr true τ M_cX8_periodsInAll d 23 [some (.ref 69), some (.int r), some (.int l2)] [] σ Q)) ?_ (fun v2 => ?_)
      · refine j_twoT (pT := 20) (pF := 23) (L1 := [some (.ref 69), some (.int l1), some (.int l2)]) (st1 := []) (fun o kT kF => ?_) (fun h1 => ?_) (fun h1 => ?_)
        · refine j_ifeq (t := 23) (pc' := 20) rfl rfl rfl (fun h2 => ?_) (fun h2 => ?_)
          · exact kF (fun z => z h2)
          · exact kT h2
        · refine j_iincx (pc' := 23) (y := (1 : Int32)) (L' := [some (.ref 69), some (.int (l1 + (1 : Int32))), some (.int l2)]) rfl rfl rfl rfl rfl ?_
          exact j_end (fun _ h => h)
        · exact j_end (fun _ h => h)
      show j_J true τ M_cX8_periodsInAll d 23 [some (.ref 69), some (.int v2), some (.int l2)] [] σ _ _
      refine j_iincx (pc' := 26) (y := (1 : Int32)) (L' := [some (.ref 69), some (.int v2), some (.int (l2 + (1 : Int32)))]) rfl rfl rfl rfl rfl ?_
      refine j_goto (t := 4) rfl rfl ?_
      exact ih v2 (l2 + (1 : Int32))
    · refine j_wk [false, true, false] (L' := [none, some (.int l1), none]) rfl ?_
      exact j_end (fun _ h => h)

theorem c_X8_periodsInAll_69 (σ : j_G) : j_K true 1 98 [.ref 69] σ (f_X8_periodsInAll 69 70 σ) (j_Pi σ) := by
  refine j_mkK (M := M_cX8_periodsInAll) (L := [some (.ref 69), none, none]) (m := 2) t_98 rfl (j_rcvO j_a69 rfl) rfl (fun d hd τ => ?_)
  unfold f_X8_periodsInAll
  refine j_iconst (pc' := 1) (x := (0 : Int32)) rfl rfl rfl ?_
  refine j_istore_n (pc' := 2) (L' := [some (.ref 69), some (.int (0 : Int32)), none]) rfl rfl rfl ?_
  refine j_iconst (pc' := 3) (x := (1 : Int32)) rfl rfl rfl ?_
  refine j_istore_n (pc' := 4) (L' := [some (.ref 69), some (.int (0 : Int32)), some (.int (1 : Int32))]) rfl rfl rfl ?_
  refine j_q1 (l_X8_periodsInAll_4_69 hd τ σ j_F (0 : Int32) (1 : Int32)) (fun v1 => ?_)
  show j_J true τ M_cX8_periodsInAll d 29 [none, some (.int v1), none] [] σ _ _
  refine j_iload_n (pc' := 30) rfl rfl rfl ?_
  exact j_ret rfl rfl rfl (fun _ h => h)

theorem l_X8_periodsInAll_4_71 {d : Nat} (hd : 1 ≤ d) (τ : j_G) (σ : j_G) : ∀ (n : Nat) (l1 : Int32) (l2 : Int32), j_J true τ M_cX8_periodsInAll d 4 [some (.ref 71), some (.int l1), some (.int l2)] [] σ (p_X8_periodsInAll_4 71 72 σ n l1 l2) (fun r Q => j_Tr true τ M_cX8_periodsInAll d 29 [none, some (.int r), none] [] σ Q) := by
  intro n
  induction n with
  | zero => intro l1 l2; exact j_none
  | succ n ih =>
    intro l1 l2
    unfold p_X8_periodsInAll_4
    refine j_iload_n (pc' := 5) rfl rfl rfl ?_
    refine j_aload_n (pc' := 6) rfl rfl rfl ?_
    refine j_gfi (pc' := 9) rfl rfl j_a71 rfl ?_
    refine j_two (pT := 12) (pF := 29) (L1 := [some (.ref 71), some (.int l1), some (.int l2)]) (st1 := []) (fun o kT kF => ?_) (fun h3 => ?_) (fun h3 => ?_)
    · refine j_icge (t := 29) (pc' := 12) rfl rfl rfl (fun h4 => ?_) (fun h4 => ?_)
      · exact kF h4
      · exact kT h4
    · refine j_aload_n (pc' := 13) rfl rfl rfl ?_
      refine j_iload_n (pc' := 14) rfl rfl rfl ?_
      refine j_callPi (pc' := 17) (ai := 96) (vs := [.ref 71, .int l2]) (rest := []) rfl rfl (fun _ _ => rfl) (c_X8_isPeriod_71 l2 σ) (j_dd rfl hd) rfl (fun v1 => ?_)
      refine j_ql (Φl := (fun r Q => j_Tr true τ M_cX8_periodsInAll d 23 [some (.ref 71), some (.int r), some (.int l2)] [] σ Q)) ?_ (fun v2 => ?_)
      · refine j_twoT (pT := 20) (pF := 23) (L1 := [some (.ref 71), some (.int l1), some (.int l2)]) (st1 := []) (fun o kT kF => ?_) (fun h1 => ?_) (fun h1 => ?_)
        · refine j_ifeq (t := 23) (pc' := 20) rfl rfl rfl (fun h2 => ?_) (fun h2 => ?_)
          · exact kF (fun z => z h2)
          · exact kT h2
        · refine j_iincx (pc' := 23) (y := (1 : Int32)) (L' := [some (.ref 71), some (.int (l1 + (1 : Int32))), some (.int l2)]) rfl rfl rfl rfl rfl ?_
          exact j_end (fun _ h => h)
        · exact j_end (fun _ h => h)
      show j_J true τ M_cX8_periodsInAll d 23 [some (.ref 71), some (.int v2), some (.int l2)] [] σ _ _
      refine j_iincx (pc' := 26) (y := (1 : Int32)) (L' := [some (.ref 71), some (.int v2), some (.int (l2 + (1 : Int32)))]) rfl rfl rfl rfl rfl ?_
      refine j_goto (t := 4) rfl rfl ?_
      exact ih v2 (l2 + (1 : Int32))
    · refine j_wk [false, true, false] (L' := [none, some (.int l1), none]) rfl ?_
      exact j_end (fun _ h => h)

theorem c_X8_periodsInAll_71 (σ : j_G) : j_K true 1 98 [.ref 71] σ (f_X8_periodsInAll 71 72 σ) (j_Pi σ) := by
  refine j_mkK (M := M_cX8_periodsInAll) (L := [some (.ref 71), none, none]) (m := 2) t_98 rfl (j_rcvO j_a71 rfl) rfl (fun d hd τ => ?_)
  unfold f_X8_periodsInAll
  refine j_iconst (pc' := 1) (x := (0 : Int32)) rfl rfl rfl ?_
  refine j_istore_n (pc' := 2) (L' := [some (.ref 71), some (.int (0 : Int32)), none]) rfl rfl rfl ?_
  refine j_iconst (pc' := 3) (x := (1 : Int32)) rfl rfl rfl ?_
  refine j_istore_n (pc' := 4) (L' := [some (.ref 71), some (.int (0 : Int32)), some (.int (1 : Int32))]) rfl rfl rfl ?_
  refine j_q1 (l_X8_periodsInAll_4_71 hd τ σ j_F (0 : Int32) (1 : Int32)) (fun v1 => ?_)
  show j_J true τ M_cX8_periodsInAll d 29 [none, some (.int v1), none] [] σ _ _
  refine j_iload_n (pc' := 30) rfl rfl rfl ?_
  exact j_ret rfl rfl rfl (fun _ h => h)

theorem l_X8_periodsInAll_4_73 {d : Nat} (hd : 1 ≤ d) (τ : j_G) (σ : j_G) : ∀ (n : Nat) (l1 : Int32) (l2 : Int32), j_J true τ M_cX8_periodsInAll d 4 [some (.ref 73), some (.int l1), some (.int l2)] [] σ (p_X8_periodsInAll_4 73 74 σ n l1 l2) (fun r Q => j_Tr true τ M_cX8_periodsInAll d 29 [none, some (.int r), none] [] σ Q) := by
  intro n
  induction n with
  | zero => intro l1 l2; exact j_none
  | succ n ih =>
    intro l1 l2
    unfold p_X8_periodsInAll_4
    refine j_iload_n (pc' := 5) rfl rfl rfl ?_
    refine j_aload_n (pc' := 6) rfl rfl rfl ?_
    refine j_gfi (pc' := 9) rfl rfl j_a73 rfl ?_
    refine j_two (pT := 12) (pF := 29) (L1 := [some (.ref 73), some (.int l1), some (.int l2)]) (st1 := []) (fun o kT kF => ?_) (fun h3 => ?_) (fun h3 => ?_)
    · refine j_icge (t := 29) (pc' := 12) rfl rfl rfl (fun h4 => ?_) (fun h4 => ?_)
      · exact kF h4
      · exact kT h4
    · refine j_aload_n (pc' := 13) rfl rfl rfl ?_
      refine j_iload_n (pc' := 14) rfl rfl rfl ?_
      refine j_callPi (pc' := 17) (ai := 96) (vs := [.ref 73, .int l2]) (rest := []) rfl rfl (fun _ _ => rfl) (c_X8_isPeriod_73 l2 σ) (j_dd rfl hd) rfl (fun v1 => ?_)
      refine j_ql (Φl := (fun r Q => j_Tr true τ M_cX8_periodsInAll d 23 [some (.ref 73), some (.int r), some (.int l2)] [] σ Q)) ?_ (fun v2 => ?_)
      · refine j_twoT (pT := 20) (pF := 23) (L1 := [some (.ref 73), some (.int l1), some (.int l2)]) (st1 := []) (fun o kT kF => ?_) (fun h1 => ?_) (fun h1 => ?_)
        · refine j_ifeq (t := 23) (pc' := 20) rfl rfl rfl (fun h2 => ?_) (fun h2 => ?_)
          · exact kF (fun z => z h2)
          · exact kT h2
        · refine j_iincx (pc' := 23) (y := (1 : Int32)) (L' := [some (.ref 73), some (.int (l1 + (1 : Int32))), some (.int l2)]) rfl rfl rfl rfl rfl ?_
          exact j_end (fun _ h => h)
        · exact j_end (fun _ h => h)
      show j_J true τ M_cX8_periodsInAll d 23 [some (.ref 73), some (.int v2), some (.int l2)] [] σ _ _
      refine j_iincx (pc' := 26) (y := (1 : Int32)) (L' := [some (.ref 73), some (.int v2), some (.int (l2 + (1 : Int32)))]) rfl rfl rfl rfl rfl ?_
      refine j_goto (t := 4) rfl rfl ?_
      exact ih v2 (l2 + (1 : Int32))
    · refine j_wk [false, true, false] (L' := [none, some (.int l1), none]) rfl ?_
      exact j_end (fun _ h => h)

theorem c_X8_periodsInAll_73 (σ : j_G) : j_K true 1 98 [.ref 73] σ (f_X8_periodsInAll 73 74 σ) (j_Pi σ) := by
  refine j_mkK (M := M_cX8_periodsInAll) (L := [some (.ref 73), none, none]) (m := 2) t_98 rfl (j_rcvO j_a73 rfl) rfl (fun d hd τ => ?_)
  unfold f_X8_periodsInAll
  refine j_iconst (pc' := 1) (x := (0 : Int32)) rfl rfl rfl ?_
  refine j_istore_n (pc' := 2) (L' := [some (.ref 73), some (.int (0 : Int32)), none]) rfl rfl rfl ?_
  refine j_iconst (pc' := 3) (x := (1 : Int32)) rfl rfl rfl ?_
  refine j_istore_n (pc' := 4) (L' := [some (.ref 73), some (.int (0 : Int32)), some (.int (1 : Int32))]) rfl rfl rfl ?_
  refine j_q1 (l_X8_periodsInAll_4_73 hd τ σ j_F (0 : Int32) (1 : Int32)) (fun v1 => ?_)
  show j_J true τ M_cX8_periodsInAll d 29 [none, some (.int v1), none] [] σ _ _
  refine j_iload_n (pc' := 30) rfl rfl rfl ?_
  exact j_ret rfl rfl rfl (fun _ h => h)

noncomputable def f_X11_periods (l1 : Int32) (σ : j_G) : Option Int32 :=
  j_b1 (f_X11_whyUnheard l1 σ) fun v1 =>
  if v1 = 0 then (if l1 = 0 then (j_b1 (f_X8_periodsInAll 67 68 σ) fun v2 =>
  some v2) else
  if l1 = 1 then (j_b1 (f_X8_periodsInAll 69 70 σ) fun v3 =>
  some v3) else
  if l1 = 2 then (j_b1 (f_X8_periodsInAll 71 72 σ) fun v4 =>
  some v4) else
  if l1 = 3 then (j_b1 (f_X8_periodsInAll 73 74 σ) fun v5 =>
  some v5) else
  none) else (some v1)
theorem c_X11_periods (l1 : Int32) (σ : j_G) : j_K true 2 149 [.ref 0, .int l1] σ (f_X11_periods l1 σ) (j_Pi σ) := by
  refine j_mkK (M := M_cX11_periods) (L := [some (.ref 0), some (.int l1), none]) (m := 1) t_149 rfl (j_rcvO j_a0 rfl) rfl (fun d hd τ => ?_)
  unfold f_X11_periods
  refine j_aload_n (pc' := 1) rfl rfl rfl ?_
  refine j_iload_n (pc' := 2) rfl rfl rfl ?_
  refine j_callPi (pc' := 5) (ai := 193) (vs := [.ref 0, .int l1]) (rest := []) rfl rfl (fun _ _ => rfl) (c_X11_whyUnheard l1 σ) (j_dd rfl hd) rfl (fun v1 => ?_)
  refine j_istore_n (pc' := 6) (L' := [some (.ref 0), some (.int l1), some (.int v1)]) rfl rfl rfl ?_
  refine j_iload_n (pc' := 7) rfl rfl rfl ?_
  refine j_two (pT := 10) (pF := 22) (L1 := [some (.ref 0), some (.int l1), some (.int v1)]) (st1 := []) (fun o kT kF => ?_) (fun h5 => ?_) (fun h5 => ?_)
  · refine j_ifne (t := 22) (pc' := 10) rfl rfl rfl (fun h6 => ?_) (fun h6 => ?_)
    · exact kF h6
    · exact kT h6
  · refine j_aload_n (pc' := 11) rfl rfl rfl ?_
    refine j_gfr (pc' := 14) (x := 42) rfl rfl j_a0 rfl rfl ?_
    refine j_iload_n (pc' := 15) rfl rfl rfl ?_
    refine j_spl (k := (0 : Int32)) (fun h1 => ?_) (fun h1 => ?_)
    · subst h1
      refine j_aald (pc' := 16) (r := 67) rfl rfl j_a42 (by decide) rfl ?_
      refine j_callPi (pc' := 19) (ai := 98) (vs := [.ref 67]) (rest := []) rfl rfl (fun _ _ => rfl) (c_X8_periodsInAll_67  σ) (j_dd rfl hd) rfl (fun v2 => ?_)
      refine j_goto (t := 23) rfl rfl ?_
      exact j_ret rfl rfl rfl (fun _ h => h)
    refine j_spl (k := (1 : Int32)) (fun h2 => ?_) (fun h2 => ?_)
    · subst h2
      refine j_aald (pc' := 16) (r := 69) rfl rfl j_a42 (by decide) rfl ?_
      refine j_callPi (pc' := 19) (ai := 98) (vs := [.ref 69]) (rest := []) rfl rfl (fun _ _ => rfl) (c_X8_periodsInAll_69  σ) (j_dd rfl hd) rfl (fun v3 => ?_)
      refine j_goto (t := 23) rfl rfl ?_
      exact j_ret rfl rfl rfl (fun _ h => h)
    refine j_spl (k := (2 : Int32)) (fun h3 => ?_) (fun h3 => ?_)
    · subst h3
      refine j_aald (pc' := 16) (r := 71) rfl rfl j_a42 (by decide) rfl ?_
      refine j_callPi (pc' := 19) (ai := 98) (vs := [.ref 71]) (rest := []) rfl rfl (fun _ _ => rfl) (c_X8_periodsInAll_71  σ) (j_dd rfl hd) rfl (fun v4 => ?_)
      refine j_goto (t := 23) rfl rfl ?_
      exact j_ret rfl rfl rfl (fun _ h => h)
    refine j_spl (k := (3 : Int32)) (fun h4 => ?_) (fun h4 => ?_)
    · subst h4
      refine j_aald (pc' := 16) (r := 73) rfl rfl j_a42 (by decide) rfl ?_
      refine j_callPi (pc' := 19) (ai := 98) (vs := [.ref 73]) (rest := []) rfl rfl (fun _ _ => rfl) (c_X8_periodsInAll_73  σ) (j_dd rfl hd) rfl (fun v5 => ?_)
      refine j_goto (t := 23) rfl rfl ?_
      exact j_ret rfl rfl rfl (fun _ h => h)
    exact j_none
  · refine j_iload_n (pc' := 23) rfl rfl rfl ?_
    exact j_ret rfl rfl rfl (fun _ h => h)

noncomputable def p_X12_periods_17 (l1 : Int32) (σ : j_G) : Nat → Int32 → Int32 → Option Int32
  | 0, _, _ => none
  | n + 1, l3, l4 =>
    j_ix l1 4 (
    if l4 < (σ.1 94 (l1).toNatClampNeg) then (j_b1 (f_X12_isPeriod l1 l4 σ) fun v1 =>
    j_lt (if ¬ v1 = 0 then ((1 : Int32)) else ((0 : Int32))) fun v2 =>
    j_lt (l3 + v2) fun v3 =>
    p_X12_periods_17 l1 σ n v3 (l4 + (1 : Int32))) else (some l3))

noncomputable def f_X12_periods (l1 : Int32) (σ : j_G) : Option Int32 :=
  j_b1 (f_X12_asksHeard l1 σ) fun v1 =>
  if v1 < 0 then (some v1) else (j_b1 (p_X12_periods_17 l1 σ j_F (0 : Int32) (1 : Int32)) fun v2 =>
  some v2)
theorem l_X12_periods_17 {d : Nat} (hd : 3 ≤ d) (τ : j_G) (l1 : Int32) (σ : j_G) : ∀ (n : Nat) (l3 : Int32) (l4 : Int32), j_J false τ M_cX12_periods d 17 [some (.ref 75), some (.int l1), none, some (.int l3), some (.int l4)] [] σ (p_X12_periods_17 l1 σ n l3 l4) (fun r Q => j_Tr false τ M_cX12_periods d 52 [none, none, none, some (.int r), none] [] σ Q) := by
  intro n
  induction n with
  | zero => intro l3 l4; exact j_none
  | succ n ih =>
    intro l3 l4
    unfold p_X12_periods_17
    refine j_iload (pc' := 19) rfl rfl rfl ?_
    refine j_aload_n (pc' := 20) rfl rfl rfl ?_
    refine j_gfr (pc' := 23) (x := 94) rfl rfl j_a75 rfl rfl ?_
    refine j_iload_n (pc' := 24) rfl rfl rfl ?_
    refine j_iald (pc' := 25) rfl rfl j_a94 ?_
    refine j_two (pT := 28) (pF := 52) (L1 := [some (.ref 75), some (.int l1), none, some (.int l3), some (.int l4)]) (st1 := []) (fun o kT kF => ?_) (fun h3 => ?_) (fun h3 => ?_)
    · refine j_icge (t := 52) (pc' := 28) rfl rfl rfl (fun h4 => ?_) (fun h4 => ?_)
      · exact kF h4
      · exact kT h4
    · refine j_iload_n (pc' := 29) rfl rfl rfl ?_
      refine j_aload_n (pc' := 30) rfl rfl rfl ?_
      refine j_iload_n (pc' := 31) rfl rfl rfl ?_
      refine j_iload (pc' := 33) rfl rfl rfl ?_
      refine j_callPi (pc' := 36) (ai := 300) (vs := [.ref 75, .int l1, .int l4]) (rest := [.int l3]) rfl rfl (fun _ _ => rfl) (c_X12_isPeriod l1 l4 σ) (j_dd rfl hd) rfl (fun v1 => ?_)
      refine j_ql (Φl := (fun r Q => j_Tr false τ M_cX12_periods d 44 [some (.ref 75), some (.int l1), none, none, some (.int l4)] [.int r, .int l3] σ Q)) ?_ (fun v2 => ?_)
      · refine j_twoT (pT := 39) (pF := 43) (L1 := [some (.ref 75), some (.int l1), none, some (.int l3), some (.int l4)]) (st1 := [.int l3]) (fun o kT kF => ?_) (fun h1 => ?_) (fun h1 => ?_)
        · refine j_ifeq (t := 43) (pc' := 39) rfl rfl rfl (fun h2 => ?_) (fun h2 => ?_)
          · exact kF (fun z => z h2)
          · exact kT h2
        · refine j_iconst (pc' := 40) (x := (1 : Int32)) rfl rfl rfl ?_
          refine j_goto (t := 44) rfl rfl ?_
          refine j_wk [true, true, true, false, true] (L' := [some (.ref 75), some (.int l1), none, none, some (.int l4)]) rfl ?_
          exact j_end (fun _ h => h)
        · refine j_iconst (pc' := 44) (x := (0 : Int32)) rfl rfl rfl ?_
          refine j_wk [true, true, true, false, true] (L' := [some (.ref 75), some (.int l1), none, none, some (.int l4)]) rfl ?_
          exact j_end (fun _ h => h)
      show j_J false τ M_cX12_periods d 44 [some (.ref 75), some (.int l1), none, none, some (.int l4)] [.int v2, .int l3] σ _ _
      refine j_iadd (pc' := 45) rfl rfl ?_
      refine j_leti (fun v3 => ?_)
      refine j_istore_n (pc' := 46) (L' := [some (.ref 75), some (.int l1), none, some (.int v3), some (.int l4)]) rfl rfl rfl ?_
      refine j_iincx (pc' := 49) (y := (1 : Int32)) (L' := [some (.ref 75), some (.int l1), none, some (.int v3), some (.int (l4 + (1 : Int32)))]) rfl rfl rfl rfl rfl ?_
      refine j_goto (t := 17) rfl rfl ?_
      exact ih v3 (l4 + (1 : Int32))
    · refine j_wk [false, false, true, true, false] (L' := [none, none, none, some (.int l3), none]) rfl ?_
      exact j_end (fun _ h => h)

theorem c_X12_periods (l1 : Int32) (σ : j_G) : j_K false 3 303 [.ref 75, .int l1] σ (f_X12_periods l1 σ) (j_Pi σ) := by
  refine j_mkK (M := M_cX12_periods) (L := [some (.ref 75), some (.int l1), none, none, none]) (m := 3) t_303 rfl (j_rcvO j_a75 rfl) rfl (fun d hd τ => ?_)
  unfold f_X12_periods
  refine j_aload_n (pc' := 1) rfl rfl rfl ?_
  refine j_iload_n (pc' := 2) rfl rfl rfl ?_
  refine j_callPi (pc' := 5) (ai := 299) (vs := [.ref 75, .int l1]) (rest := []) rfl rfl (fun _ _ => rfl) (c_X12_asksHeard l1 σ) (j_dd rfl hd) rfl (fun v1 => ?_)
  refine j_istore_n (pc' := 6) (L' := [some (.ref 75), some (.int l1), some (.int v1), none, none]) rfl rfl rfl ?_
  refine j_iload_n (pc' := 7) rfl rfl rfl ?_
  refine j_two (pT := 10) (pF := 12) (L1 := [some (.ref 75), some (.int l1), some (.int v1), none, none]) (st1 := []) (fun o kT kF => ?_) (fun h1 => ?_) (fun h1 => ?_)
  · refine j_ifge (t := 12) (pc' := 10) rfl rfl rfl (fun h2 => ?_) (fun h2 => ?_)
    · exact kF h2
    · exact kT h2
  · refine j_iload_n (pc' := 11) rfl rfl rfl ?_
    exact j_ret rfl rfl rfl (fun _ h => h)
  · refine j_iconst (pc' := 13) (x := (0 : Int32)) rfl rfl rfl ?_
    refine j_istore_n (pc' := 14) (L' := [some (.ref 75), some (.int l1), some (.int v1), some (.int (0 : Int32)), none]) rfl rfl rfl ?_
    refine j_iconst (pc' := 15) (x := (1 : Int32)) rfl rfl rfl ?_
    refine j_istore (pc' := 17) (L' := [some (.ref 75), some (.int l1), some (.int v1), some (.int (0 : Int32)), some (.int (1 : Int32))]) rfl rfl rfl ?_
    refine j_wk [true, true, false, true, true] (L' := [some (.ref 75), some (.int l1), none, some (.int (0 : Int32)), some (.int (1 : Int32))]) rfl ?_
    refine j_q1 (l_X12_periods_17 hd τ l1 σ j_F (0 : Int32) (1 : Int32)) (fun v2 => ?_)
    show j_J false τ M_cX12_periods d 52 [none, none, none, some (.int v2), none] [] σ _ _
    refine j_iload_n (pc' := 53) rfl rfl rfl ?_
    exact j_ret rfl rfl rfl (fun _ h => h)

noncomputable def p_X11_luck_44 (s51 : Nat) (l6 : Int32) (σ : j_G) : Nat → Int64 → Int32 → Option Int64
  | 0, _, _ => none
  | n + 1, l4, l7 =>
    if (l7 < (σ.1 s51 0)) ∧ (¬ (1000000000 : Int64) < l4) then (j_lt (l4 * (l6).toInt64) fun v1 =>
    p_X11_luck_44 s51 l6 σ n v1 (l7 + (1 : Int32))) else (some l4)

noncomputable def f_X11_luck (l1 : Int32) (σ : j_G) : Option Int32 :=
  j_b1 (f_X11_whyUnheard l1 σ) fun v1 =>
  if ¬ v1 = 0 then (some v1) else (if l1 = 0 then (j_b1 (f_X8_leastPeriod 67 68 σ) fun v2 =>
  if v2 = (-1 : Int32) then (some (-1 : Int32)) else (j_lt (f_X2_openHoles σ) fun v3 =>
  j_b1 (p_X11_luck_44 67 v3 σ j_F (1 : Int64) v2) fun v4 =>
  if (1000000000 : Int64) < v4 then (some (-1 : Int32)) else (some (v4).toInt32))) else
  if l1 = 1 then (j_b1 (f_X8_leastPeriod 69 70 σ) fun v5 =>
  if v5 = (-1 : Int32) then (some (-1 : Int32)) else (j_lt (f_X2_openHoles σ) fun v6 =>
  j_b1 (p_X11_luck_44 69 v6 σ j_F (1 : Int64) v5) fun v7 =>
  if (1000000000 : Int64) < v7 then (some (-1 : Int32)) else (some (v7).toInt32))) else
  if l1 = 2 then (j_b1 (f_X8_leastPeriod 71 72 σ) fun v8 =>
  if v8 = (-1 : Int32) then (some (-1 : Int32)) else (j_lt (f_X2_openHoles σ) fun v9 =>
  j_b1 (p_X11_luck_44 71 v9 σ j_F (1 : Int64) v8) fun v10 =>
  if (1000000000 : Int64) < v10 then (some (-1 : Int32)) else (some (v10).toInt32))) else
  if l1 = 3 then (j_b1 (f_X8_leastPeriod 73 74 σ) fun v11 =>
  if v11 = (-1 : Int32) then (some (-1 : Int32)) else (j_lt (f_X2_openHoles σ) fun v12 =>
  j_b1 (p_X11_luck_44 73 v12 σ j_F (1 : Int64) v11) fun v13 =>
  if (1000000000 : Int64) < v13 then (some (-1 : Int32)) else (some (v13).toInt32))) else
  none)
theorem l_X11_luck_44_67 {d : Nat} (hd : 2 ≤ d) (τ : j_G) (l6 : Int32) (σ : j_G) : ∀ (n : Nat) (l4 : Int64) (l7 : Int32), j_J true τ M_cX11_luck d 44 [some (.ref 0), some (.int (0 : Int32)), none, none, some (.long l4), none, some (.int l6), some (.int l7)] [] σ (p_X11_luck_44 67 l6 σ n l4 l7) (fun r Q => j_Tr true τ M_cX11_luck d 81 [none, none, none, none, some (.long r), none, none, none] [] σ Q) := by
  intro n
  induction n with
  | zero => intro l4 l7; exact j_none
  | succ n ih =>
    intro l4 l7
    unfold p_X11_luck_44
    refine j_iload (pc' := 46) rfl rfl rfl ?_
    refine j_aload_n (pc' := 47) rfl rfl rfl ?_
    refine j_gfr (pc' := 50) (x := 42) rfl rfl j_a0 rfl rfl ?_
    refine j_iload_n (pc' := 51) rfl rfl rfl ?_
    refine j_aald (pc' := 52) (r := 67) rfl rfl j_a42 (by decide) rfl ?_
    refine j_gfi (pc' := 55) rfl rfl j_a67 rfl ?_
    refine j_two (pT := 67) (pF := 81) (L1 := [some (.ref 0), some (.int (0 : Int32)), none, none, some (.long l4), none, some (.int l6), some (.int l7)]) (st1 := []) (fun o kT kF => ?_) (fun h1 => ?_) (fun h1 => ?_)
    · refine j_icge (t := 81) (pc' := 58) rfl rfl rfl (fun h2 => ?_) (fun h2 => ?_)
      · exact kF (fun z => h2 z.1)
      · refine j_lload (pc' := 60) rfl rfl rfl ?_
        refine j_ldc2_w (pc' := 63) (x := (1000000000 : Int64)) rfl rfl rfl ?_
        refine j_lcmp (pc' := 64) rfl rfl ?_
        refine j_ifgtL (t := 81) (pc' := 67) rfl rfl rfl (fun h3 => ?_) (fun h3 => ?_)
        · exact kF (fun z => (fun z => z h3) z.2)
        · exact kT (⟨h2, h3⟩)
    · refine j_lload (pc' := 69) rfl rfl rfl ?_
      refine j_iload (pc' := 71) rfl rfl rfl ?_
      refine j_i2l (pc' := 72) rfl rfl ?_
      refine j_lmul (pc' := 73) rfl rfl ?_
      refine j_letl (fun v1 => ?_)
      refine j_lstore (pc' := 75) (L' := [some (.ref 0), some (.int (0 : Int32)), none, none, some (.long v1), none, some (.int l6), some (.int l7)]) rfl rfl rfl ?_
      refine j_iincx (pc' := 78) (y := (1 : Int32)) (L' := [some (.ref 0), some (.int (0 : Int32)), none, none, some (.long v1), none, some (.int l6), some (.int (l7 + (1 : Int32)))]) rfl rfl rfl rfl rfl ?_
      refine j_goto (t := 44) rfl rfl ?_
      exact ih v1 (l7 + (1 : Int32))
    · refine j_wk [false, false, true, true, true, true, false, false] (L' := [none, none, none, none, some (.long l4), none, none, none]) rfl ?_
      exact j_end (fun _ h => h)

theorem l_X11_luck_44_69 {d : Nat} (hd : 2 ≤ d) (τ : j_G) (l6 : Int32) (σ : j_G) : ∀ (n : Nat) (l4 : Int64) (l7 : Int32), j_J true τ M_cX11_luck d 44 [some (.ref 0), some (.int (1 : Int32)), none, none, some (.long l4), none, some (.int l6), some (.int l7)] [] σ (p_X11_luck_44 69 l6 σ n l4 l7) (fun r Q => j_Tr true τ M_cX11_luck d 81 [none, none, none, none, some (.long r), none, none, none] [] σ Q) := by
  intro n
  induction n with
  | zero => intro l4 l7; exact j_none
  | succ n ih =>
    intro l4 l7
    unfold p_X11_luck_44
    refine j_iload (pc' := 46) rfl rfl rfl ?_
    refine j_aload_n (pc' := 47) rfl rfl rfl ?_
    refine j_gfr (pc' := 50) (x := 42) rfl rfl j_a0 rfl rfl ?_
    refine j_iload_n (pc' := 51) rfl rfl rfl ?_
    refine j_aald (pc' := 52) (r := 69) rfl rfl j_a42 (by decide) rfl ?_
    refine j_gfi (pc' := 55) rfl rfl j_a69 rfl ?_
    refine j_two (pT := 67) (pF := 81) (L1 := [some (.ref 0), some (.int (1 : Int32)), none, none, some (.long l4), none, some (.int l6), some (.int l7)]) (st1 := []) (fun o kT kF => ?_) (fun h1 => ?_) (fun h1 => ?_)
    · refine j_icge (t := 81) (pc' := 58) rfl rfl rfl (fun h2 => ?_) (fun h2 => ?_)
      · exact kF (fun z => h2 z.1)
      · refine j_lload (pc' := 60) rfl rfl rfl ?_
        refine j_ldc2_w (pc' := 63) (x := (1000000000 : Int64)) rfl rfl rfl ?_
        refine j_lcmp (pc' := 64) rfl rfl ?_
        refine j_ifgtL (t := 81) (pc' := 67) rfl rfl rfl (fun h3 => ?_) (fun h3 => ?_)
        · exact kF (fun z => (fun z => z h3) z.2)
        · exact kT (⟨h2, h3⟩)
    · refine j_lload (pc' := 69) rfl rfl rfl ?_
      refine j_iload (pc' := 71) rfl rfl rfl ?_
      refine j_i2l (pc' := 72) rfl rfl ?_
      refine j_lmul (pc' := 73) rfl rfl ?_
      refine j_letl (fun v1 => ?_)
      refine j_lstore (pc' := 75) (L' := [some (.ref 0), some (.int (1 : Int32)), none, none, some (.long v1), none, some (.int l6), some (.int l7)]) rfl rfl rfl ?_
      refine j_iincx (pc' := 78) (y := (1 : Int32)) (L' := [some (.ref 0), some (.int (1 : Int32)), none, none, some (.long v1), none, some (.int l6), some (.int (l7 + (1 : Int32)))]) rfl rfl rfl rfl rfl ?_
      refine j_goto (t := 44) rfl rfl ?_
      exact ih v1 (l7 + (1 : Int32))
    · refine j_wk [false, false, true, true, true, true, false, false] (L' := [none, none, none, none, some (.long l4), none, none, none]) rfl ?_
      exact j_end (fun _ h => h)

theorem l_X11_luck_44_71 {d : Nat} (hd : 2 ≤ d) (τ : j_G) (l6 : Int32) (σ : j_G) : ∀ (n : Nat) (l4 : Int64) (l7 : Int32), j_J true τ M_cX11_luck d 44 [some (.ref 0), some (.int (2 : Int32)), none, none, some (.long l4), none, some (.int l6), some (.int l7)] [] σ (p_X11_luck_44 71 l6 σ n l4 l7) (fun r Q => j_Tr true τ M_cX11_luck d 81 [none, none, none, none, some (.long r), none, none, none] [] σ Q) := by
  intro n
  induction n with
  | zero => intro l4 l7; exact j_none
  | succ n ih =>
    intro l4 l7
    unfold p_X11_luck_44
    refine j_iload (pc' := 46) rfl rfl rfl ?_
    refine j_aload_n (pc' := 47) rfl rfl rfl ?_
    refine j_gfr (pc' := 50) (x := 42) rfl rfl j_a0 rfl rfl ?_
    refine j_iload_n (pc' := 51) rfl rfl rfl ?_
    refine j_aald (pc' := 52) (r := 71) rfl rfl j_a42 (by decide) rfl ?_
    refine j_gfi (pc' := 55) rfl rfl j_a71 rfl ?_
    refine j_two (pT := 67) (pF := 81) (L1 := [some (.ref 0), some (.int (2 : Int32)), none, none, some (.long l4), none, some (.int l6), some (.int l7)]) (st1 := []) (fun o kT kF => ?_) (fun h1 => ?_) (fun h1 => ?_)
    · refine j_icge (t := 81) (pc' := 58) rfl rfl rfl (fun h2 => ?_) (fun h2 => ?_)
      · exact kF (fun z => h2 z.1)
      · refine j_lload (pc' := 60) rfl rfl rfl ?_
        refine j_ldc2_w (pc' := 63) (x := (1000000000 : Int64)) rfl rfl rfl ?_
        refine j_lcmp (pc' := 64) rfl rfl ?_
        refine j_ifgtL (t := 81) (pc' := 67) rfl rfl rfl (fun h3 => ?_) (fun h3 => ?_)
        · exact kF (fun z => (fun z => z h3) z.2)
        · exact kT (⟨h2, h3⟩)
    · refine j_lload (pc' := 69) rfl rfl rfl ?_
      refine j_iload (pc' := 71) rfl rfl rfl ?_
      refine j_i2l (pc' := 72) rfl rfl ?_
      refine j_lmul (pc' := 73) rfl rfl ?_
      refine j_letl (fun v1 => ?_)
      refine j_lstore (pc' := 75) (L' := [some (.ref 0), some (.int (2 : Int32)), none, none, some (.long v1), none, some (.int l6), some (.int l7)]) rfl rfl rfl ?_
      refine j_iincx (pc' := 78) (y := (1 : Int32)) (L' := [some (.ref 0), some (.int (2 : Int32)), none, none, some (.long v1), none, some (.int l6), some (.int (l7 + (1 : Int32)))]) rfl rfl rfl rfl rfl ?_
      refine j_goto (t := 44) rfl rfl ?_
      exact ih v1 (l7 + (1 : Int32))
    · refine j_wk [false, false, true, true, true, true, false, false] (L' := [none, none, none, none, some (.long l4), none, none, none]) rfl ?_
      exact j_end (fun _ h => h)

theorem l_X11_luck_44_73 {d : Nat} (hd : 2 ≤ d) (τ : j_G) (l6 : Int32) (σ : j_G) : ∀ (n : Nat) (l4 : Int64) (l7 : Int32), j_J true τ M_cX11_luck d 44 [some (.ref 0), some (.int (3 : Int32)), none, none, some (.long l4), none, some (.int l6), some (.int l7)] [] σ (p_X11_luck_44 73 l6 σ n l4 l7) (fun r Q => j_Tr true τ M_cX11_luck d 81 [none, none, none, none, some (.long r), none, none, none] [] σ Q) := by
  intro n
  induction n with
  | zero => intro l4 l7; exact j_none
  | succ n ih =>
    intro l4 l7
    unfold p_X11_luck_44
    refine j_iload (pc' := 46) rfl rfl rfl ?_
    refine j_aload_n (pc' := 47) rfl rfl rfl ?_
    refine j_gfr (pc' := 50) (x := 42) rfl rfl j_a0 rfl rfl ?_
    refine j_iload_n (pc' := 51) rfl rfl rfl ?_
    refine j_aald (pc' := 52) (r := 73) rfl rfl j_a42 (by decide) rfl ?_
    refine j_gfi (pc' := 55) rfl rfl j_a73 rfl ?_
    refine j_two (pT := 67) (pF := 81) (L1 := [some (.ref 0), some (.int (3 : Int32)), none, none, some (.long l4), none, some (.int l6), some (.int l7)]) (st1 := []) (fun o kT kF => ?_) (fun h1 => ?_) (fun h1 => ?_)
    · refine j_icge (t := 81) (pc' := 58) rfl rfl rfl (fun h2 => ?_) (fun h2 => ?_)
      · exact kF (fun z => h2 z.1)
      · refine j_lload (pc' := 60) rfl rfl rfl ?_
        refine j_ldc2_w (pc' := 63) (x := (1000000000 : Int64)) rfl rfl rfl ?_
        refine j_lcmp (pc' := 64) rfl rfl ?_
        refine j_ifgtL (t := 81) (pc' := 67) rfl rfl rfl (fun h3 => ?_) (fun h3 => ?_)
        · exact kF (fun z => (fun z => z h3) z.2)
        · exact kT (⟨h2, h3⟩)
    · refine j_lload (pc' := 69) rfl rfl rfl ?_
      refine j_iload (pc' := 71) rfl rfl rfl ?_
      refine j_i2l (pc' := 72) rfl rfl ?_
      refine j_lmul (pc' := 73) rfl rfl ?_
      refine j_letl (fun v1 => ?_)
      refine j_lstore (pc' := 75) (L' := [some (.ref 0), some (.int (3 : Int32)), none, none, some (.long v1), none, some (.int l6), some (.int l7)]) rfl rfl rfl ?_
      refine j_iincx (pc' := 78) (y := (1 : Int32)) (L' := [some (.ref 0), some (.int (3 : Int32)), none, none, some (.long v1), none, some (.int l6), some (.int (l7 + (1 : Int32)))]) rfl rfl rfl rfl rfl ?_
      refine j_goto (t := 44) rfl rfl ?_
      exact ih v1 (l7 + (1 : Int32))
    · refine j_wk [false, false, true, true, true, true, false, false] (L' := [none, none, none, none, some (.long l4), none, none, none]) rfl ?_
      exact j_end (fun _ h => h)

theorem c_X11_luck (l1 : Int32) (σ : j_G) : j_K true 2 150 [.ref 0, .int l1] σ (f_X11_luck l1 σ) (j_Pi σ) := by
  refine j_mkK (M := M_cX11_luck) (L := [some (.ref 0), some (.int l1), none, none, none, none, none, none]) (m := 6) t_150 rfl (j_rcvO j_a0 rfl) rfl (fun d hd τ => ?_)
  unfold f_X11_luck
  refine j_aload_n (pc' := 1) rfl rfl rfl ?_
  refine j_iload_n (pc' := 2) rfl rfl rfl ?_
  refine j_callPi (pc' := 5) (ai := 193) (vs := [.ref 0, .int l1]) (rest := []) rfl rfl (fun _ _ => rfl) (c_X11_whyUnheard l1 σ) (j_dd rfl hd) rfl (fun v1 => ?_)
  refine j_istore_n (pc' := 6) (L' := [some (.ref 0), some (.int l1), some (.int v1), none, none, none, none, none]) rfl rfl rfl ?_
  refine j_iload_n (pc' := 7) rfl rfl rfl ?_
  refine j_two (pT := 10) (pF := 12) (L1 := [some (.ref 0), some (.int l1), some (.int v1), none, none, none, none, none]) (st1 := []) (fun o kT kF => ?_) (fun h21 => ?_) (fun h21 => ?_)
  · refine j_ifeq (t := 12) (pc' := 10) rfl rfl rfl (fun h22 => ?_) (fun h22 => ?_)
    · exact kF (fun z => z h22)
    · exact kT h22
  · refine j_iload_n (pc' := 11) rfl rfl rfl ?_
    exact j_ret rfl rfl rfl (fun _ h => h)
  · refine j_aload_n (pc' := 13) rfl rfl rfl ?_
    refine j_gfr (pc' := 16) (x := 42) rfl rfl j_a0 rfl rfl ?_
    refine j_iload_n (pc' := 17) rfl rfl rfl ?_
    refine j_spl (k := (0 : Int32)) (fun h1 => ?_) (fun h1 => ?_)
    · subst h1
      refine j_aald (pc' := 18) (r := 67) rfl rfl j_a42 (by decide) rfl ?_
      refine j_callPi (pc' := 21) (ai := 97) (vs := [.ref 67]) (rest := []) rfl rfl (fun _ _ => rfl) (c_X8_leastPeriod_67  σ) (j_dd rfl hd) rfl (fun v2 => ?_)
      refine j_istore_n (pc' := 22) (L' := [some (.ref 0), some (.int (0 : Int32)), some (.int v1), some (.int v2), none, none, none, none]) rfl rfl rfl ?_
      refine j_iload_n (pc' := 23) rfl rfl rfl ?_
      refine j_iconst (pc' := 24) (x := (-1 : Int32)) rfl rfl rfl ?_
      refine j_two (pT := 27) (pF := 29) (L1 := [some (.ref 0), some (.int (0 : Int32)), some (.int v1), some (.int v2), none, none, none, none]) (st1 := []) (fun o kT kF => ?_) (fun h4 => ?_) (fun h4 => ?_)
      · refine j_icne (t := 29) (pc' := 27) rfl rfl rfl (fun h5 => ?_) (fun h5 => ?_)
        · exact kF h5
        · exact kT h5
      · refine j_iconst (pc' := 28) (x := (-1 : Int32)) rfl rfl rfl ?_
        exact j_ret rfl rfl rfl (fun _ h => h)
      · refine j_lconst (pc' := 30) (x := (1 : Int64)) rfl rfl rfl ?_
        refine j_lstore (pc' := 32) (L' := [some (.ref 0), some (.int (0 : Int32)), some (.int v1), some (.int v2), some (.long (1 : Int64)), none, none, none]) rfl rfl rfl ?_
        refine j_aload_n (pc' := 33) rfl rfl rfl ?_
        refine j_gfr (pc' := 36) (x := 1) rfl rfl j_a0 rfl rfl ?_
        refine j_callTi (pc' := 39) (ai := 17) (vs := [.ref 1]) (rest := []) rfl rfl (fun _ _ => rfl) (c_X2_openHoles  σ) (j_dd rfl hd) rfl ?_
        refine j_leti (fun v3 => ?_)
        refine j_istore (pc' := 41) (L' := [some (.ref 0), some (.int (0 : Int32)), some (.int v1), some (.int v2), some (.long (1 : Int64)), none, some (.int v3), none]) rfl rfl rfl ?_
        refine j_iload_n (pc' := 42) rfl rfl rfl ?_
        refine j_istore (pc' := 44) (L' := [some (.ref 0), some (.int (0 : Int32)), some (.int v1), some (.int v2), some (.long (1 : Int64)), none, some (.int v3), some (.int v2)]) rfl rfl rfl ?_
        refine j_wk [true, true, false, false, true, true, true, true] (L' := [some (.ref 0), some (.int (0 : Int32)), none, none, some (.long (1 : Int64)), none, some (.int v3), some (.int v2)]) rfl ?_
        refine j_q1 (l_X11_luck_44_67 hd τ v3 σ j_F (1 : Int64) v2) (fun v4 => ?_)
        show j_J true τ M_cX11_luck d 81 [none, none, none, none, some (.long v4), none, none, none] [] σ _ _
        refine j_lload (pc' := 83) rfl rfl rfl ?_
        refine j_ldc2_w (pc' := 86) (x := (1000000000 : Int64)) rfl rfl rfl ?_
        refine j_lcmp (pc' := 87) rfl rfl ?_
        refine j_two (pT := 90) (pF := 94) (L1 := [none, none, none, none, some (.long v4), none, none, none]) (st1 := []) (fun o kT kF => ?_) (fun h2 => ?_) (fun h2 => ?_)
        · refine j_ifleL (t := 94) (pc' := 90) rfl rfl rfl (fun h3 => ?_) (fun h3 => ?_)
          · exact kF h3
          · exact kT h3
        · refine j_iconst (pc' := 91) (x := (-1 : Int32)) rfl rfl rfl ?_
          refine j_goto (t := 97) rfl rfl ?_
          exact j_ret rfl rfl rfl (fun _ h => h)
        · refine j_lload (pc' := 96) rfl rfl rfl ?_
          refine j_l2i (pc' := 97) rfl rfl ?_
          exact j_ret rfl rfl rfl (fun _ h => h)
    refine j_spl (k := (1 : Int32)) (fun h6 => ?_) (fun h6 => ?_)
    · subst h6
      refine j_aald (pc' := 18) (r := 69) rfl rfl j_a42 (by decide) rfl ?_
      refine j_callPi (pc' := 21) (ai := 97) (vs := [.ref 69]) (rest := []) rfl rfl (fun _ _ => rfl) (c_X8_leastPeriod_69  σ) (j_dd rfl hd) rfl (fun v5 => ?_)
      refine j_istore_n (pc' := 22) (L' := [some (.ref 0), some (.int (1 : Int32)), some (.int v1), some (.int v5), none, none, none, none]) rfl rfl rfl ?_
      refine j_iload_n (pc' := 23) rfl rfl rfl ?_
      refine j_iconst (pc' := 24) (x := (-1 : Int32)) rfl rfl rfl ?_
      refine j_two (pT := 27) (pF := 29) (L1 := [some (.ref 0), some (.int (1 : Int32)), some (.int v1), some (.int v5), none, none, none, none]) (st1 := []) (fun o kT kF => ?_) (fun h9 => ?_) (fun h9 => ?_)
      · refine j_icne (t := 29) (pc' := 27) rfl rfl rfl (fun h10 => ?_) (fun h10 => ?_)
        · exact kF h10
        · exact kT h10
      · refine j_iconst (pc' := 28) (x := (-1 : Int32)) rfl rfl rfl ?_
        exact j_ret rfl rfl rfl (fun _ h => h)
      · refine j_lconst (pc' := 30) (x := (1 : Int64)) rfl rfl rfl ?_
        refine j_lstore (pc' := 32) (L' := [some (.ref 0), some (.int (1 : Int32)), some (.int v1), some (.int v5), some (.long (1 : Int64)), none, none, none]) rfl rfl rfl ?_
        refine j_aload_n (pc' := 33) rfl rfl rfl ?_
        refine j_gfr (pc' := 36) (x := 1) rfl rfl j_a0 rfl rfl ?_
        refine j_callTi (pc' := 39) (ai := 17) (vs := [.ref 1]) (rest := []) rfl rfl (fun _ _ => rfl) (c_X2_openHoles  σ) (j_dd rfl hd) rfl ?_
        refine j_leti (fun v6 => ?_)
        refine j_istore (pc' := 41) (L' := [some (.ref 0), some (.int (1 : Int32)), some (.int v1), some (.int v5), some (.long (1 : Int64)), none, some (.int v6), none]) rfl rfl rfl ?_
        refine j_iload_n (pc' := 42) rfl rfl rfl ?_
        refine j_istore (pc' := 44) (L' := [some (.ref 0), some (.int (1 : Int32)), some (.int v1), some (.int v5), some (.long (1 : Int64)), none, some (.int v6), some (.int v5)]) rfl rfl rfl ?_
        refine j_wk [true, true, false, false, true, true, true, true] (L' := [some (.ref 0), some (.int (1 : Int32)), none, none, some (.long (1 : Int64)), none, some (.int v6), some (.int v5)]) rfl ?_
        refine j_q1 (l_X11_luck_44_69 hd τ v6 σ j_F (1 : Int64) v5) (fun v7 => ?_)
        show j_J true τ M_cX11_luck d 81 [none, none, none, none, some (.long v7), none, none, none] [] σ _ _
        refine j_lload (pc' := 83) rfl rfl rfl ?_
        refine j_ldc2_w (pc' := 86) (x := (1000000000 : Int64)) rfl rfl rfl ?_
        refine j_lcmp (pc' := 87) rfl rfl ?_
        refine j_two (pT := 90) (pF := 94) (L1 := [none, none, none, none, some (.long v7), none, none, none]) (st1 := []) (fun o kT kF => ?_) (fun h7 => ?_) (fun h7 => ?_)
        · refine j_ifleL (t := 94) (pc' := 90) rfl rfl rfl (fun h8 => ?_) (fun h8 => ?_)
          · exact kF h8
          · exact kT h8
        · refine j_iconst (pc' := 91) (x := (-1 : Int32)) rfl rfl rfl ?_
          refine j_goto (t := 97) rfl rfl ?_
          exact j_ret rfl rfl rfl (fun _ h => h)
        · refine j_lload (pc' := 96) rfl rfl rfl ?_
          refine j_l2i (pc' := 97) rfl rfl ?_
          exact j_ret rfl rfl rfl (fun _ h => h)
    refine j_spl (k := (2 : Int32)) (fun h11 => ?_) (fun h11 => ?_)
    · subst h11
      refine j_aald (pc' := 18) (r := 71) rfl rfl j_a42 (by decide) rfl ?_
      refine j_callPi (pc' := 21) (ai := 97) (vs := [.ref 71]) (rest := []) rfl rfl (fun _ _ => rfl) (c_X8_leastPeriod_71  σ) (j_dd rfl hd) rfl (fun v8 => ?_)
      refine j_istore_n (pc' := 22) (L' := [some (.ref 0), some (.int (2 : Int32)), some (.int v1), some (.int v8), none, none, none, none]) rfl rfl rfl ?_
      refine j_iload_n (pc' := 23) rfl rfl rfl ?_
      refine j_iconst (pc' := 24) (x := (-1 : Int32)) rfl rfl rfl ?_
      refine j_two (pT := 27) (pF := 29) (L1 := [some (.ref 0), some (.int (2 : Int32)), some (.int v1), some (.int v8), none, none, none, none]) (st1 := []) (fun o kT kF => ?_) (fun h14 => ?_) (fun h14 => ?_)
      · refine j_icne (t := 29) (pc' := 27) rfl rfl rfl (fun h15 => ?_) (fun h15 => ?_)
        · exact kF h15
        · exact kT h15
      · refine j_iconst (pc' := 28) (x := (-1 : Int32)) rfl rfl rfl ?_
        exact j_ret rfl rfl rfl (fun _ h => h)
      · refine j_lconst (pc' := 30) (x := (1 : Int64)) rfl rfl rfl ?_
        refine j_lstore (pc' := 32) (L' := [some (.ref 0), some (.int (2 : Int32)), some (.int v1), some (.int v8), some (.long (1 : Int64)), none, none, none]) rfl rfl rfl ?_
        refine j_aload_n (pc' := 33) rfl rfl rfl ?_
        refine j_gfr (pc' := 36) (x := 1) rfl rfl j_a0 rfl rfl ?_
        refine j_callTi (pc' := 39) (ai := 17) (vs := [.ref 1]) (rest := []) rfl rfl (fun _ _ => rfl) (c_X2_openHoles  σ) (j_dd rfl hd) rfl ?_
        refine j_leti (fun v9 => ?_)
        refine j_istore (pc' := 41) (L' := [some (.ref 0), some (.int (2 : Int32)), some (.int v1), some (.int v8), some (.long (1 : Int64)), none, some (.int v9), none]) rfl rfl rfl ?_
        refine j_iload_n (pc' := 42) rfl rfl rfl ?_
        refine j_istore (pc' := 44) (L' := [some (.ref 0), some (.int (2 : Int32)), some (.int v1), some (.int v8), some (.long (1 : Int64)), none, some (.int v9), some (.int v8)]) rfl rfl rfl ?_
        refine j_wk [true, true, false, false, true, true, true, true] (L' := [some (.ref 0), some (.int (2 : Int32)), none, none, some (.long (1 : Int64)), none, some (.int v9), some (.int v8)]) rfl ?_
        refine j_q1 (l_X11_luck_44_71 hd τ v9 σ j_F (1 : Int64) v8) (fun v10 => ?_)
        show j_J true τ M_cX11_luck d 81 [none, none, none, none, some (.long v10), none, none, none] [] σ _ _
        refine j_lload (pc' := 83) rfl rfl rfl ?_
        refine j_ldc2_w (pc' := 86) (x := (1000000000 : Int64)) rfl rfl rfl ?_
        refine j_lcmp (pc' := 87) rfl rfl ?_
        refine j_two (pT := 90) (pF := 94) (L1 := [none, none, none, none, some (.long v10), none, none, none]) (st1 := []) (fun o kT kF => ?_) (fun h12 => ?_) (fun h12 => ?_)
        · refine j_ifleL (t := 94) (pc' := 90) rfl rfl rfl (fun h13 => ?_) (fun h13 => ?_)
          · exact kF h13
          · exact kT h13
        · refine j_iconst (pc' := 91) (x := (-1 : Int32)) rfl rfl rfl ?_
          refine j_goto (t := 97) rfl rfl ?_
          exact j_ret rfl rfl rfl (fun _ h => h)
        · refine j_lload (pc' := 96) rfl rfl rfl ?_
          refine j_l2i (pc' := 97) rfl rfl ?_
          exact j_ret rfl rfl rfl (fun _ h => h)
    refine j_spl (k := (3 : Int32)) (fun h16 => ?_) (fun h16 => ?_)
    · subst h16
      refine j_aald (pc' := 18) (r := 73) rfl rfl j_a42 (by decide) rfl ?_
      refine j_callPi (pc' := 21) (ai := 97) (vs := [.ref 73]) (rest := []) rfl rfl (fun _ _ => rfl) (c_X8_leastPeriod_73  σ) (j_dd rfl hd) rfl (fun v11 => ?_)
      refine j_istore_n (pc' := 22) (L' := [some (.ref 0), some (.int (3 : Int32)), some (.int v1), some (.int v11), none, none, none, none]) rfl rfl rfl ?_
      refine j_iload_n (pc' := 23) rfl rfl rfl ?_
      refine j_iconst (pc' := 24) (x := (-1 : Int32)) rfl rfl rfl ?_
      refine j_two (pT := 27) (pF := 29) (L1 := [some (.ref 0), some (.int (3 : Int32)), some (.int v1), some (.int v11), none, none, none, none]) (st1 := []) (fun o kT kF => ?_) (fun h19 => ?_) (fun h19 => ?_)
      · refine j_icne (t := 29) (pc' := 27) rfl rfl rfl (fun h20 => ?_) (fun h20 => ?_)
        · exact kF h20
        · exact kT h20
      · refine j_iconst (pc' := 28) (x := (-1 : Int32)) rfl rfl rfl ?_
        exact j_ret rfl rfl rfl (fun _ h => h)
      · refine j_lconst (pc' := 30) (x := (1 : Int64)) rfl rfl rfl ?_
        refine j_lstore (pc' := 32) (L' := [some (.ref 0), some (.int (3 : Int32)), some (.int v1), some (.int v11), some (.long (1 : Int64)), none, none, none]) rfl rfl rfl ?_
        refine j_aload_n (pc' := 33) rfl rfl rfl ?_
        refine j_gfr (pc' := 36) (x := 1) rfl rfl j_a0 rfl rfl ?_
        refine j_callTi (pc' := 39) (ai := 17) (vs := [.ref 1]) (rest := []) rfl rfl (fun _ _ => rfl) (c_X2_openHoles  σ) (j_dd rfl hd) rfl ?_
        refine j_leti (fun v12 => ?_)
        refine j_istore (pc' := 41) (L' := [some (.ref 0), some (.int (3 : Int32)), some (.int v1), some (.int v11), some (.long (1 : Int64)), none, some (.int v12), none]) rfl rfl rfl ?_
        refine j_iload_n (pc' := 42) rfl rfl rfl ?_
        refine j_istore (pc' := 44) (L' := [some (.ref 0), some (.int (3 : Int32)), some (.int v1), some (.int v11), some (.long (1 : Int64)), none, some (.int v12), some (.int v11)]) rfl rfl rfl ?_
        refine j_wk [true, true, false, false, true, true, true, true] (L' := [some (.ref 0), some (.int (3 : Int32)), none, none, some (.long (1 : Int64)), none, some (.int v12), some (.int v11)]) rfl ?_
        refine j_q1 (l_X11_luck_44_73 hd τ v12 σ j_F (1 : Int64) v11) (fun v13 => ?_)
        show j_J true τ M_cX11_luck d 81 [none, none, none, none, some (.long v13), none, none, none] [] σ _ _
        refine j_lload (pc' := 83) rfl rfl rfl ?_
        refine j_ldc2_w (pc' := 86) (x := (1000000000 : Int64)) rfl rfl rfl ?_
        refine j_lcmp (pc' := 87) rfl rfl ?_
        refine j_two (pT := 90) (pF := 94) (L1 := [none, none, none, none, some (.long v13), none, none, none]) (st1 := []) (fun o kT kF => ?_) (fun h17 => ?_) (fun h17 => ?_)
        · refine j_ifleL (t := 94) (pc' := 90) rfl rfl rfl (fun h18 => ?_) (fun h18 => ?_)
          · exact kF h18
          · exact kT h18
        · refine j_iconst (pc' := 91) (x := (-1 : Int32)) rfl rfl rfl ?_
          refine j_goto (t := 97) rfl rfl ?_
          exact j_ret rfl rfl rfl (fun _ h => h)
        · refine j_lload (pc' := 96) rfl rfl rfl ?_
          refine j_l2i (pc' := 97) rfl rfl ?_
          exact j_ret rfl rfl rfl (fun _ h => h)
    exact j_none

