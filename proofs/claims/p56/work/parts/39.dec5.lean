noncomputable def p_X12_trade_2 (l1 : Int32) (l2 : Int32) : Nat → Int32 → j_G → Option j_G
  | 0, _, _ => none
  | n + 1, l3, σ =>
    if l3 < (3 : Int32) then (j_b1 (f_X12_ofComing l1 l3 σ) fun v1 =>
    j_b1 (f_X12_ofComing l2 l3 σ) fun v2 =>
    j_ix (((24 : Int32) + ((3 : Int32) * l1)) + l3) 116 (
    j_lt (j_si σ 76 ((((24 : Int32) + ((3 : Int32) * l1)) + l3)).toNatClampNeg v2) fun σ3 =>
    j_ix (((24 : Int32) + ((3 : Int32) * l2)) + l3) 116 (
    j_lt (j_si σ3 76 ((((24 : Int32) + ((3 : Int32) * l2)) + l3)).toNatClampNeg v1) fun σ4 =>
    p_X12_trade_2 l1 l2 n (l3 + (1 : Int32)) σ4))) else (some σ)

noncomputable def f_X12_trade (l1 : Int32) (l2 : Int32) (σ : j_G) : Option j_G :=
  j_b1 (p_X12_trade_2 l1 l2 j_F (0 : Int32) σ) fun σ1 =>
  some σ1
theorem l_X12_trade_2 {d : Nat} (hd : 1 ≤ d) (τ : j_G) (l1 : Int32) (l2 : Int32) : ∀ (n : Nat) (l3 : Int32) (σ : j_G), j_J false τ M_cX12_trade d 2 [some (.ref 75), some (.int l1), some (.int l2), some (.int l3), none] [] σ (p_X12_trade_2 l1 l2 n l3 σ) (fun r Q => j_Tr false τ M_cX12_trade d 55 [none, none, none, none, none] [] r Q) := by
  intro n
  induction n with
  | zero => intro l3 σ; exact j_none
  | succ n ih =>
    intro l3 σ
    unfold p_X12_trade_2
    refine j_iload_n (pc' := 3) rfl rfl rfl ?_
    refine j_iconst (pc' := 4) (x := (3 : Int32)) rfl rfl rfl ?_
    refine j_two (pT := 7) (pF := 55) (L1 := [some (.ref 75), some (.int l1), some (.int l2), some (.int l3), none]) (st1 := []) (fun o kT kF => ?_) (fun h1 => ?_) (fun h1 => ?_)
    · refine j_icge (t := 55) (pc' := 7) rfl rfl rfl (fun h2 => ?_) (fun h2 => ?_)
      · exact kF h2
      · exact kT h2
    · refine j_aload_n (pc' := 8) rfl rfl rfl ?_
      refine j_iload_n (pc' := 9) rfl rfl rfl ?_
      refine j_iload_n (pc' := 10) rfl rfl rfl ?_
      refine j_callPi (pc' := 13) (ai := 206) (vs := [.ref 75, .int l1, .int l3]) (rest := []) rfl rfl (fun _ _ => rfl) (c_X12_ofComing l1 l3 σ) (j_dd rfl hd) rfl (fun v1 => ?_)
      refine j_istore (pc' := 15) (L' := [some (.ref 75), some (.int l1), some (.int l2), some (.int l3), some (.int v1)]) rfl rfl rfl ?_
      refine j_aload_n (pc' := 16) rfl rfl rfl ?_
      refine j_gfr (pc' := 19) (x := 76) rfl rfl j_a75 rfl rfl ?_
      refine j_bipush (pc' := 21) (x := (24 : Int32)) rfl rfl rfl ?_
      refine j_iconst (pc' := 22) (x := (3 : Int32)) rfl rfl rfl ?_
      refine j_iload_n (pc' := 23) rfl rfl rfl ?_
      refine j_imul (pc' := 24) rfl rfl ?_
      refine j_iadd (pc' := 25) rfl rfl ?_
      refine j_iload_n (pc' := 26) rfl rfl rfl ?_
      refine j_iadd (pc' := 27) rfl rfl ?_
      refine j_aload_n (pc' := 28) rfl rfl rfl ?_
      refine j_iload_n (pc' := 29) rfl rfl rfl ?_
      refine j_iload_n (pc' := 30) rfl rfl rfl ?_
      refine j_callPi (pc' := 33) (ai := 206) (vs := [.ref 75, .int l2, .int l3]) (rest := [.int (((24 : Int32) + ((3 : Int32) * l1)) + l3), .ref 76]) rfl rfl (fun _ _ => rfl) (c_X12_ofComing l2 l3 σ) (j_dd rfl hd) rfl (fun v2 => ?_)
      refine j_iast (pc' := 34) rfl rfl j_a76 (fun σ3 => ?_)
      refine j_aload_n (pc' := 35) rfl rfl rfl ?_
      refine j_gfr (pc' := 38) (x := 76) rfl rfl j_a75 rfl rfl ?_
      refine j_bipush (pc' := 40) (x := (24 : Int32)) rfl rfl rfl ?_
      refine j_iconst (pc' := 41) (x := (3 : Int32)) rfl rfl rfl ?_
      refine j_iload_n (pc' := 42) rfl rfl rfl ?_
      refine j_imul (pc' := 43) rfl rfl ?_
      refine j_iadd (pc' := 44) rfl rfl ?_
      refine j_iload_n (pc' := 45) rfl rfl rfl ?_
      refine j_iadd (pc' := 46) rfl rfl ?_
      refine j_iload (pc' := 48) rfl rfl rfl ?_
      refine j_iast (pc' := 49) rfl rfl j_a76 (fun σ4 => ?_)
      refine j_iincx (pc' := 52) (y := (1 : Int32)) (L' := [some (.ref 75), some (.int l1), some (.int l2), some (.int (l3 + (1 : Int32))), some (.int v1)]) rfl rfl rfl rfl rfl ?_
      refine j_goto (t := 2) rfl rfl ?_
      refine j_wk [true, true, true, true, false] (L' := [some (.ref 75), some (.int l1), some (.int l2), some (.int (l3 + (1 : Int32))), none]) rfl ?_
      exact ih (l3 + (1 : Int32)) σ4
    · refine j_wk [false, false, false, false, true] (L' := [none, none, none, none, none]) rfl ?_
      exact j_end (fun _ h => h)

theorem c_X12_trade (l1 : Int32) (l2 : Int32) (σ : j_G) : j_K false 1 334 [.ref 75, .int l1, .int l2] σ (f_X12_trade l1 l2 σ) j_Rv := by
  refine j_mkK (M := M_cX12_trade) (L := [some (.ref 75), some (.int l1), some (.int l2), none, none]) (m := 2) t_334 rfl (j_rcvO j_a75 rfl) rfl (fun d hd τ => ?_)
  unfold f_X12_trade
  refine j_iconst (pc' := 1) (x := (0 : Int32)) rfl rfl rfl ?_
  refine j_istore_n (pc' := 2) (L' := [some (.ref 75), some (.int l1), some (.int l2), some (.int (0 : Int32)), none]) rfl rfl rfl ?_
  refine j_q1 (l_X12_trade_2 hd τ l1 l2 j_F (0 : Int32) σ) (fun σ1 => ?_)
  show j_J false τ M_cX12_trade d 55 [none, none, none, none, none] [] σ1 _ _
  exact j_ret rfl rfl rfl (fun _ h => h)

noncomputable def p_X12_better_47 (l1 : Int32) (l4 : Int32) : Nat → Int32 → Int32 → Int32 → j_G → Option (Int32 × Int32 × j_G)
  | 0, _, _, _, _ => none
  | n + 1, l2, l3, l5, σ =>
    j_ix (5 : Int32) 116 (
    if l5 < (σ.1 76 ((5 : Int32)).toNatClampNeg) then (j_b1 (f_X12_trade l4 l5 σ) fun σ1 =>
    j_b1 (f_X12_pathOf σ1) fun v2 =>
    j_b1 (f_X12_trade l4 l5 σ1) fun σ3 =>
    j_lt (if l1 = 0 then (if ¬ l3 < v2 then ((l2, l3)) else (j_lt (((100 : Int32) * l4) + l5) fun v6 =>
    (v6, v2))) else (if ¬ v2 < l3 then ((l2, l3)) else (j_lt (((100 : Int32) * l4) + l5) fun v7 =>
    (v7, v2)))) fun r8 =>
    p_X12_better_47 l1 l4 n (r8.1) (r8.2) (l5 + (1 : Int32)) σ3) else (some (l2, l3, σ)))

noncomputable def p_X12_better_30 (l1 : Int32) : Nat → Int32 → Int32 → Int32 → j_G → Option (Int32 × j_G)
  | 0, _, _, _, _ => none
  | n + 1, l2, l3, l4, σ =>
    j_ix (5 : Int32) 116 (
    if l4 < (σ.1 76 ((5 : Int32)).toNatClampNeg) then (j_lt (l4 + (1 : Int32)) fun v1 =>
    j_b3 (p_X12_better_47 l1 l4 j_F l2 l3 v1 σ) fun v2 v3 σ4 =>
    p_X12_better_30 l1 n v2 v3 (l4 + (1 : Int32)) σ4) else (some (l2, σ)))

noncomputable def f_X12_better (l1 : Int32) (σ : j_G) : Option (Int32 × j_G) :=
  j_b1 (f_X12_isBoard σ) fun v1 =>
  if (v1 = 0) ∨ ((f_X12_in (l1).toInt64 (0 : Int64) (1 : Int64)) = 0) then (some ((-2 : Int32), σ)) else (j_b1 (f_X12_pathOf σ) fun v2 =>
  j_b2 (p_X12_better_30 l1 j_F (-1 : Int32) v2 (0 : Int32) σ) fun v3 σ4 =>
  some (v3, σ4))
theorem l_X12_better_47 {d : Nat} (hd : 3 ≤ d) (τ : j_G) (l1 : Int32) (l4 : Int32) : ∀ (n : Nat) (l2 : Int32) (l3 : Int32) (l5 : Int32) (σ : j_G), j_J false τ M_cX12_better d 47 [some (.ref 75), some (.int l1), some (.int l2), some (.int l3), some (.int l4), some (.int l5), none] [] σ (p_X12_better_47 l1 l4 n l2 l3 l5 σ) (fun r Q => j_Tr false τ M_cX12_better d 120 [some (.ref 75), some (.int l1), some (.int r.1), some (.int r.2.1), some (.int l4), none, none] [] r.2.2 Q) := by
  intro n
  induction n with
  | zero => intro l2 l3 l5 σ; exact j_none
  | succ n ih =>
    intro l2 l3 l5 σ
    unfold p_X12_better_47
    refine j_iload (pc' := 49) rfl rfl rfl ?_
    refine j_aload_n (pc' := 50) rfl rfl rfl ?_
    refine j_gfr (pc' := 53) (x := 76) rfl rfl j_a75 rfl rfl ?_
    refine j_iconst (pc' := 54) (x := (5 : Int32)) rfl rfl rfl ?_
    refine j_iald (pc' := 55) rfl rfl j_a76 ?_
    refine j_two (pT := 58) (pF := 120) (L1 := [some (.ref 75), some (.int l1), some (.int l2), some (.int l3), some (.int l4), some (.int l5), none]) (st1 := []) (fun o kT kF => ?_) (fun h7 => ?_) (fun h7 => ?_)
    · refine j_icge (t := 120) (pc' := 58) rfl rfl rfl (fun h8 => ?_) (fun h8 => ?_)
      · exact kF h8
      · exact kT h8
    · refine j_aload_n (pc' := 59) rfl rfl rfl ?_
      refine j_iload (pc' := 61) rfl rfl rfl ?_
      refine j_iload (pc' := 63) rfl rfl rfl ?_
      refine j_callRv (pc' := 66) (ai := 334) (vs := [.ref 75, .int l4, .int l5]) (rest := []) rfl rfl (fun _ _ => rfl) (c_X12_trade l4 l5 σ) (j_dd rfl hd) rfl (fun σ1 => ?_)
      refine j_aload_n (pc' := 67) rfl rfl rfl ?_
      refine j_callPi (pc' := 70) (ai := 332) (vs := [.ref 75]) (rest := []) rfl rfl (fun _ _ => rfl) (c_X12_pathOf  σ1) (j_dd rfl hd) rfl (fun v2 => ?_)
      refine j_istore (pc' := 72) (L' := [some (.ref 75), some (.int l1), some (.int l2), some (.int l3), some (.int l4), some (.int l5), some (.int v2)]) rfl rfl rfl ?_
      refine j_aload_n (pc' := 73) rfl rfl rfl ?_
      refine j_iload (pc' := 75) rfl rfl rfl ?_
      refine j_iload (pc' := 77) rfl rfl rfl ?_
      refine j_callRv (pc' := 80) (ai := 334) (vs := [.ref 75, .int l4, .int l5]) (rest := []) rfl rfl (fun _ _ => rfl) (c_X12_trade l4 l5 σ1) (j_dd rfl hd) rfl (fun σ3 => ?_)
      refine j_iload_n (pc' := 81) rfl rfl rfl ?_
      refine j_ql (Φl := (fun r Q => j_Tr false τ M_cX12_better d 114 [some (.ref 75), some (.int l1), some (.int r.1), some (.int r.2), some (.int l4), some (.int l5), none] [] σ3 Q)) ?_ (fun r8 => ?_)
      · refine j_twoT (pT := 84) (pF := 93) (L1 := [some (.ref 75), some (.int l1), some (.int l2), some (.int l3), some (.int l4), some (.int l5), some (.int v2)]) (st1 := []) (fun o kT kF => ?_) (fun h5 => ?_) (fun h5 => ?_)
        · refine j_ifne (t := 93) (pc' := 84) rfl rfl rfl (fun h6 => ?_) (fun h6 => ?_)
          · exact kF h6
          · exact kT h6
        · refine j_iload (pc' := 86) rfl rfl rfl ?_
          refine j_iload_n (pc' := 87) rfl rfl rfl ?_
          refine j_twoT (pT := 90) (pF := 102) (L1 := [some (.ref 75), some (.int l1), some (.int l2), some (.int l3), some (.int l4), some (.int l5), some (.int v2)]) (st1 := []) (fun o kT kF => ?_) (fun h1 => ?_) (fun h1 => ?_)
          · refine j_icgt (t := 102) (pc' := 90) rfl rfl rfl (fun h2 => ?_) (fun h2 => ?_)
            · exact kF (fun z => z h2)
            · exact kT h2
          · refine j_goto (t := 114) rfl rfl ?_
            refine j_wk [true, true, true, true, true, true, false] (L' := [some (.ref 75), some (.int l1), some (.int l2), some (.int l3), some (.int l4), some (.int l5), none]) rfl ?_
            exact j_end (fun _ h => h)
          · refine j_iload (pc' := 104) rfl rfl rfl ?_
            refine j_istore_n (pc' := 105) (L' := [some (.ref 75), some (.int l1), some (.int l2), some (.int v2), some (.int l4), some (.int l5), some (.int v2)]) rfl rfl rfl ?_
            refine j_bipush (pc' := 107) (x := (100 : Int32)) rfl rfl rfl ?_
            refine j_iload (pc' := 109) rfl rfl rfl ?_
            refine j_imul (pc' := 110) rfl rfl ?_
            refine j_iload (pc' := 112) rfl rfl rfl ?_
            refine j_iadd (pc' := 113) rfl rfl ?_
            refine j_letiT (fun v6 => ?_)
            refine j_istore_n (pc' := 114) (L' := [some (.ref 75), some (.int l1), some (.int v6), some (.int v2), some (.int l4), some (.int l5), some (.int v2)]) rfl rfl rfl ?_
            refine j_wk [true, true, true, true, true, true, false] (L' := [some (.ref 75), some (.int l1), some (.int v6), some (.int v2), some (.int l4), some (.int l5), none]) rfl ?_
            exact j_end (fun _ h => h)
        · refine j_iload (pc' := 95) rfl rfl rfl ?_
          refine j_iload_n (pc' := 96) rfl rfl rfl ?_
          refine j_twoT (pT := 99) (pF := 102) (L1 := [some (.ref 75), some (.int l1), some (.int l2), some (.int l3), some (.int l4), some (.int l5), some (.int v2)]) (st1 := []) (fun o kT kF => ?_) (fun h3 => ?_) (fun h3 => ?_)
          · refine j_iclt (t := 102) (pc' := 99) rfl rfl rfl (fun h4 => ?_) (fun h4 => ?_)
            · exact kF (fun z => z h4)
            · exact kT h4
          · refine j_goto (t := 114) rfl rfl ?_
            refine j_wk [true, true, true, true, true, true, false] (L' := [some (.ref 75), some (.int l1), some (.int l2), some (.int l3), some (.int l4), some (.int l5), none]) rfl ?_
            exact j_end (fun _ h => h)
          · refine j_iload (pc' := 104) rfl rfl rfl ?_
            refine j_istore_n (pc' := 105) (L' := [some (.ref 75), some (.int l1), some (.int l2), some (.int v2), some (.int l4), some (.int l5), some (.int v2)]) rfl rfl rfl ?_
            refine j_bipush (pc' := 107) (x := (100 : Int32)) rfl rfl rfl ?_
            refine j_iload (pc' := 109) rfl rfl rfl ?_
            refine j_imul (pc' := 110) rfl rfl ?_
            refine j_iload (pc' := 112) rfl rfl rfl ?_
            refine j_iadd (pc' := 113) rfl rfl ?_
            refine j_letiT (fun v7 => ?_)
            refine j_istore_n (pc' := 114) (L' := [some (.ref 75), some (.int l1), some (.int v7), some (.int v2), some (.int l4), some (.int l5), some (.int v2)]) rfl rfl rfl ?_
            refine j_wk [true, true, true, true, true, true, false] (L' := [some (.ref 75), some (.int l1), some (.int v7), some (.int v2), some (.int l4), some (.int l5), none]) rfl ?_
            exact j_end (fun _ h => h)
      show j_J false τ M_cX12_better d 114 [some (.ref 75), some (.int l1), some (.int (r8.1)), some (.int (r8.2)), some (.int l4), some (.int l5), none] [] σ3 _ _
      refine j_iincx (pc' := 117) (y := (1 : Int32)) (L' := [some (.ref 75), some (.int l1), some (.int (r8.1)), some (.int (r8.2)), some (.int l4), some (.int (l5 + (1 : Int32))), none]) rfl rfl rfl rfl rfl ?_
      refine j_goto (t := 47) rfl rfl ?_
      exact ih (r8.1) (r8.2) (l5 + (1 : Int32)) σ3
    · refine j_wk [true, true, true, true, true, false, true] (L' := [some (.ref 75), some (.int l1), some (.int l2), some (.int l3), some (.int l4), none, none]) rfl ?_
      exact j_end (fun _ h => h)

theorem l_X12_better_30 {d : Nat} (hd : 3 ≤ d) (τ : j_G) (l1 : Int32) : ∀ (n : Nat) (l2 : Int32) (l3 : Int32) (l4 : Int32) (σ : j_G), j_J false τ M_cX12_better d 30 [some (.ref 75), some (.int l1), some (.int l2), some (.int l3), some (.int l4), none, none] [] σ (p_X12_better_30 l1 n l2 l3 l4 σ) (fun r Q => j_Tr false τ M_cX12_better d 126 [none, none, some (.int r.1), none, none, none, none] [] r.2 Q) := by
  intro n
  induction n with
  | zero => intro l2 l3 l4 σ; exact j_none
  | succ n ih =>
    intro l2 l3 l4 σ
    unfold p_X12_better_30
    refine j_iload (pc' := 32) rfl rfl rfl ?_
    refine j_aload_n (pc' := 33) rfl rfl rfl ?_
    refine j_gfr (pc' := 36) (x := 76) rfl rfl j_a75 rfl rfl ?_
    refine j_iconst (pc' := 37) (x := (5 : Int32)) rfl rfl rfl ?_
    refine j_iald (pc' := 38) rfl rfl j_a76 ?_
    refine j_two (pT := 41) (pF := 126) (L1 := [some (.ref 75), some (.int l1), some (.int l2), some (.int l3), some (.int l4), none, none]) (st1 := []) (fun o kT kF => ?_) (fun h1 => ?_) (fun h1 => ?_)
    · refine j_icge (t := 126) (pc' := 41) rfl rfl rfl (fun h2 => ?_) (fun h2 => ?_)
      · exact kF h2
      · exact kT h2
    · refine j_iload (pc' := 43) rfl rfl rfl ?_
      refine j_iconst (pc' := 44) (x := (1 : Int32)) rfl rfl rfl ?_
      refine j_iadd (pc' := 45) rfl rfl ?_
      refine j_leti (fun v1 => ?_)
      refine j_istore (pc' := 47) (L' := [some (.ref 75), some (.int l1), some (.int l2), some (.int l3), some (.int l4), some (.int v1), none]) rfl rfl rfl ?_
      refine j_q3 (l_X12_better_47 hd τ l1 l4 j_F l2 l3 v1 σ) (fun v2 v3 σ4 => ?_)
      show j_J false τ M_cX12_better d 120 [some (.ref 75), some (.int l1), some (.int v2), some (.int v3), some (.int l4), none, none] [] σ4 _ _
      refine j_iincx (pc' := 123) (y := (1 : Int32)) (L' := [some (.ref 75), some (.int l1), some (.int v2), some (.int v3), some (.int (l4 + (1 : Int32))), none, none]) rfl rfl rfl rfl rfl ?_
      refine j_goto (t := 30) rfl rfl ?_
      exact ih v2 v3 (l4 + (1 : Int32)) σ4
    · refine j_wk [false, false, true, false, false, true, true] (L' := [none, none, some (.int l2), none, none, none, none]) rfl ?_
      exact j_end (fun _ h => h)

theorem c_X12_better (l1 : Int32) (σ : j_G) : j_K false 3 335 [.ref 75, .int l1] σ (f_X12_better l1 σ) j_Ri := by
  refine j_mkK (M := M_cX12_better) (L := [some (.ref 75), some (.int l1), none, none, none, none, none]) (m := 5) t_335 rfl (j_rcvO j_a75 rfl) rfl (fun d hd τ => ?_)
  unfold f_X12_better
  refine j_aload_n (pc' := 1) rfl rfl rfl ?_
  refine j_callPi (pc' := 4) (ai := 199) (vs := [.ref 75]) (rest := []) rfl rfl (fun _ _ => rfl) (c_X12_isBoard  σ) (j_dd rfl hd) rfl (fun v1 => ?_)
  refine j_two (pT := 17) (pF := 20) (L1 := [some (.ref 75), some (.int l1), none, none, none, none, none]) (st1 := []) (fun o kT kF => ?_) (fun h1 => ?_) (fun h1 => ?_)
  · refine j_ifeq (t := 17) (pc' := 7) rfl rfl rfl (fun h2 => ?_) (fun h2 => ?_)
    · exact kT (Or.inl h2)
    · refine j_iload_n (pc' := 8) rfl rfl rfl ?_
      refine j_i2l (pc' := 9) rfl rfl ?_
      refine j_lconst (pc' := 10) (x := (0 : Int64)) rfl rfl rfl ?_
      refine j_lconst (pc' := 11) (x := (1 : Int64)) rfl rfl rfl ?_
      refine j_callTi (pc' := 14) (ai := 196) (vs := [.long (l1).toInt64, .long (0 : Int64), .long (1 : Int64)]) (rest := []) rfl rfl (fun _ _ => rfl) (c_X12_in (l1).toInt64 (0 : Int64) (1 : Int64) σ) (j_dd rfl hd) rfl ?_
      refine j_ifne (t := 20) (pc' := 17) rfl rfl rfl (fun h3 => ?_) (fun h3 => ?_)
      · exact kF (fun z => z.elim h2 (h3))
      · exact kT (Or.inr (h3))
  · refine j_bipush (pc' := 19) (x := (-2 : Int32)) rfl rfl rfl ?_
    exact j_ret rfl rfl rfl (fun _ h => h)
  · refine j_iconst (pc' := 21) (x := (-1 : Int32)) rfl rfl rfl ?_
    refine j_istore_n (pc' := 22) (L' := [some (.ref 75), some (.int l1), some (.int (-1 : Int32)), none, none, none, none]) rfl rfl rfl ?_
    refine j_aload_n (pc' := 23) rfl rfl rfl ?_
    refine j_callPi (pc' := 26) (ai := 332) (vs := [.ref 75]) (rest := []) rfl rfl (fun _ _ => rfl) (c_X12_pathOf  σ) (j_dd rfl hd) rfl (fun v2 => ?_)
    refine j_istore_n (pc' := 27) (L' := [some (.ref 75), some (.int l1), some (.int (-1 : Int32)), some (.int v2), none, none, none]) rfl rfl rfl ?_
    refine j_iconst (pc' := 28) (x := (0 : Int32)) rfl rfl rfl ?_
    refine j_istore (pc' := 30) (L' := [some (.ref 75), some (.int l1), some (.int (-1 : Int32)), some (.int v2), some (.int (0 : Int32)), none, none]) rfl rfl rfl ?_
    refine j_q2 (l_X12_better_30 hd τ l1 j_F (-1 : Int32) v2 (0 : Int32) σ) (fun v3 σ4 => ?_)
    show j_J false τ M_cX12_better d 126 [none, none, some (.int v3), none, none, none, none] [] σ4 _ _
    refine j_iload_n (pc' := 127) rfl rfl rfl ?_
    exact j_ret rfl rfl rfl (fun _ h => h)

noncomputable def f_X11_swap (l1 : Int32) (l2 : Int32) (σ : j_G) : Option (Int32 × j_G) :=
  if ((f_X3_has l1 σ) = 0) ∨ ((f_X3_has l2 σ) = 0) then (some ((-2 : Int32), σ)) else (j_b1 (f_X3_exchange l1 l2 σ) fun σ1 =>
  some ((0 : Int32), σ1))
theorem c_X11_swap (l1 : Int32) (l2 : Int32) (σ : j_G) : j_K true 2 169 [.ref 0, .int l1, .int l2] σ (f_X11_swap l1 l2 σ) j_Ri := by
  refine j_mkK (M := M_cX11_swap) (L := [some (.ref 0), some (.int l1), some (.int l2)]) (m := 0) t_169 rfl (j_rcvO j_a0 rfl) rfl (fun d hd τ => ?_)
  unfold f_X11_swap
  refine j_aload_n (pc' := 1) rfl rfl rfl ?_
  refine j_gfr (pc' := 4) (x := 1) rfl rfl j_a0 rfl rfl ?_
  refine j_gfr (pc' := 7) (x := 5) rfl rfl j_a1 rfl rfl ?_
  refine j_iload_n (pc' := 8) rfl rfl rfl ?_
  refine j_callTi (pc' := 11) (ai := 31) (vs := [.ref 5, .int l1]) (rest := []) rfl rfl (fun _ _ => rfl) (c_X3_has l1 σ) (j_dd rfl hd) rfl ?_
  refine j_two (pT := 28) (pF := 31) (L1 := [some (.ref 0), some (.int l1), some (.int l2)]) (st1 := []) (fun o kT kF => ?_) (fun h1 => ?_) (fun h1 => ?_)
  · refine j_ifeq (t := 28) (pc' := 14) rfl rfl rfl (fun h2 => ?_) (fun h2 => ?_)
    · exact kT (Or.inl h2)
    · refine j_aload_n (pc' := 15) rfl rfl rfl ?_
      refine j_gfr (pc' := 18) (x := 1) rfl rfl j_a0 rfl rfl ?_
      refine j_gfr (pc' := 21) (x := 5) rfl rfl j_a1 rfl rfl ?_
      refine j_iload_n (pc' := 22) rfl rfl rfl ?_
      refine j_callTi (pc' := 25) (ai := 31) (vs := [.ref 5, .int l2]) (rest := []) rfl rfl (fun _ _ => rfl) (c_X3_has l2 σ) (j_dd rfl hd) rfl ?_
      refine j_ifne (t := 31) (pc' := 28) rfl rfl rfl (fun h3 => ?_) (fun h3 => ?_)
      · exact kF (fun z => z.elim h2 (h3))
      · exact kT (Or.inr (h3))
  · refine j_bipush (pc' := 30) (x := (-2 : Int32)) rfl rfl rfl ?_
    exact j_ret rfl rfl rfl (fun _ h => h)
  · refine j_aload_n (pc' := 32) rfl rfl rfl ?_
    refine j_gfr (pc' := 35) (x := 1) rfl rfl j_a0 rfl rfl ?_
    refine j_gfr (pc' := 38) (x := 5) rfl rfl j_a1 rfl rfl ?_
    refine j_iload_n (pc' := 39) rfl rfl rfl ?_
    refine j_iload_n (pc' := 40) rfl rfl rfl ?_
    refine j_callRv (pc' := 43) (ai := 33) (vs := [.ref 5, .int l1, .int l2]) (rest := []) rfl rfl (fun _ _ => rfl) (c_X3_exchange l1 l2 σ) (j_dd rfl hd) rfl (fun σ1 => ?_)
    refine j_iconst (pc' := 44) (x := (0 : Int32)) rfl rfl rfl ?_
    exact j_ret rfl rfl rfl (fun _ h => h)

noncomputable def f_X12_swap (l1 : Int32) (l2 : Int32) (σ : j_G) : Option (Int32 × j_G) :=
  j_b1 (f_X12_isComing l1 σ) fun v1 =>
  if ¬ v1 = 0 then (j_b1 (f_X12_isComing l2 σ) fun v2 =>
  if v2 = 0 then (some ((-2 : Int32), σ)) else (j_b1 (f_X12_trade l1 l2 σ) fun σ3 =>
  some ((0 : Int32), σ3))) else (some ((-2 : Int32), σ))
theorem c_X12_swap (l1 : Int32) (l2 : Int32) (σ : j_G) : j_K false 2 336 [.ref 75, .int l1, .int l2] σ (f_X12_swap l1 l2 σ) j_Ri := by
  refine j_mkK (M := M_cX12_swap) (L := [some (.ref 75), some (.int l1), some (.int l2)]) (m := 0) t_336 rfl (j_rcvO j_a75 rfl) rfl (fun d hd τ => ?_)
  unfold f_X12_swap
  refine j_aload_n (pc' := 1) rfl rfl rfl ?_
  refine j_iload_n (pc' := 2) rfl rfl rfl ?_
  refine j_callPi (pc' := 5) (ai := 204) (vs := [.ref 75, .int l1]) (rest := []) rfl rfl (fun _ _ => rfl) (c_X12_isComing l1 σ) (j_dd rfl hd) rfl (fun v1 => ?_)
  refine j_two (pT := 8) (pF := 16) (L1 := [some (.ref 75), some (.int l1), some (.int l2)]) (st1 := []) (fun o kT kF => ?_) (fun h3 => ?_) (fun h3 => ?_)
  · refine j_ifeq (t := 16) (pc' := 8) rfl rfl rfl (fun h4 => ?_) (fun h4 => ?_)
    · exact kF (fun z => z h4)
    · exact kT h4
  · refine j_aload_n (pc' := 9) rfl rfl rfl ?_
    refine j_iload_n (pc' := 10) rfl rfl rfl ?_
    refine j_callPi (pc' := 13) (ai := 204) (vs := [.ref 75, .int l2]) (rest := []) rfl rfl (fun _ _ => rfl) (c_X12_isComing l2 σ) (j_dd rfl hd) rfl (fun v2 => ?_)
    refine j_two (pT := 16) (pF := 19) (L1 := [some (.ref 75), some (.int l1), some (.int l2)]) (st1 := []) (fun o kT kF => ?_) (fun h1 => ?_) (fun h1 => ?_)
    · refine j_ifne (t := 19) (pc' := 16) rfl rfl rfl (fun h2 => ?_) (fun h2 => ?_)
      · exact kF h2
      · exact kT h2
    · refine j_bipush (pc' := 18) (x := (-2 : Int32)) rfl rfl rfl ?_
      exact j_ret rfl rfl rfl (fun _ h => h)
    · refine j_aload_n (pc' := 20) rfl rfl rfl ?_
      refine j_iload_n (pc' := 21) rfl rfl rfl ?_
      refine j_iload_n (pc' := 22) rfl rfl rfl ?_
      refine j_callRv (pc' := 25) (ai := 334) (vs := [.ref 75, .int l1, .int l2]) (rest := []) rfl rfl (fun _ _ => rfl) (c_X12_trade l1 l2 σ) (j_dd rfl hd) rfl (fun σ3 => ?_)
      refine j_iconst (pc' := 26) (x := (0 : Int32)) rfl rfl rfl ?_
      exact j_ret rfl rfl rfl (fun _ h => h)
  · refine j_bipush (pc' := 18) (x := (-2 : Int32)) rfl rfl rfl ?_
    exact j_ret rfl rfl rfl (fun _ h => h)

noncomputable def f_X11_paint (l1 : Int32) (l2 : Int32) (σ : j_G) : Option (Int32 × j_G) :=
  if (¬ (f_X3_has l1 σ) = 0) ∧ ((¬ l2 < 0) ∧ (¬ (1 : Int32) < l2)) then (j_ix l1 24 (
  if ¬ (σ.1 7 (l1).toNatClampNeg) = (-1 : Int32) then (some ((-2 : Int32), σ)) else (j_ix l1 24 (
  j_lt (σ.1 8 (l1).toNatClampNeg) fun v1 =>
  j_ix l1 24 (
  j_lt (j_si σ 8 (l1).toNatClampNeg l2) fun σ2 =>
  some (v1, σ2)))))) else (some ((-2 : Int32), σ))
theorem c_X11_paint (l1 : Int32) (l2 : Int32) (σ : j_G) : j_K true 1 170 [.ref 0, .int l1, .int l2] σ (f_X11_paint l1 l2 σ) j_Ri := by
  refine j_mkK (M := M_cX11_paint) (L := [some (.ref 0), some (.int l1), some (.int l2), none]) (m := 1) t_170 rfl (j_rcvO j_a0 rfl) rfl (fun d hd τ => ?_)
  unfold f_X11_paint
  refine j_aload_n (pc' := 1) rfl rfl rfl ?_
  refine j_gfr (pc' := 4) (x := 1) rfl rfl j_a0 rfl rfl ?_
  refine j_gfr (pc' := 7) (x := 5) rfl rfl j_a1 rfl rfl ?_
  refine j_iload_n (pc' := 8) rfl rfl rfl ?_
  refine j_callTi (pc' := 11) (ai := 31) (vs := [.ref 5, .int l1]) (rest := []) rfl rfl (fun _ _ => rfl) (c_X3_has l1 σ) (j_dd rfl hd) rfl ?_
  refine j_two (pT := 23) (pF := 39) (L1 := [some (.ref 0), some (.int l1), some (.int l2), none]) (st1 := []) (fun o kT kF => ?_) (fun h3 => ?_) (fun h3 => ?_)
  · refine j_ifeq (t := 39) (pc' := 14) rfl rfl rfl (fun h4 => ?_) (fun h4 => ?_)
    · exact kF (fun z => z.1 h4)
    · refine j_iload_n (pc' := 15) rfl rfl rfl ?_
      refine j_iflt (t := 39) (pc' := 18) rfl rfl rfl (fun h5 => ?_) (fun h5 => ?_)
      · exact kF (fun z => (fun z => z.1 h5) z.2)
      · refine j_iload_n (pc' := 19) rfl rfl rfl ?_
        refine j_iconst (pc' := 20) (x := (1 : Int32)) rfl rfl rfl ?_
        refine j_icgt (t := 39) (pc' := 23) rfl rfl rfl (fun h6 => ?_) (fun h6 => ?_)
        · exact kF (fun z => (fun z => (fun z => z h6) z.2) z.2)
        · exact kT (⟨h4, ⟨h5, h6⟩⟩)
  · refine j_aload_n (pc' := 24) rfl rfl rfl ?_
    refine j_gfr (pc' := 27) (x := 1) rfl rfl j_a0 rfl rfl ?_
    refine j_gfr (pc' := 30) (x := 5) rfl rfl j_a1 rfl rfl ?_
    refine j_gfr (pc' := 33) (x := 7) rfl rfl j_a5 rfl rfl ?_
    refine j_iload_n (pc' := 34) rfl rfl rfl ?_
    refine j_iald (pc' := 35) rfl rfl j_a7 ?_
    refine j_iconst (pc' := 36) (x := (-1 : Int32)) rfl rfl rfl ?_
    refine j_two (pT := 39) (pF := 42) (L1 := [some (.ref 0), some (.int l1), some (.int l2), none]) (st1 := []) (fun o kT kF => ?_) (fun h1 => ?_) (fun h1 => ?_)
    · refine j_iceq (t := 42) (pc' := 39) rfl rfl rfl (fun h2 => ?_) (fun h2 => ?_)
      · exact kF (fun z => z h2)
      · exact kT h2
    · refine j_bipush (pc' := 41) (x := (-2 : Int32)) rfl rfl rfl ?_
      exact j_ret rfl rfl rfl (fun _ h => h)
    · refine j_aload_n (pc' := 43) rfl rfl rfl ?_
      refine j_gfr (pc' := 46) (x := 1) rfl rfl j_a0 rfl rfl ?_
      refine j_gfr (pc' := 49) (x := 5) rfl rfl j_a1 rfl rfl ?_
      refine j_gfr (pc' := 52) (x := 8) rfl rfl j_a5 rfl rfl ?_
      refine j_iload_n (pc' := 53) rfl rfl rfl ?_
      refine j_iald (pc' := 54) rfl rfl j_a8 ?_
      refine j_leti (fun v1 => ?_)
      refine j_istore_n (pc' := 55) (L' := [some (.ref 0), some (.int l1), some (.int l2), some (.int v1)]) rfl rfl rfl ?_
      refine j_aload_n (pc' := 56) rfl rfl rfl ?_
      refine j_gfr (pc' := 59) (x := 1) rfl rfl j_a0 rfl rfl ?_
      refine j_gfr (pc' := 62) (x := 5) rfl rfl j_a1 rfl rfl ?_
      refine j_gfr (pc' := 65) (x := 8) rfl rfl j_a5 rfl rfl ?_
      refine j_iload_n (pc' := 66) rfl rfl rfl ?_
      refine j_iload_n (pc' := 67) rfl rfl rfl ?_
      refine j_iast (pc' := 68) rfl rfl j_a8 (fun σ2 => ?_)
      refine j_iload_n (pc' := 69) rfl rfl rfl ?_
      exact j_ret rfl rfl rfl (fun _ h => h)
  · refine j_bipush (pc' := 41) (x := (-2 : Int32)) rfl rfl rfl ?_
    exact j_ret rfl rfl rfl (fun _ h => h)

noncomputable def f_X12_paint (l1 : Int32) (l2 : Int32) (σ : j_G) : Option (Int32 × j_G) :=
  j_b1 (f_X12_isComing l1 σ) fun v1 =>
  if (¬ v1 = 0) ∧ (¬ (f_X12_in (l2).toInt64 (0 : Int64) (1 : Int64)) = 0) then (j_b1 (f_X12_ofComing l1 (1 : Int32) σ) fun v2 =>
  if ¬ v2 = (-1 : Int32) then (some ((-2 : Int32), σ)) else (j_b1 (f_X12_ofComing l1 (2 : Int32) σ) fun v3 =>
  j_ix (((24 : Int32) + ((3 : Int32) * l1)) + (2 : Int32)) 116 (
  j_lt (j_si σ 76 ((((24 : Int32) + ((3 : Int32) * l1)) + (2 : Int32))).toNatClampNeg l2) fun σ4 =>
  some (v3, σ4)))) else (some ((-2 : Int32), σ))
theorem c_X12_paint (l1 : Int32) (l2 : Int32) (σ : j_G) : j_K false 2 337 [.ref 75, .int l1, .int l2] σ (f_X12_paint l1 l2 σ) j_Ri := by
  refine j_mkK (M := M_cX12_paint) (L := [some (.ref 75), some (.int l1), some (.int l2), none]) (m := 1) t_337 rfl (j_rcvO j_a75 rfl) rfl (fun d hd τ => ?_)
  unfold f_X12_paint
  refine j_aload_n (pc' := 1) rfl rfl rfl ?_
  refine j_iload_n (pc' := 2) rfl rfl rfl ?_
  refine j_callPi (pc' := 5) (ai := 204) (vs := [.ref 75, .int l1]) (rest := []) rfl rfl (fun _ _ => rfl) (c_X12_isComing l1 σ) (j_dd rfl hd) rfl (fun v1 => ?_)
  refine j_two (pT := 18) (pF := 28) (L1 := [some (.ref 75), some (.int l1), some (.int l2), none]) (st1 := []) (fun o kT kF => ?_) (fun h3 => ?_) (fun h3 => ?_)
  · refine j_ifeq (t := 28) (pc' := 8) rfl rfl rfl (fun h4 => ?_) (fun h4 => ?_)
    · exact kF (fun z => z.1 h4)
    · refine j_iload_n (pc' := 9) rfl rfl rfl ?_
      refine j_i2l (pc' := 10) rfl rfl ?_
      refine j_lconst (pc' := 11) (x := (0 : Int64)) rfl rfl rfl ?_
      refine j_lconst (pc' := 12) (x := (1 : Int64)) rfl rfl rfl ?_
      refine j_callTi (pc' := 15) (ai := 196) (vs := [.long (l2).toInt64, .long (0 : Int64), .long (1 : Int64)]) (rest := []) rfl rfl (fun _ _ => rfl) (c_X12_in (l2).toInt64 (0 : Int64) (1 : Int64) σ) (j_dd rfl hd) rfl ?_
      refine j_ifeq (t := 28) (pc' := 18) rfl rfl rfl (fun h5 => ?_) (fun h5 => ?_)
      · exact kF (fun z => (fun z => z h5) z.2)
      · exact kT (⟨h4, h5⟩)
  · refine j_aload_n (pc' := 19) rfl rfl rfl ?_
    refine j_iload_n (pc' := 20) rfl rfl rfl ?_
    refine j_iconst (pc' := 21) (x := (1 : Int32)) rfl rfl rfl ?_
    refine j_callPi (pc' := 24) (ai := 206) (vs := [.ref 75, .int l1, .int (1 : Int32)]) (rest := []) rfl rfl (fun _ _ => rfl) (c_X12_ofComing l1 (1 : Int32) σ) (j_dd rfl hd) rfl (fun v2 => ?_)
    refine j_iconst (pc' := 25) (x := (-1 : Int32)) rfl rfl rfl ?_
    refine j_two (pT := 28) (pF := 31) (L1 := [some (.ref 75), some (.int l1), some (.int l2), none]) (st1 := []) (fun o kT kF => ?_) (fun h1 => ?_) (fun h1 => ?_)
    · refine j_iceq (t := 31) (pc' := 28) rfl rfl rfl (fun h2 => ?_) (fun h2 => ?_)
      · exact kF (fun z => z h2)
      · exact kT h2
    · refine j_bipush (pc' := 30) (x := (-2 : Int32)) rfl rfl rfl ?_
      exact j_ret rfl rfl rfl (fun _ h => h)
    · refine j_aload_n (pc' := 32) rfl rfl rfl ?_
      refine j_iload_n (pc' := 33) rfl rfl rfl ?_
      refine j_iconst (pc' := 34) (x := (2 : Int32)) rfl rfl rfl ?_
      refine j_callPi (pc' := 37) (ai := 206) (vs := [.ref 75, .int l1, .int (2 : Int32)]) (rest := []) rfl rfl (fun _ _ => rfl) (c_X12_ofComing l1 (2 : Int32) σ) (j_dd rfl hd) rfl (fun v3 => ?_)
      refine j_istore_n (pc' := 38) (L' := [some (.ref 75), some (.int l1), some (.int l2), some (.int v3)]) rfl rfl rfl ?_
      refine j_aload_n (pc' := 39) rfl rfl rfl ?_
      refine j_gfr (pc' := 42) (x := 76) rfl rfl j_a75 rfl rfl ?_
      refine j_bipush (pc' := 44) (x := (24 : Int32)) rfl rfl rfl ?_
      refine j_iconst (pc' := 45) (x := (3 : Int32)) rfl rfl rfl ?_
      refine j_iload_n (pc' := 46) rfl rfl rfl ?_
      refine j_imul (pc' := 47) rfl rfl ?_
      refine j_iadd (pc' := 48) rfl rfl ?_
      refine j_iconst (pc' := 49) (x := (2 : Int32)) rfl rfl rfl ?_
      refine j_iadd (pc' := 50) rfl rfl ?_
      refine j_iload_n (pc' := 51) rfl rfl rfl ?_
      refine j_iast (pc' := 52) rfl rfl j_a76 (fun σ4 => ?_)
      refine j_iload_n (pc' := 53) rfl rfl rfl ?_
      exact j_ret rfl rfl rfl (fun _ h => h)
  · refine j_bipush (pc' := 30) (x := (-2 : Int32)) rfl rfl rfl ?_
    exact j_ret rfl rfl rfl (fun _ h => h)

noncomputable def f_X11_turn (l1 : Int32) (σ : j_G) : Option (Int32 × j_G) :=
  if (f_X3_has l1 σ) = 0 then (some ((-2 : Int32), σ)) else (j_lt (σ.1 5 1) fun v1 =>
  j_lt (j_si σ 5 1 l1) fun σ2 =>
  some (v1, σ2))
theorem c_X11_turn (l1 : Int32) (σ : j_G) : j_K true 1 171 [.ref 0, .int l1] σ (f_X11_turn l1 σ) j_Ri := by
  refine j_mkK (M := M_cX11_turn) (L := [some (.ref 0), some (.int l1), none]) (m := 1) t_171 rfl (j_rcvO j_a0 rfl) rfl (fun d hd τ => ?_)
  unfold f_X11_turn
  refine j_aload_n (pc' := 1) rfl rfl rfl ?_
  refine j_gfr (pc' := 4) (x := 1) rfl rfl j_a0 rfl rfl ?_
  refine j_gfr (pc' := 7) (x := 5) rfl rfl j_a1 rfl rfl ?_
  refine j_iload_n (pc' := 8) rfl rfl rfl ?_
  refine j_callTi (pc' := 11) (ai := 31) (vs := [.ref 5, .int l1]) (rest := []) rfl rfl (fun _ _ => rfl) (c_X3_has l1 σ) (j_dd rfl hd) rfl ?_
  refine j_two (pT := 14) (pF := 17) (L1 := [some (.ref 0), some (.int l1), none]) (st1 := []) (fun o kT kF => ?_) (fun h1 => ?_) (fun h1 => ?_)
  · refine j_ifne (t := 17) (pc' := 14) rfl rfl rfl (fun h2 => ?_) (fun h2 => ?_)
    · exact kF h2
    · exact kT h2
  · refine j_bipush (pc' := 16) (x := (-2 : Int32)) rfl rfl rfl ?_
    exact j_ret rfl rfl rfl (fun _ h => h)
  · refine j_aload_n (pc' := 18) rfl rfl rfl ?_
    refine j_gfr (pc' := 21) (x := 1) rfl rfl j_a0 rfl rfl ?_
    refine j_gfr (pc' := 24) (x := 5) rfl rfl j_a1 rfl rfl ?_
    refine j_gfi (pc' := 27) rfl rfl j_a5 rfl ?_
    refine j_leti (fun v1 => ?_)
    refine j_istore_n (pc' := 28) (L' := [some (.ref 0), some (.int l1), some (.int v1)]) rfl rfl rfl ?_
    refine j_aload_n (pc' := 29) rfl rfl rfl ?_
    refine j_gfr (pc' := 32) (x := 1) rfl rfl j_a0 rfl rfl ?_
    refine j_gfr (pc' := 35) (x := 5) rfl rfl j_a1 rfl rfl ?_
    refine j_iload_n (pc' := 36) rfl rfl rfl ?_
    refine j_pfi (pc' := 39) rfl rfl j_a5 rfl rfl (fun σ2 => ?_)
    refine j_iload_n (pc' := 40) rfl rfl rfl ?_
    exact j_ret rfl rfl rfl (fun _ h => h)

noncomputable def f_X12_turn (l1 : Int32) (σ : j_G) : Option (Int32 × j_G) :=
  j_b1 (f_X12_isComing l1 σ) fun v1 =>
  if v1 = 0 then (some ((-2 : Int32), σ)) else (j_ix (8 : Int32) 116 (
  j_lt (σ.1 76 ((8 : Int32)).toNatClampNeg) fun v2 =>
  j_ix (8 : Int32) 116 (
  j_lt (j_si σ 76 ((8 : Int32)).toNatClampNeg l1) fun σ3 =>
  some (v2, σ3))))
theorem c_X12_turn (l1 : Int32) (σ : j_G) : j_K false 2 338 [.ref 75, .int l1] σ (f_X12_turn l1 σ) j_Ri := by
  refine j_mkK (M := M_cX12_turn) (L := [some (.ref 75), some (.int l1), none]) (m := 1) t_338 rfl (j_rcvO j_a75 rfl) rfl (fun d hd τ => ?_)
  unfold f_X12_turn
  refine j_aload_n (pc' := 1) rfl rfl rfl ?_
  refine j_iload_n (pc' := 2) rfl rfl rfl ?_
  refine j_callPi (pc' := 5) (ai := 204) (vs := [.ref 75, .int l1]) (rest := []) rfl rfl (fun _ _ => rfl) (c_X12_isComing l1 σ) (j_dd rfl hd) rfl (fun v1 => ?_)
  refine j_two (pT := 8) (pF := 11) (L1 := [some (.ref 75), some (.int l1), none]) (st1 := []) (fun o kT kF => ?_) (fun h1 => ?_) (fun h1 => ?_)
  · refine j_ifne (t := 11) (pc' := 8) rfl rfl rfl (fun h2 => ?_) (fun h2 => ?_)
    · exact kF h2
    · exact kT h2
  · refine j_bipush (pc' := 10) (x := (-2 : Int32)) rfl rfl rfl ?_
    exact j_ret rfl rfl rfl (fun _ h => h)
  · refine j_aload_n (pc' := 12) rfl rfl rfl ?_
    refine j_gfr (pc' := 15) (x := 76) rfl rfl j_a75 rfl rfl ?_
    refine j_bipush (pc' := 17) (x := (8 : Int32)) rfl rfl rfl ?_
    refine j_iald (pc' := 18) rfl rfl j_a76 ?_
    refine j_leti (fun v2 => ?_)
    refine j_istore_n (pc' := 19) (L' := [some (.ref 75), some (.int l1), some (.int v2)]) rfl rfl rfl ?_
    refine j_aload_n (pc' := 20) rfl rfl rfl ?_
    refine j_gfr (pc' := 23) (x := 76) rfl rfl j_a75 rfl rfl ?_
    refine j_bipush (pc' := 25) (x := (8 : Int32)) rfl rfl rfl ?_
    refine j_iload_n (pc' := 26) rfl rfl rfl ?_
    refine j_iast (pc' := 27) rfl rfl j_a76 (fun σ3 => ?_)
    refine j_iload_n (pc' := 28) rfl rfl rfl ?_
    exact j_ret rfl rfl rfl (fun _ h => h)

noncomputable def f_X11_shut (l1 : Int32) (l2 : Int32) (σ : j_G) : Option (Int32 × j_G) :=
  if (¬ (f_X2_isHole 1 l1 σ) = 0) ∧ ((¬ l2 < 0) ∧ (¬ (1 : Int32) < l2)) then (j_b1 (f_X3_oftenAt 5 6 7 l1 σ) fun v1 =>
  if 0 < v1 then (some ((-2 : Int32), σ)) else (j_lt (if ¬ (f_X2_isShut 1 l1 σ) = 0 then ((1 : Int32)) else ((0 : Int32))) fun v2 =>
  if ¬ v2 = l2 then (j_lt (j_si σ 1 6 ((σ.1 1 6) ^^^ ((1 : Int32) <<< (l1 &&& 31)))) fun σ3 =>
  some (v2, σ3)) else (some (v2, σ)))) else (some ((-2 : Int32), σ))
theorem c_X11_shut (l1 : Int32) (l2 : Int32) (σ : j_G) : j_K true 2 172 [.ref 0, .int l1, .int l2] σ (f_X11_shut l1 l2 σ) j_Ri := by
  refine j_mkK (M := M_cX11_shut) (L := [some (.ref 0), some (.int l1), some (.int l2), none]) (m := 1) t_172 rfl (j_rcvO j_a0 rfl) rfl (fun d hd τ => ?_)
  unfold f_X11_shut
  refine j_aload_n (pc' := 1) rfl rfl rfl ?_
  refine j_gfr (pc' := 4) (x := 1) rfl rfl j_a0 rfl rfl ?_
  refine j_iload_n (pc' := 5) rfl rfl rfl ?_
  refine j_callTi (pc' := 8) (ai := 13) (vs := [.ref 1, .int l1]) (rest := []) rfl rfl (fun _ _ => rfl) (c_X2_isHole_1 l1 σ) (j_dd rfl hd) rfl ?_
  refine j_two (pT := 20) (pF := 34) (L1 := [some (.ref 0), some (.int l1), some (.int l2), none]) (st1 := []) (fun o kT kF => ?_) (fun h7 => ?_) (fun h7 => ?_)
  · refine j_ifeq (t := 34) (pc' := 11) rfl rfl rfl (fun h8 => ?_) (fun h8 => ?_)
    · exact kF (fun z => z.1 h8)
    · refine j_iload_n (pc' := 12) rfl rfl rfl ?_
      refine j_iflt (t := 34) (pc' := 15) rfl rfl rfl (fun h9 => ?_) (fun h9 => ?_)
      · exact kF (fun z => (fun z => z.1 h9) z.2)
      · refine j_iload_n (pc' := 16) rfl rfl rfl ?_
        refine j_iconst (pc' := 17) (x := (1 : Int32)) rfl rfl rfl ?_
        refine j_icgt (t := 34) (pc' := 20) rfl rfl rfl (fun h10 => ?_) (fun h10 => ?_)
        · exact kF (fun z => (fun z => (fun z => z h10) z.2) z.2)
        · exact kT (⟨h8, ⟨h9, h10⟩⟩)
  · refine j_aload_n (pc' := 21) rfl rfl rfl ?_
    refine j_gfr (pc' := 24) (x := 1) rfl rfl j_a0 rfl rfl ?_
    refine j_gfr (pc' := 27) (x := 5) rfl rfl j_a1 rfl rfl ?_
    refine j_iload_n (pc' := 28) rfl rfl rfl ?_
    refine j_callPi (pc' := 31) (ai := 36) (vs := [.ref 5, .int l1]) (rest := []) rfl rfl (fun _ _ => rfl) (c_X3_oftenAt_5 l1 σ) (j_dd rfl hd) rfl (fun v1 => ?_)
    refine j_two (pT := 34) (pF := 37) (L1 := [some (.ref 0), some (.int l1), some (.int l2), none]) (st1 := []) (fun o kT kF => ?_) (fun h5 => ?_) (fun h5 => ?_)
    · refine j_ifle (t := 37) (pc' := 34) rfl rfl rfl (fun h6 => ?_) (fun h6 => ?_)
      · exact kF h6
      · exact kT h6
    · refine j_bipush (pc' := 36) (x := (-2 : Int32)) rfl rfl rfl ?_
      exact j_ret rfl rfl rfl (fun _ h => h)
    · refine j_aload_n (pc' := 38) rfl rfl rfl ?_
      refine j_gfr (pc' := 41) (x := 1) rfl rfl j_a0 rfl rfl ?_
      refine j_iload_n (pc' := 42) rfl rfl rfl ?_
      refine j_callTi (pc' := 45) (ai := 16) (vs := [.ref 1, .int l1]) (rest := []) rfl rfl (fun _ _ => rfl) (c_X2_isShut_1 l1 σ) (j_dd rfl hd) rfl ?_
      refine j_ql (Φl := (fun r Q => j_Tr true τ M_cX11_shut d 53 [some (.ref 0), some (.int l1), some (.int l2), none] [.int r] σ Q)) ?_ (fun v2 => ?_)
      · refine j_twoT (pT := 48) (pF := 52) (L1 := [some (.ref 0), some (.int l1), some (.int l2), none]) (st1 := []) (fun o kT kF => ?_) (fun h1 => ?_) (fun h1 => ?_)
        · refine j_ifeq (t := 52) (pc' := 48) rfl rfl rfl (fun h2 => ?_) (fun h2 => ?_)
          · exact kF (fun z => z h2)
          · exact kT h2
        · refine j_iconst (pc' := 49) (x := (1 : Int32)) rfl rfl rfl ?_
          refine j_goto (t := 53) rfl rfl ?_
          exact j_end (fun _ h => h)
        · refine j_iconst (pc' := 53) (x := (0 : Int32)) rfl rfl rfl ?_
          exact j_end (fun _ h => h)
      show j_J true τ M_cX11_shut d 53 [some (.ref 0), some (.int l1), some (.int l2), none] [.int v2] σ _ _
      refine j_istore_n (pc' := 54) (L' := [some (.ref 0), some (.int l1), some (.int l2), some (.int v2)]) rfl rfl rfl ?_
      refine j_iload_n (pc' := 55) rfl rfl rfl ?_
      refine j_iload_n (pc' := 56) rfl rfl rfl ?_
      refine j_two (pT := 59) (pF := 74) (L1 := [some (.ref 0), some (.int l1), some (.int l2), some (.int v2)]) (st1 := []) (fun o kT kF => ?_) (fun h3 => ?_) (fun h3 => ?_)
      · refine j_iceq (t := 74) (pc' := 59) rfl rfl rfl (fun h4 => ?_) (fun h4 => ?_)
        · exact kF (fun z => z h4)
        · exact kT h4
      · refine j_aload_n (pc' := 60) rfl rfl rfl ?_
        refine j_gfr (pc' := 63) (x := 1) rfl rfl j_a0 rfl rfl ?_
        refine j_dup (pc' := 64) rfl rfl rfl ?_
        refine j_gfi (pc' := 67) rfl rfl j_a1 rfl ?_
        refine j_iconst (pc' := 68) (x := (1 : Int32)) rfl rfl rfl ?_
        refine j_iload_n (pc' := 69) rfl rfl rfl ?_
        refine j_ishl (pc' := 70) rfl rfl ?_
        refine j_ixor (pc' := 71) rfl rfl ?_
        refine j_pfi (pc' := 74) rfl rfl j_a1 rfl rfl (fun σ3 => ?_)
        refine j_iload_n (pc' := 75) rfl rfl rfl ?_
        exact j_ret rfl rfl rfl (fun _ h => h)
      · refine j_iload_n (pc' := 75) rfl rfl rfl ?_
        exact j_ret rfl rfl rfl (fun _ h => h)
  · refine j_bipush (pc' := 36) (x := (-2 : Int32)) rfl rfl rfl ?_
    exact j_ret rfl rfl rfl (fun _ h => h)

noncomputable def f_X12_shut (l1 : Int32) (l2 : Int32) (σ : j_G) : Option (Int32 × j_G) :=
  j_b1 (f_X12_isHole (l1).toInt64 σ) fun v1 =>
  if (¬ v1 = 0) ∧ (¬ (f_X12_in (l2).toInt64 (0 : Int64) (1 : Int64)) = 0) then (j_b1 (f_X12_oftenOf l1 σ) fun v2 =>
  if 0 < v2 then (some ((-2 : Int32), σ)) else (j_b1 (f_X12_isShut l1 σ) fun v3 =>
  j_lt (if ¬ v3 = 0 then ((1 : Int32)) else ((0 : Int32))) fun v4 =>
  j_ix (7 : Int32) 116 (
  j_ix (7 : Int32) 116 (
  j_lt (j_si σ 76 ((7 : Int32)).toNatClampNeg (((σ.1 76 ((7 : Int32)).toNatClampNeg) &&& (((1 : Int32) <<< (l1 &&& 31)) ^^^ (-1 : Int32))) ||| (l2 <<< (l1 &&& 31)))) fun σ5 =>
  some (v4, σ5))))) else (some ((-2 : Int32), σ))
theorem c_X12_shut (l1 : Int32) (l2 : Int32) (σ : j_G) : j_K false 2 340 [.ref 75, .int l1, .int l2] σ (f_X12_shut l1 l2 σ) j_Ri := by
  refine j_mkK (M := M_cX12_shut) (L := [some (.ref 75), some (.int l1), some (.int l2), none]) (m := 1) t_340 rfl (j_rcvO j_a75 rfl) rfl (fun d hd τ => ?_)
  unfold f_X12_shut
  refine j_aload_n (pc' := 1) rfl rfl rfl ?_
  refine j_iload_n (pc' := 2) rfl rfl rfl ?_
  refine j_i2l (pc' := 3) rfl rfl ?_
  refine j_callPi (pc' := 6) (ai := 201) (vs := [.ref 75, .long (l1).toInt64]) (rest := []) rfl rfl (fun _ _ => rfl) (c_X12_isHole (l1).toInt64 σ) (j_dd rfl hd) rfl (fun v1 => ?_)
  refine j_two (pT := 19) (pF := 27) (L1 := [some (.ref 75), some (.int l1), some (.int l2), none]) (st1 := []) (fun o kT kF => ?_) (fun h5 => ?_) (fun h5 => ?_)
  · refine j_ifeq (t := 27) (pc' := 9) rfl rfl rfl (fun h6 => ?_) (fun h6 => ?_)
    · exact kF (fun z => z.1 h6)
    · refine j_iload_n (pc' := 10) rfl rfl rfl ?_
      refine j_i2l (pc' := 11) rfl rfl ?_
      refine j_lconst (pc' := 12) (x := (0 : Int64)) rfl rfl rfl ?_
      refine j_lconst (pc' := 13) (x := (1 : Int64)) rfl rfl rfl ?_
      refine j_callTi (pc' := 16) (ai := 196) (vs := [.long (l2).toInt64, .long (0 : Int64), .long (1 : Int64)]) (rest := []) rfl rfl (fun _ _ => rfl) (c_X12_in (l2).toInt64 (0 : Int64) (1 : Int64) σ) (j_dd rfl hd) rfl ?_
      refine j_ifeq (t := 27) (pc' := 19) rfl rfl rfl (fun h7 => ?_) (fun h7 => ?_)
      · exact kF (fun z => (fun z => z h7) z.2)
      · exact kT (⟨h6, h7⟩)
  · refine j_aload_n (pc' := 20) rfl rfl rfl ?_
    refine j_iload_n (pc' := 21) rfl rfl rfl ?_
    refine j_callPi (pc' := 24) (ai := 329) (vs := [.ref 75, .int l1]) (rest := []) rfl rfl (fun _ _ => rfl) (c_X12_oftenOf l1 σ) (j_dd rfl hd) rfl (fun v2 => ?_)
    refine j_two (pT := 27) (pF := 30) (L1 := [some (.ref 75), some (.int l1), some (.int l2), none]) (st1 := []) (fun o kT kF => ?_) (fun h3 => ?_) (fun h3 => ?_)
    · refine j_ifle (t := 30) (pc' := 27) rfl rfl rfl (fun h4 => ?_) (fun h4 => ?_)
      · exact kF h4
      · exact kT h4
    · refine j_bipush (pc' := 29) (x := (-2 : Int32)) rfl rfl rfl ?_
      exact j_ret rfl rfl rfl (fun _ h => h)
    · refine j_aload_n (pc' := 31) rfl rfl rfl ?_
      refine j_iload_n (pc' := 32) rfl rfl rfl ?_
      refine j_callPi (pc' := 35) (ai := 202) (vs := [.ref 75, .int l1]) (rest := []) rfl rfl (fun _ _ => rfl) (c_X12_isShut l1 σ) (j_dd rfl hd) rfl (fun v3 => ?_)
      refine j_ql (Φl := (fun r Q => j_Tr false τ M_cX12_shut d 43 [some (.ref 75), some (.int l1), some (.int l2), none] [.int r] σ Q)) ?_ (fun v4 => ?_)
      · refine j_twoT (pT := 38) (pF := 42) (L1 := [some (.ref 75), some (.int l1), some (.int l2), none]) (st1 := []) (fun o kT kF => ?_) (fun h1 => ?_) (fun h1 => ?_)
        · refine j_ifeq (t := 42) (pc' := 38) rfl rfl rfl (fun h2 => ?_) (fun h2 => ?_)
          · exact kF (fun z => z h2)
          · exact kT h2
        · refine j_iconst (pc' := 39) (x := (1 : Int32)) rfl rfl rfl ?_
          refine j_goto (t := 43) rfl rfl ?_
          exact j_end (fun _ h => h)
        · refine j_iconst (pc' := 43) (x := (0 : Int32)) rfl rfl rfl ?_
          exact j_end (fun _ h => h)
      show j_J false τ M_cX12_shut d 43 [some (.ref 75), some (.int l1), some (.int l2), none] [.int v4] σ _ _
      refine j_istore_n (pc' := 44) (L' := [some (.ref 75), some (.int l1), some (.int l2), some (.int v4)]) rfl rfl rfl ?_
      refine j_aload_n (pc' := 45) rfl rfl rfl ?_
      refine j_gfr (pc' := 48) (x := 76) rfl rfl j_a75 rfl rfl ?_
      refine j_bipush (pc' := 50) (x := (7 : Int32)) rfl rfl rfl ?_
      refine j_aload_n (pc' := 51) rfl rfl rfl ?_
      refine j_gfr (pc' := 54) (x := 76) rfl rfl j_a75 rfl rfl ?_
      refine j_bipush (pc' := 56) (x := (7 : Int32)) rfl rfl rfl ?_
      refine j_iald (pc' := 57) rfl rfl j_a76 ?_
      refine j_iconst (pc' := 58) (x := (1 : Int32)) rfl rfl rfl ?_
      refine j_iload_n (pc' := 59) rfl rfl rfl ?_
      refine j_ishl (pc' := 60) rfl rfl ?_
      refine j_iconst (pc' := 61) (x := (-1 : Int32)) rfl rfl rfl ?_
      refine j_ixor (pc' := 62) rfl rfl ?_
      refine j_iand (pc' := 63) rfl rfl ?_
      refine j_iload_n (pc' := 64) rfl rfl rfl ?_
      refine j_iload_n (pc' := 65) rfl rfl rfl ?_
      refine j_ishl (pc' := 66) rfl rfl ?_
      refine j_ior (pc' := 67) rfl rfl ?_
      refine j_iast (pc' := 68) rfl rfl j_a76 (fun σ5 => ?_)
      refine j_iload_n (pc' := 69) rfl rfl rfl ?_
      exact j_ret rfl rfl rfl (fun _ h => h)
  · refine j_bipush (pc' := 29) (x := (-2 : Int32)) rfl rfl rfl ?_
    exact j_ret rfl rfl rfl (fun _ h => h)

theorem c_X2_isTrait_1 (l1 : Int32) (l2 : Int32) (σ : j_G) : j_K true 2 26 [.ref 1, .int l1, .int l2] σ (some (f_X2_isTrait 1 l1 l2 σ)) (j_Pi σ) := by
  refine j_mkK (M := M_cX2_isTrait) (L := [some (.ref 1), some (.int l1), some (.int l2)]) (m := 0) t_26 rfl (j_rcvO j_a1 rfl) rfl (fun d hd τ => ?_)
  unfold f_X2_isTrait
  refine j_iload_n (pc' := 1) rfl rfl rfl ?_
  refine j_splT (k := (0 : Int32)) (fun h1 => ?_) (fun h1 => ?_)
  · refine j_sw (t := 36) h1 rfl rfl (fun _ _ => rfl) ?_
    refine j_iload_n (pc' := 37) rfl rfl rfl ?_
    refine j_iconst (pc' := 38) (x := (1 : Int32)) rfl rfl rfl ?_
    refine j_twoT (pT := 47) (pF := 51) (L1 := [some (.ref 1), some (.int l1), some (.int l2)]) (st1 := []) (fun o kT kF => ?_) (fun h2 => ?_) (fun h2 => ?_)
    · refine j_iclt (t := 51) (pc' := 41) rfl rfl rfl (fun h3 => ?_) (fun h3 => ?_)
      · exact kF (fun z => z.1 h3)
      · refine j_iload_n (pc' := 42) rfl rfl rfl ?_
        refine j_bipush (pc' := 44) (x := (9 : Int32)) rfl rfl rfl ?_
        refine j_icgt (t := 51) (pc' := 47) rfl rfl rfl (fun h4 => ?_) (fun h4 => ?_)
        · exact kF (fun z => (fun z => z h4) z.2)
        · exact kT (⟨h3, h4⟩)
    · refine j_iconst (pc' := 48) (x := (1 : Int32)) rfl rfl rfl ?_
      refine j_goto (t := 52) rfl rfl ?_
      exact j_ret rfl rfl rfl (fun _ h => h)
    · refine j_iconst (pc' := 52) (x := (0 : Int32)) rfl rfl rfl ?_
      exact j_ret rfl rfl rfl (fun _ h => h)
  refine j_splT (k := (1 : Int32)) (fun h5 => ?_) (fun h5 => ?_)
  · refine j_sw (t := 53) h5 rfl rfl (fun _ _ => rfl) ?_
    refine j_iload_n (pc' := 54) rfl rfl rfl ?_
    refine j_twoT (pT := 63) (pF := 67) (L1 := [some (.ref 1), some (.int l1), some (.int l2)]) (st1 := []) (fun o kT kF => ?_) (fun h6 => ?_) (fun h6 => ?_)
    · refine j_iflt (t := 67) (pc' := 57) rfl rfl rfl (fun h7 => ?_) (fun h7 => ?_)
      · exact kF (fun z => z.1 h7)
      · refine j_iload_n (pc' := 58) rfl rfl rfl ?_
        refine j_bipush (pc' := 60) (x := (20 : Int32)) rfl rfl rfl ?_
        refine j_icgt (t := 67) (pc' := 63) rfl rfl rfl (fun h8 => ?_) (fun h8 => ?_)
        · exact kF (fun z => (fun z => z h8) z.2)
        · exact kT (⟨h7, h8⟩)
    · refine j_iconst (pc' := 64) (x := (1 : Int32)) rfl rfl rfl ?_
      refine j_goto (t := 68) rfl rfl ?_
      exact j_ret rfl rfl rfl (fun _ h => h)
    · refine j_iconst (pc' := 68) (x := (0 : Int32)) rfl rfl rfl ?_
      exact j_ret rfl rfl rfl (fun _ h => h)
  refine j_splT (k := (2 : Int32)) (fun h9 => ?_) (fun h9 => ?_)
  · refine j_sw (t := 69) h9 rfl rfl (fun _ _ => rfl) ?_
    refine j_iload_n (pc' := 70) rfl rfl rfl ?_
    refine j_twoT (pT := 79) (pF := 83) (L1 := [some (.ref 1), some (.int l1), some (.int l2)]) (st1 := []) (fun o kT kF => ?_) (fun h10 => ?_) (fun h10 => ?_)
    · refine j_iflt (t := 83) (pc' := 73) rfl rfl rfl (fun h11 => ?_) (fun h11 => ?_)
      · exact kF (fun z => z.1 h11)
      · refine j_iload_n (pc' := 74) rfl rfl rfl ?_
        refine j_bipush (pc' := 76) (x := (99 : Int32)) rfl rfl rfl ?_
        refine j_icgt (t := 83) (pc' := 79) rfl rfl rfl (fun h12 => ?_) (fun h12 => ?_)
        · exact kF (fun z => (fun z => z h12) z.2)
        · exact kT (⟨h11, h12⟩)
    · refine j_iconst (pc' := 80) (x := (1 : Int32)) rfl rfl rfl ?_
      refine j_goto (t := 84) rfl rfl ?_
      exact j_ret rfl rfl rfl (fun _ h => h)
    · refine j_iconst (pc' := 84) (x := (0 : Int32)) rfl rfl rfl ?_
      exact j_ret rfl rfl rfl (fun _ h => h)
  refine j_splT (k := (3 : Int32)) (fun h13 => ?_) (fun h13 => ?_)
  · refine j_sw (t := 85) h13 rfl rfl (fun _ _ => rfl) ?_
    refine j_iload_n (pc' := 86) rfl rfl rfl ?_
    refine j_twoT (pT := 95) (pF := 99) (L1 := [some (.ref 1), some (.int l1), some (.int l2)]) (st1 := []) (fun o kT kF => ?_) (fun h14 => ?_) (fun h14 => ?_)
    · refine j_iflt (t := 99) (pc' := 89) rfl rfl rfl (fun h15 => ?_) (fun h15 => ?_)
      · exact kF (fun z => z.1 h15)
      · refine j_iload_n (pc' := 90) rfl rfl rfl ?_
        refine j_bipush (pc' := 92) (x := (9 : Int32)) rfl rfl rfl ?_
        refine j_icgt (t := 99) (pc' := 95) rfl rfl rfl (fun h16 => ?_) (fun h16 => ?_)
        · exact kF (fun z => (fun z => z h16) z.2)
        · exact kT (⟨h15, h16⟩)
    · refine j_iconst (pc' := 96) (x := (1 : Int32)) rfl rfl rfl ?_
      refine j_goto (t := 100) rfl rfl ?_
      exact j_ret rfl rfl rfl (fun _ h => h)
    · refine j_iconst (pc' := 100) (x := (0 : Int32)) rfl rfl rfl ?_
      exact j_ret rfl rfl rfl (fun _ h => h)
  refine j_splT (k := (4 : Int32)) (fun h17 => ?_) (fun h17 => ?_)
  · refine j_sw (t := 101) h17 rfl rfl (fun _ _ => rfl) ?_
    refine j_aload_n (pc' := 102) rfl rfl rfl ?_
    refine j_iload_n (pc' := 103) rfl rfl rfl ?_
    refine j_callTi (pc' := 106) (ai := 13) (vs := [.ref 1, .int l2]) (rest := []) rfl rfl (fun _ _ => rfl) (c_X2_isHole_1 l2 σ) (j_dd rfl hd) rfl ?_
    exact j_retb rfl rfl (b_X2_isHole 1 l2 σ) (fun _ h => h)
  have eh1 := j_ne (0) (by decide) h1
  have eh5 := j_ne (1) (by decide) h5
  have eh9 := j_ne (2) (by decide) h9
  have eh13 := j_ne (3) (by decide) h13
  have eh17 := j_ne (4) (by decide) h17
  refine j_tsd (t := 107) rfl (by omega) rfl ?_
  refine j_iconst (pc' := 108) (x := (0 : Int32)) rfl rfl rfl ?_
  exact j_ret rfl rfl rfl (fun _ h => h)

theorem c_X2_setTrait_1 (l1 : Int32) (l2 : Int32) (l3 : Int32) (σ : j_G) : j_K true 0 25 [.ref 1, .int l1, .int l2, .int l3] σ (f_X2_setTrait 4 l1 l2 l3 σ) j_Rv := by
  refine j_mkK (M := M_cX2_setTrait) (L := [some (.ref 1), some (.int l1), some (.int l2), some (.int l3), none]) (m := 1) t_25 rfl (j_rcvO j_a1 rfl) rfl (fun d hd τ => ?_)
  unfold f_X2_setTrait
  refine j_iload_n (pc' := 1) rfl rfl rfl ?_
  refine j_iconst (pc' := 2) (x := (5 : Int32)) rfl rfl rfl ?_
  refine j_imul (pc' := 3) rfl rfl ?_
  refine j_iload_n (pc' := 4) rfl rfl rfl ?_
  refine j_iadd (pc' := 5) rfl rfl ?_
  refine j_leti (fun v1 => ?_)
  refine j_istore (pc' := 7) (L' := [some (.ref 1), some (.int l1), some (.int l2), some (.int l3), some (.int v1)]) rfl rfl rfl ?_
  refine j_iload (pc' := 9) rfl rfl rfl ?_
  refine j_two (pT := 22) (pF := 30) (L1 := [some (.ref 1), some (.int l1), some (.int l2), some (.int l3), some (.int v1)]) (st1 := []) (fun o kT kF => ?_) (fun h1 => ?_) (fun h1 => ?_)
  · refine j_iflt (t := 30) (pc' := 12) rfl rfl rfl (fun h2 => ?_) (fun h2 => ?_)
    · exact kF (fun z => z.1 h2)
    · refine j_iload (pc' := 14) rfl rfl rfl ?_
      refine j_aload_n (pc' := 15) rfl rfl rfl ?_
      refine j_gfr (pc' := 18) (x := 4) rfl rfl j_a1 rfl rfl ?_
      refine j_alen (pc' := 19) (v := (20 : Int32)) rfl rfl j_a4 rfl ?_
      refine j_icge (t := 30) (pc' := 22) rfl rfl rfl (fun h3 => ?_) (fun h3 => ?_)
      · exact kF (fun z => (h3) z.2)
      · exact kT (⟨h2, h3⟩)
  · refine j_aload_n (pc' := 23) rfl rfl rfl ?_
    refine j_gfr (pc' := 26) (x := 4) rfl rfl j_a1 rfl rfl ?_
    refine j_iload (pc' := 28) rfl rfl rfl ?_
    refine j_iload_n (pc' := 29) rfl rfl rfl ?_
    refine j_iast (pc' := 30) rfl rfl j_a4 (fun σ2 => ?_)
    exact j_ret rfl rfl rfl (fun _ h => h)
  · exact j_ret rfl rfl rfl (fun _ h => h)

noncomputable def f_X11_train (l1 : Int32) (l2 : Int32) (l3 : Int32) (σ : j_G) : Option (Int32 × j_G) :=
  if ((f_X2_isPlayer l1 σ) = 0) ∨ ((f_X2_isTrait 1 l2 l3 σ) = 0) then (some ((-2 : Int32), σ)) else (j_b1 (f_X2_trait l1 l2 σ) fun v1 =>
  j_b1 (f_X2_setTrait 4 l1 l2 l3 σ) fun σ2 =>
  some (v1, σ2))
theorem c_X11_train (l1 : Int32) (l2 : Int32) (l3 : Int32) (σ : j_G) : j_K true 3 173 [.ref 0, .int l1, .int l2, .int l3] σ (f_X11_train l1 l2 l3 σ) j_Ri := by
  refine j_mkK (M := M_cX11_train) (L := [some (.ref 0), some (.int l1), some (.int l2), some (.int l3), none]) (m := 1) t_173 rfl (j_rcvO j_a0 rfl) rfl (fun d hd τ => ?_)
  unfold f_X11_train
  refine j_aload_n (pc' := 1) rfl rfl rfl ?_
  refine j_gfr (pc' := 4) (x := 1) rfl rfl j_a0 rfl rfl ?_
  refine j_iload_n (pc' := 5) rfl rfl rfl ?_
  refine j_callTi (pc' := 8) (ai := 15) (vs := [.ref 1, .int l1]) (rest := []) rfl rfl (fun _ _ => rfl) (c_X2_isPlayer l1 σ) (j_dd rfl hd) rfl ?_
  refine j_two (pT := 23) (pF := 26) (L1 := [some (.ref 0), some (.int l1), some (.int l2), some (.int l3), none]) (st1 := []) (fun o kT kF => ?_) (fun h1 => ?_) (fun h1 => ?_)
  · refine j_ifeq (t := 23) (pc' := 11) rfl rfl rfl (fun h2 => ?_) (fun h2 => ?_)
    · exact kT (Or.inl h2)
    · refine j_aload_n (pc' := 12) rfl rfl rfl ?_
      refine j_gfr (pc' := 15) (x := 1) rfl rfl j_a0 rfl rfl ?_
      refine j_iload_n (pc' := 16) rfl rfl rfl ?_
      refine j_iload_n (pc' := 17) rfl rfl rfl ?_
      refine j_callTi (pc' := 20) (ai := 26) (vs := [.ref 1, .int l2, .int l3]) (rest := []) rfl rfl (fun _ _ => rfl) (c_X2_isTrait_1 l2 l3 σ) (j_dd rfl hd) rfl ?_
      refine j_ifne (t := 26) (pc' := 23) rfl rfl rfl (fun h3 => ?_) (fun h3 => ?_)
      · exact kF (fun z => z.elim h2 (h3))
      · exact kT (Or.inr (h3))
  · refine j_bipush (pc' := 25) (x := (-2 : Int32)) rfl rfl rfl ?_
    exact j_ret rfl rfl rfl (fun _ h => h)
  · refine j_aload_n (pc' := 27) rfl rfl rfl ?_
    refine j_gfr (pc' := 30) (x := 1) rfl rfl j_a0 rfl rfl ?_
    refine j_iload_n (pc' := 31) rfl rfl rfl ?_
    refine j_iload_n (pc' := 32) rfl rfl rfl ?_
    refine j_callPi (pc' := 35) (ai := 24) (vs := [.ref 1, .int l1, .int l2]) (rest := []) rfl rfl (fun _ _ => rfl) (c_X2_trait l1 l2 σ) (j_dd rfl hd) rfl (fun v1 => ?_)
    refine j_istore (pc' := 37) (L' := [some (.ref 0), some (.int l1), some (.int l2), some (.int l3), some (.int v1)]) rfl rfl rfl ?_
    refine j_aload_n (pc' := 38) rfl rfl rfl ?_
    refine j_gfr (pc' := 41) (x := 1) rfl rfl j_a0 rfl rfl ?_
    refine j_iload_n (pc' := 42) rfl rfl rfl ?_
    refine j_iload_n (pc' := 43) rfl rfl rfl ?_
    refine j_iload_n (pc' := 44) rfl rfl rfl ?_
    refine j_callRv (pc' := 47) (ai := 25) (vs := [.ref 1, .int l1, .int l2, .int l3]) (rest := []) rfl rfl (fun _ _ => rfl) (c_X2_setTrait_1 l1 l2 l3 σ) (j_dd rfl hd) rfl (fun σ2 => ?_)
    refine j_iload (pc' := 49) rfl rfl rfl ?_
    exact j_ret rfl rfl rfl (fun _ h => h)

noncomputable def f_X12_train (l1 : Int32) (l2 : Int32) (l3 : Int32) (σ : j_G) : Option (Int32 × j_G) :=
  j_b1 (f_X12_isPlayer l1 σ) fun v1 =>
  if v1 = 0 then (some ((-2 : Int32), σ)) else (j_b1 (if l2 = 0 then (some (f_X12_in (l3).toInt64 (1 : Int64) (9 : Int64))) else (if l2 = (1 : Int32) then (some (f_X12_in (l3).toInt64 (0 : Int64) (20 : Int64))) else (if l2 = (2 : Int32) then (some (f_X12_in (l3).toInt64 (0 : Int64) (99 : Int64))) else (if l2 = (3 : Int32) then (some (f_X12_in (l3).toInt64 (0 : Int64) (9 : Int64))) else (j_lt (some (0 : Int32)) fun (k3 : Option Int32) =>
  if l2 = (4 : Int32) then (j_b1 (f_X12_isHole (l3).toInt64 σ) fun v4 =>
  if ¬ v4 = 0 then (some (1 : Int32)) else (k3)) else (k3)))))) fun v2 =>
  if v2 = 0 then (some ((-2 : Int32), σ)) else (j_b1 (f_X12_of l1 l2 σ) fun v5 =>
  j_ix (((96 : Int32) + ((5 : Int32) * l1)) + l2) 116 (
  j_lt (j_si σ 76 ((((96 : Int32) + ((5 : Int32) * l1)) + l2)).toNatClampNeg l3) fun σ6 =>
  some (v5, σ6))))
theorem c_X12_train (l1 : Int32) (l2 : Int32) (l3 : Int32) (σ : j_G) : j_K false 2 341 [.ref 75, .int l1, .int l2, .int l3] σ (f_X12_train l1 l2 l3 σ) j_Ri := by
  refine j_mkK (M := M_cX12_train) (L := [some (.ref 75), some (.int l1), some (.int l2), some (.int l3), none, none]) (m := 2) t_341 rfl (j_rcvO j_a75 rfl) rfl (fun d hd τ => ?_)
  unfold f_X12_train
  refine j_aload_n (pc' := 1) rfl rfl rfl ?_
  refine j_iload_n (pc' := 2) rfl rfl rfl ?_
  refine j_callPi (pc' := 5) (ai := 205) (vs := [.ref 75, .int l1]) (rest := []) rfl rfl (fun _ _ => rfl) (c_X12_isPlayer l1 σ) (j_dd rfl hd) rfl (fun v1 => ?_)
  refine j_two (pT := 8) (pF := 11) (L1 := [some (.ref 75), some (.int l1), some (.int l2), some (.int l3), none, none]) (st1 := []) (fun o kT kF => ?_) (fun h15 => ?_) (fun h15 => ?_)
  · refine j_ifne (t := 11) (pc' := 8) rfl rfl rfl (fun h16 => ?_) (fun h16 => ?_)
    · exact kF h16
    · exact kT h16
  · refine j_bipush (pc' := 10) (x := (-2 : Int32)) rfl rfl rfl ?_
    exact j_ret rfl rfl rfl (fun _ h => h)
  · refine j_iload_n (pc' := 12) rfl rfl rfl ?_
    refine j_q1 (Φl := (fun r Q => j_Tr false τ M_cX12_train d 97 [some (.ref 75), some (.int l1), some (.int l2), some (.int l3), none, none] [.int r] σ Q)) ?_ (fun v2 => ?_)
    · refine j_two (pT := 15) (pF := 27) (L1 := [some (.ref 75), some (.int l1), some (.int l2), some (.int l3), none, none]) (st1 := []) (fun o kT kF => ?_) (fun h11 => ?_) (fun h11 => ?_)
      · refine j_ifne (t := 27) (pc' := 15) rfl rfl rfl (fun h12 => ?_) (fun h12 => ?_)
        · exact kF h12
        · exact kT h12
      · refine j_iload_n (pc' := 16) rfl rfl rfl ?_
        refine j_i2l (pc' := 17) rfl rfl ?_
        refine j_lconst (pc' := 18) (x := (1 : Int64)) rfl rfl rfl ?_
        refine j_ldc2_w (pc' := 21) (x := (9 : Int64)) rfl rfl rfl ?_
        refine j_callTi (pc' := 24) (ai := 196) (vs := [.long (l3).toInt64, .long (1 : Int64), .long (9 : Int64)]) (rest := []) rfl rfl (fun _ _ => rfl) (c_X12_in (l3).toInt64 (1 : Int64) (9 : Int64) σ) (j_dd rfl hd) rfl ?_
        refine j_goto (t := 97) rfl rfl ?_
        exact j_end (fun _ h => h)
      · refine j_iload_n (pc' := 28) rfl rfl rfl ?_
        refine j_iconst (pc' := 29) (x := (1 : Int32)) rfl rfl rfl ?_
        refine j_two (pT := 32) (pF := 44) (L1 := [some (.ref 75), some (.int l1), some (.int l2), some (.int l3), none, none]) (st1 := []) (fun o kT kF => ?_) (fun h9 => ?_) (fun h9 => ?_)
        · refine j_icne (t := 44) (pc' := 32) rfl rfl rfl (fun h10 => ?_) (fun h10 => ?_)
          · exact kF h10
          · exact kT h10
        · refine j_iload_n (pc' := 33) rfl rfl rfl ?_
          refine j_i2l (pc' := 34) rfl rfl ?_
          refine j_lconst (pc' := 35) (x := (0 : Int64)) rfl rfl rfl ?_
          refine j_ldc2_w (pc' := 38) (x := (20 : Int64)) rfl rfl rfl ?_
          refine j_callTi (pc' := 41) (ai := 196) (vs := [.long (l3).toInt64, .long (0 : Int64), .long (20 : Int64)]) (rest := []) rfl rfl (fun _ _ => rfl) (c_X12_in (l3).toInt64 (0 : Int64) (20 : Int64) σ) (j_dd rfl hd) rfl ?_
          refine j_goto (t := 97) rfl rfl ?_
          exact j_end (fun _ h => h)
        · refine j_iload_n (pc' := 45) rfl rfl rfl ?_
          refine j_iconst (pc' := 46) (x := (2 : Int32)) rfl rfl rfl ?_
          refine j_two (pT := 49) (pF := 61) (L1 := [some (.ref 75), some (.int l1), some (.int l2), some (.int l3), none, none]) (st1 := []) (fun o kT kF => ?_) (fun h7 => ?_) (fun h7 => ?_)
          · refine j_icne (t := 61) (pc' := 49) rfl rfl rfl (fun h8 => ?_) (fun h8 => ?_)
            · exact kF h8
            · exact kT h8
          · refine j_iload_n (pc' := 50) rfl rfl rfl ?_
            refine j_i2l (pc' := 51) rfl rfl ?_
            refine j_lconst (pc' := 52) (x := (0 : Int64)) rfl rfl rfl ?_
            refine j_ldc2_w (pc' := 55) (x := (99 : Int64)) rfl rfl rfl ?_
            refine j_callTi (pc' := 58) (ai := 196) (vs := [.long (l3).toInt64, .long (0 : Int64), .long (99 : Int64)]) (rest := []) rfl rfl (fun _ _ => rfl) (c_X12_in (l3).toInt64 (0 : Int64) (99 : Int64) σ) (j_dd rfl hd) rfl ?_
            refine j_goto (t := 97) rfl rfl ?_
            exact j_end (fun _ h => h)
          · refine j_iload_n (pc' := 62) rfl rfl rfl ?_
            refine j_iconst (pc' := 63) (x := (3 : Int32)) rfl rfl rfl ?_
            refine j_two (pT := 66) (pF := 78) (L1 := [some (.ref 75), some (.int l1), some (.int l2), some (.int l3), none, none]) (st1 := []) (fun o kT kF => ?_) (fun h5 => ?_) (fun h5 => ?_)
            · refine j_icne (t := 78) (pc' := 66) rfl rfl rfl (fun h6 => ?_) (fun h6 => ?_)
              · exact kF h6
              · exact kT h6
            · refine j_iload_n (pc' := 67) rfl rfl rfl ?_
              refine j_i2l (pc' := 68) rfl rfl ?_
              refine j_lconst (pc' := 69) (x := (0 : Int64)) rfl rfl rfl ?_
              refine j_ldc2_w (pc' := 72) (x := (9 : Int64)) rfl rfl rfl ?_
              refine j_callTi (pc' := 75) (ai := 196) (vs := [.long (l3).toInt64, .long (0 : Int64), .long (9 : Int64)]) (rest := []) rfl rfl (fun _ _ => rfl) (c_X12_in (l3).toInt64 (0 : Int64) (9 : Int64) σ) (j_dd rfl hd) rfl ?_
              refine j_goto (t := 97) rfl rfl ?_
              exact j_end (fun _ h => h)
            · refine j_iload_n (pc' := 79) rfl rfl rfl ?_
              refine j_iconst (pc' := 80) (x := (4 : Int32)) rfl rfl rfl ?_
              refine j_jn (P := (fun k => j_J false τ M_cX12_train d 96 [some (.ref 75), some (.int l1), some (.int l2), some (.int l3), none, none] [] σ (k ) (fun r Q => j_Tr false τ M_cX12_train d 97 [some (.ref 75), some (.int l1), some (.int l2), some (.int l3), none, none] [.int r] σ Q))) ?_ (fun k3 k3_h => ?_)
              · refine j_iconst (pc' := 97) (x := (0 : Int32)) rfl rfl rfl ?_
                exact j_end (fun _ h => h)
              · refine j_two (pT := 83) (pF := 96) (L1 := [some (.ref 75), some (.int l1), some (.int l2), some (.int l3), none, none]) (st1 := []) (fun o kT kF => ?_) (fun h3 => ?_) (fun h3 => ?_)
                · refine j_icne (t := 96) (pc' := 83) rfl rfl rfl (fun h4 => ?_) (fun h4 => ?_)
                  · exact kF h4
                  · exact kT h4
                · refine j_aload_n (pc' := 84) rfl rfl rfl ?_
                  refine j_iload_n (pc' := 85) rfl rfl rfl ?_
                  refine j_i2l (pc' := 86) rfl rfl ?_
                  refine j_callPi (pc' := 89) (ai := 201) (vs := [.ref 75, .long (l3).toInt64]) (rest := []) rfl rfl (fun _ _ => rfl) (c_X12_isHole (l3).toInt64 σ) (j_dd rfl hd) rfl (fun v4 => ?_)
                  refine j_two (pT := 92) (pF := 96) (L1 := [some (.ref 75), some (.int l1), some (.int l2), some (.int l3), none, none]) (st1 := []) (fun o kT kF => ?_) (fun h1 => ?_) (fun h1 => ?_)
                  · refine j_ifeq (t := 96) (pc' := 92) rfl rfl rfl (fun h2 => ?_) (fun h2 => ?_)
                    · exact kF (fun z => z h2)
                    · exact kT h2
                  · refine j_iconst (pc' := 93) (x := (1 : Int32)) rfl rfl rfl ?_
                    refine j_goto (t := 97) rfl rfl ?_
                    exact j_end (fun _ h => h)
                  · exact k3_h 
                · exact k3_h 
    show j_J false τ M_cX12_train d 97 [some (.ref 75), some (.int l1), some (.int l2), some (.int l3), none, none] [.int v2] σ _ _
    refine j_istore (pc' := 99) (L' := [some (.ref 75), some (.int l1), some (.int l2), some (.int l3), some (.int v2), none]) rfl rfl rfl ?_
    refine j_iload (pc' := 101) rfl rfl rfl ?_
    refine j_two (pT := 104) (pF := 107) (L1 := [some (.ref 75), some (.int l1), some (.int l2), some (.int l3), some (.int v2), none]) (st1 := []) (fun o kT kF => ?_) (fun h13 => ?_) (fun h13 => ?_)
    · refine j_ifne (t := 107) (pc' := 104) rfl rfl rfl (fun h14 => ?_) (fun h14 => ?_)
      · exact kF h14
      · exact kT h14
    · refine j_bipush (pc' := 106) (x := (-2 : Int32)) rfl rfl rfl ?_
      exact j_ret rfl rfl rfl (fun _ h => h)
    · refine j_aload_n (pc' := 108) rfl rfl rfl ?_
      refine j_iload_n (pc' := 109) rfl rfl rfl ?_
      refine j_iload_n (pc' := 110) rfl rfl rfl ?_
      refine j_callPi (pc' := 113) (ai := 207) (vs := [.ref 75, .int l1, .int l2]) (rest := []) rfl rfl (fun _ _ => rfl) (c_X12_of l1 l2 σ) (j_dd rfl hd) rfl (fun v5 => ?_)
      refine j_istore (pc' := 115) (L' := [some (.ref 75), some (.int l1), some (.int l2), some (.int l3), some (.int v2), some (.int v5)]) rfl rfl rfl ?_
      refine j_aload_n (pc' := 116) rfl rfl rfl ?_
      refine j_gfr (pc' := 119) (x := 76) rfl rfl j_a75 rfl rfl ?_
      refine j_bipush (pc' := 121) (x := (96 : Int32)) rfl rfl rfl ?_
      refine j_iconst (pc' := 122) (x := (5 : Int32)) rfl rfl rfl ?_
      refine j_iload_n (pc' := 123) rfl rfl rfl ?_
      refine j_imul (pc' := 124) rfl rfl ?_
      refine j_iadd (pc' := 125) rfl rfl ?_
      refine j_iload_n (pc' := 126) rfl rfl rfl ?_
      refine j_iadd (pc' := 127) rfl rfl ?_
      refine j_iload_n (pc' := 128) rfl rfl rfl ?_
      refine j_iast (pc' := 129) rfl rfl j_a76 (fun σ6 => ?_)
      refine j_iload (pc' := 131) rfl rfl rfl ?_
      exact j_ret rfl rfl rfl (fun _ h => h)

noncomputable def f_X11_isSeed (l0 : Int32) : Int32 :=
  if (¬ l0 < 0) ∧ (¬ (2000000000 : Int32) < l0) then ((1 : Int32)) else ((0 : Int32))

theorem b_X11_isSeed (l0 : Int32) : f_X11_isSeed l0 = 0 ∨ f_X11_isSeed l0 = 1 := by
  unfold f_X11_isSeed
  repeat' split
  all_goals first | exact Or.inl rfl | exact Or.inr rfl
theorem c_X11_isSeed (l0 : Int32) (σ : j_G) : j_K true 0 184 [.int l0] σ (some (f_X11_isSeed l0)) (j_Pi σ) := by
  refine j_mkK (M := M_cX11_isSeed) (L := [some (.int l0)]) (m := 0) t_184 rfl (j_rcvS rfl) rfl (fun d hd τ => ?_)
  unfold f_X11_isSeed
  refine j_iload_n (pc' := 1) rfl rfl rfl ?_
  refine j_twoT (pT := 11) (pF := 15) (L1 := [some (.int l0)]) (st1 := []) (fun o kT kF => ?_) (fun h1 => ?_) (fun h1 => ?_)
  · refine j_iflt (t := 15) (pc' := 4) rfl rfl rfl (fun h2 => ?_) (fun h2 => ?_)
    · exact kF (fun z => z.1 h2)
    · refine j_iload_n (pc' := 5) rfl rfl rfl ?_
      refine j_ldc_w (pc' := 8) (x := (2000000000 : Int32)) rfl rfl rfl ?_
      refine j_icgt (t := 15) (pc' := 11) rfl rfl rfl (fun h3 => ?_) (fun h3 => ?_)
      · exact kF (fun z => (fun z => z h3) z.2)
      · exact kT (⟨h2, h3⟩)
  · refine j_iconst (pc' := 12) (x := (1 : Int32)) rfl rfl rfl ?_
    refine j_goto (t := 16) rfl rfl ?_
    exact j_ret rfl rfl rfl (fun _ h => h)
  · refine j_iconst (pc' := 16) (x := (0 : Int32)) rfl rfl rfl ?_
    exact j_ret rfl rfl rfl (fun _ h => h)

noncomputable def p_X4_nthLet_6 (l1 : Int32) (l2 : Int32) (l3 : Int32) (l4 : Int32) (σ : j_G) : Nat → Int32 → Int32 → Option Int32
  | 0, _, _ => none
  | n + 1, l5, l6 =>
    if l6 < (f_X2_holes 1 σ) then (j_lt (fun (v3 : Int32) => (p_X4_nthLet_6 l1 l2 l3 l4 σ n v3 (l6 + (1 : Int32)))) fun (k1 : Int32 → Option Int32) =>
    if (f_X2_isShut 1 l6 σ) = 0 then (j_b1 (f_X2_lets l1 l2 l3 l6 σ) fun v2 =>
    if ¬ v2 = 0 then (if l5 = l4 then (some l6) else (k1 (l5 + (1 : Int32)))) else (k1 l5)) else (k1 l5)) else (some (-1 : Int32))

noncomputable def f_X4_nthLet (l1 : Int32) (l2 : Int32) (l3 : Int32) (l4 : Int32) (σ : j_G) : Option Int32 :=
  p_X4_nthLet_6 l1 l2 l3 l4 σ j_F (0 : Int32) (0 : Int32)
theorem l_X4_nthLet_6 {d : Nat} (hd : 2 ≤ d) (τ : j_G) (l1 : Int32) (l2 : Int32) (l3 : Int32) (l4 : Int32) (σ : j_G) : ∀ (n : Nat) (l5 : Int32) (l6 : Int32), j_J true τ M_cX4_nthLet d 6 [some (.ref 1), some (.int l1), some (.int l2), some (.int l3), some (.int l4), some (.int l5), some (.int l6)] [] σ (p_X4_nthLet_6 l1 l2 l3 l4 σ n l5 l6) (j_Pi σ) := by
  intro n
  induction n with
  | zero => intro l5 l6; exact j_none
  | succ n ih =>
    intro l5 l6
    unfold p_X4_nthLet_6
    refine j_iload (pc' := 8) rfl rfl rfl ?_
    refine j_aload_n (pc' := 9) rfl rfl rfl ?_
    refine j_callTi (pc' := 12) (ai := 12) (vs := [.ref 1]) (rest := [.int l6]) rfl rfl (fun _ _ => rfl) (c_X2_holes_1  σ) (j_dd rfl hd) rfl ?_
    refine j_two (pT := 15) (pF := 55) (L1 := [some (.ref 1), some (.int l1), some (.int l2), some (.int l3), some (.int l4), some (.int l5), some (.int l6)]) (st1 := []) (fun o kT kF => ?_) (fun h7 => ?_) (fun h7 => ?_)
    · refine j_icge (t := 55) (pc' := 15) rfl rfl rfl (fun h8 => ?_) (fun h8 => ?_)
      · exact kF h8
      · exact kT h8
    · refine j_aload_n (pc' := 16) rfl rfl rfl ?_
      refine j_iload (pc' := 18) rfl rfl rfl ?_
      refine j_callTi (pc' := 21) (ai := 16) (vs := [.ref 1, .int l6]) (rest := []) rfl rfl (fun _ _ => rfl) (c_X2_isShut_1 l6 σ) (j_dd rfl hd) rfl ?_
      refine j_jn (P := (fun k => ∀ (v3 : Int32), j_J true τ M_cX4_nthLet d 49 [some (.ref 1), some (.int l1), some (.int l2), some (.int l3), some (.int l4), some (.int v3), some (.int l6)] [] σ (k v3) (j_Pi σ))) ?_ (fun k1 k1_h => ?_)
      · intro v3
        refine j_iincx (pc' := 52) (y := (1 : Int32)) (L' := [some (.ref 1), some (.int l1), some (.int l2), some (.int l3), some (.int l4), some (.int v3), some (.int (l6 + (1 : Int32)))]) rfl rfl rfl rfl rfl ?_
        refine j_goto (t := 6) rfl rfl ?_
        exact ih v3 (l6 + (1 : Int32))
      · refine j_two (pT := 24) (pF := 49) (L1 := [some (.ref 1), some (.int l1), some (.int l2), some (.int l3), some (.int l4), some (.int l5), some (.int l6)]) (st1 := []) (fun o kT kF => ?_) (fun h5 => ?_) (fun h5 => ?_)
        · refine j_ifne (t := 49) (pc' := 24) rfl rfl rfl (fun h6 => ?_) (fun h6 => ?_)
          · exact kF h6
          · exact kT h6
        · refine j_aload_n (pc' := 25) rfl rfl rfl ?_
          refine j_iload_n (pc' := 26) rfl rfl rfl ?_
          refine j_iload_n (pc' := 27) rfl rfl rfl ?_
          refine j_iload_n (pc' := 28) rfl rfl rfl ?_
          refine j_iload (pc' := 30) rfl rfl rfl ?_
          refine j_callPi (pc' := 33) (ai := 27) (vs := [.ref 1, .int l1, .int l2, .int l3, .int l6]) (rest := []) rfl rfl (fun _ _ => rfl) (c_X2_lets l1 l2 l3 l6 σ) (j_dd rfl hd) rfl (fun v2 => ?_)
          refine j_two (pT := 36) (pF := 49) (L1 := [some (.ref 1), some (.int l1), some (.int l2), some (.int l3), some (.int l4), some (.int l5), some (.int l6)]) (st1 := []) (fun o kT kF => ?_) (fun h3 => ?_) (fun h3 => ?_)
          · refine j_ifeq (t := 49) (pc' := 36) rfl rfl rfl (fun h4 => ?_) (fun h4 => ?_)
            · exact kF (fun z => z h4)
            · exact kT h4
          · refine j_iload (pc' := 38) rfl rfl rfl ?_
            refine j_iload (pc' := 40) rfl rfl rfl ?_
            refine j_two (pT := 43) (pF := 46) (L1 := [some (.ref 1), some (.int l1), some (.int l2), some (.int l3), some (.int l4), some (.int l5), some (.int l6)]) (st1 := []) (fun o kT kF => ?_) (fun h1 => ?_) (fun h1 => ?_)
            · refine j_icne (t := 46) (pc' := 43) rfl rfl rfl (fun h2 => ?_) (fun h2 => ?_)
              · exact kF h2
              · exact kT h2
            · refine j_iload (pc' := 45) rfl rfl rfl ?_
              exact j_ret rfl rfl rfl (fun _ h => h)
            · refine j_iincx (pc' := 49) (y := (1 : Int32)) (L' := [some (.ref 1), some (.int l1), some (.int l2), some (.int l3), some (.int l4), some (.int (l5 + (1 : Int32))), some (.int l6)]) rfl rfl rfl rfl rfl ?_
              exact k1_h (l5 + (1 : Int32))
          · exact k1_h l5
        · exact k1_h l5
    · refine j_iconst (pc' := 56) (x := (-1 : Int32)) rfl rfl rfl ?_
      exact j_ret rfl rfl rfl (fun _ h => h)

theorem c_X4_nthLet (l1 : Int32) (l2 : Int32) (l3 : Int32) (l4 : Int32) (σ : j_G) : j_K true 2 44 [.ref 1, .int l1, .int l2, .int l3, .int l4] σ (f_X4_nthLet l1 l2 l3 l4 σ) (j_Pi σ) := by
  refine j_mkK (M := M_cX4_nthLet) (L := [some (.ref 1), some (.int l1), some (.int l2), some (.int l3), some (.int l4), none, none]) (m := 2) t_44 rfl (j_rcvS rfl) rfl (fun d hd τ => ?_)
  unfold f_X4_nthLet
  refine j_iconst (pc' := 1) (x := (0 : Int32)) rfl rfl rfl ?_
  refine j_istore (pc' := 3) (L' := [some (.ref 1), some (.int l1), some (.int l2), some (.int l3), some (.int l4), some (.int (0 : Int32)), none]) rfl rfl rfl ?_
  refine j_iconst (pc' := 4) (x := (0 : Int32)) rfl rfl rfl ?_
  refine j_istore (pc' := 6) (L' := [some (.ref 1), some (.int l1), some (.int l2), some (.int l3), some (.int l4), some (.int (0 : Int32)), some (.int (0 : Int32))]) rfl rfl rfl ?_
  exact (l_X4_nthLet_6 hd τ l1 l2 l3 l4 σ j_F (0 : Int32) (0 : Int32))

noncomputable def p_X4_draw_38 (l3 : Int32) (l4 : Int64) (l6 : Int32) (l7 : Int32) (l8 : Int32) (σ : j_G) : Nat → Int32 → Int32 → Option Int32
  | 0, _, _ => none
  | n + 1, l9, l10 =>
    if l10 < (f_X2_holes 1 σ) then (j_b1 (if (f_X2_isShut 1 l10 σ) = 0 then (j_b1 (f_X2_lets l3 l6 l7 l10 σ) fun v2 =>
    if ¬ v2 = 0 then (some (l9 + (1 : Int32))) else (some l9)) else (some l9)) fun v1 =>
    p_X4_draw_38 l3 l4 l6 l7 l8 σ n v1 (l10 + (1 : Int32))) else (some l9)

noncomputable def p_X4_draw_17 (l3 : Int32) : Nat → Int64 → Int32 → Int32 → Int32 → j_G → Option j_G
  | 0, _, _, _, _, _ => none
  | n + 1, l4, l6, l7, l8, σ =>
    if l8 < (60 : Int32) then (j_b1 (f_X4_hasRoom σ) fun v1 =>
    if ¬ v1 = 0 then (j_b1 (p_X4_draw_38 l3 l4 l6 l7 l8 σ j_F (0 : Int32) (0 : Int32)) fun v2 =>
    if v2 = 0 then (some σ) else (if (2147483648 : Int64) = 0 then none else (
    j_lt ((((1103515245 : Int64) * l4) + (12345 : Int64)) - (((1103515245 : Int64) * l4) + (12345 : Int64)) / (2147483648 : Int64) * (2147483648 : Int64)) fun v3 =>
    if (65536 : Int64) = 0 then none else (
    if (v2).toInt64 = 0 then none else (
    j_b1 (f_X4_nthLet l3 l6 l7 (((v3 / (65536 : Int64)) - (v3 / (65536 : Int64)) / (v2).toInt64 * (v2).toInt64)).toInt32 σ) fun v4 =>
    j_b1 (f_X4_add v4 (-1 : Int32) (0 : Int32) σ) fun σ5 =>
    p_X4_draw_17 l3 n v3 l7 v4 (l8 + (1 : Int32)) σ5))))) else (some σ)) else (some σ)

noncomputable def f_X4_draw (l2 : Int32) (l3 : Int32) (σ : j_G) : Option j_G :=
  j_b1 (f_X4_begin σ) fun σ1 =>
  j_lt (l2).toInt64 fun v2 =>
  p_X4_draw_17 l3 j_F v2 (-1 : Int32) (-1 : Int32) (0 : Int32) σ1
theorem l_X4_draw_38 {d : Nat} (hd : 3 ≤ d) (τ : j_G) (l3 : Int32) (l4 : Int64) (l6 : Int32) (l7 : Int32) (l8 : Int32) (σ : j_G) : ∀ (n : Nat) (l9 : Int32) (l10 : Int32), j_J true τ M_cX4_draw d 38 [some (.ref 22), some (.ref 1), none, some (.int l3), some (.long l4), none, some (.int l6), some (.int l7), some (.int l8), some (.int l9), some (.int l10)] [] σ (p_X4_draw_38 l3 l4 l6 l7 l8 σ n l9 l10) (fun r Q => j_Tr true τ M_cX4_draw d 79 [some (.ref 22), some (.ref 1), none, some (.int l3), some (.long l4), none, some (.int l6), some (.int l7), some (.int l8), some (.int r), none] [] σ Q) := by
  intro n
  induction n with
  | zero => intro l9 l10; exact j_none
  | succ n ih =>
    intro l9 l10
    unfold p_X4_draw_38
    refine j_iload (pc' := 40) rfl rfl rfl ?_
    refine j_aload_n (pc' := 41) rfl rfl rfl ?_
    refine j_callTi (pc' := 44) (ai := 12) (vs := [.ref 1]) (rest := [.int l10]) rfl rfl (fun _ _ => rfl) (c_X2_holes_1  σ) (j_dd rfl hd) rfl ?_
    refine j_two (pT := 47) (pF := 79) (L1 := [some (.ref 22), some (.ref 1), none, some (.int l3), some (.long l4), none, some (.int l6), some (.int l7), some (.int l8), some (.int l9), some (.int l10)]) (st1 := []) (fun o kT kF => ?_) (fun h5 => ?_) (fun h5 => ?_)
    · refine j_icge (t := 79) (pc' := 47) rfl rfl rfl (fun h6 => ?_) (fun h6 => ?_)
      · exact kF h6
      · exact kT h6
    · refine j_aload_n (pc' := 48) rfl rfl rfl ?_
      refine j_iload (pc' := 50) rfl rfl rfl ?_
      refine j_callTi (pc' := 53) (ai := 16) (vs := [.ref 1, .int l10]) (rest := []) rfl rfl (fun _ _ => rfl) (c_X2_isShut_1 l10 σ) (j_dd rfl hd) rfl ?_
      refine j_q1 (Φl := (fun r Q => j_Tr true τ M_cX4_draw d 73 [some (.ref 22), some (.ref 1), none, some (.int l3), some (.long l4), none, some (.int l6), some (.int l7), some (.int l8), some (.int r), some (.int l10)] [] σ Q)) ?_ (fun v1 => ?_)
      · refine j_two (pT := 56) (pF := 73) (L1 := [some (.ref 22), some (.ref 1), none, some (.int l3), some (.long l4), none, some (.int l6), some (.int l7), some (.int l8), some (.int l9), some (.int l10)]) (st1 := []) (fun o kT kF => ?_) (fun h3 => ?_) (fun h3 => ?_)
        · refine j_ifne (t := 73) (pc' := 56) rfl rfl rfl (fun h4 => ?_) (fun h4 => ?_)
          · exact kF h4
          · exact kT h4
        · refine j_aload_n (pc' := 57) rfl rfl rfl ?_
          refine j_iload_n (pc' := 58) rfl rfl rfl ?_
          refine j_iload (pc' := 60) rfl rfl rfl ?_
          refine j_iload (pc' := 62) rfl rfl rfl ?_
          refine j_iload (pc' := 64) rfl rfl rfl ?_
          refine j_callPi (pc' := 67) (ai := 27) (vs := [.ref 1, .int l3, .int l6, .int l7, .int l10]) (rest := []) rfl rfl (fun _ _ => rfl) (c_X2_lets l3 l6 l7 l10 σ) (j_dd rfl hd) rfl (fun v2 => ?_)
          refine j_two (pT := 70) (pF := 73) (L1 := [some (.ref 22), some (.ref 1), none, some (.int l3), some (.long l4), none, some (.int l6), some (.int l7), some (.int l8), some (.int l9), some (.int l10)]) (st1 := []) (fun o kT kF => ?_) (fun h1 => ?_) (fun h1 => ?_)
          · refine j_ifeq (t := 73) (pc' := 70) rfl rfl rfl (fun h2 => ?_) (fun h2 => ?_)
            · exact kF (fun z => z h2)
            · exact kT h2
          · refine j_iincx (pc' := 73) (y := (1 : Int32)) (L' := [some (.ref 22), some (.ref 1), none, some (.int l3), some (.long l4), none, some (.int l6), some (.int l7), some (.int l8), some (.int (l9 + (1 : Int32))), some (.int l10)]) rfl rfl rfl rfl rfl ?_
            exact j_end (fun _ h => h)
          · exact j_end (fun _ h => h)
        · exact j_end (fun _ h => h)
      show j_J true τ M_cX4_draw d 73 [some (.ref 22), some (.ref 1), none, some (.int l3), some (.long l4), none, some (.int l6), some (.int l7), some (.int l8), some (.int v1), some (.int l10)] [] σ _ _
      refine j_iincx (pc' := 76) (y := (1 : Int32)) (L' := [some (.ref 22), some (.ref 1), none, some (.int l3), some (.long l4), none, some (.int l6), some (.int l7), some (.int l8), some (.int v1), some (.int (l10 + (1 : Int32)))]) rfl rfl rfl rfl rfl ?_
      refine j_goto (t := 38) rfl rfl ?_
      exact ih v1 (l10 + (1 : Int32))
    · refine j_wk [true, true, true, true, true, true, true, true, true, true, false] (L' := [some (.ref 22), some (.ref 1), none, some (.int l3), some (.long l4), none, some (.int l6), some (.int l7), some (.int l8), some (.int l9), none]) rfl ?_
      exact j_end (fun _ h => h)

theorem l_X4_draw_17 {d : Nat} (hd : 3 ≤ d) (τ : j_G) (l3 : Int32) : ∀ (n : Nat) (l4 : Int64) (l6 : Int32) (l7 : Int32) (l8 : Int32) (σ : j_G), j_J true τ M_cX4_draw d 17 [some (.ref 22), some (.ref 1), none, some (.int l3), some (.long l4), none, some (.int l6), some (.int l7), some (.int l8), none, none] [] σ (p_X4_draw_17 l3 n l4 l6 l7 l8 σ) j_Rv := by
  intro n
  induction n with
  | zero => intro l4 l6 l7 l8 σ; exact j_none
  | succ n ih =>
    intro l4 l6 l7 l8 σ
    unfold p_X4_draw_17
    refine j_iload (pc' := 19) rfl rfl rfl ?_
    refine j_bipush (pc' := 21) (x := (60 : Int32)) rfl rfl rfl ?_
    refine j_two (pT := 24) (pF := 146) (L1 := [some (.ref 22), some (.ref 1), none, some (.int l3), some (.long l4), none, some (.int l6), some (.int l7), some (.int l8), none, none]) (st1 := []) (fun o kT kF => ?_) (fun h5 => ?_) (fun h5 => ?_)
    · refine j_icge (t := 146) (pc' := 24) rfl rfl rfl (fun h6 => ?_) (fun h6 => ?_)
      · exact kF h6
      · exact kT h6
    · refine j_aload_n (pc' := 25) rfl rfl rfl ?_
      refine j_aload_n (pc' := 26) rfl rfl rfl ?_
      refine j_callPi (pc' := 29) (ai := 46) (vs := [.ref 22, .ref 1]) (rest := []) rfl rfl (fun _ _ => rfl) (c_X4_hasRoom  σ) (j_dd rfl hd) rfl (fun v1 => ?_)
      refine j_two (pT := 32) (pF := 146) (L1 := [some (.ref 22), some (.ref 1), none, some (.int l3), some (.long l4), none, some (.int l6), some (.int l7), some (.int l8), none, none]) (st1 := []) (fun o kT kF => ?_) (fun h3 => ?_) (fun h3 => ?_)
      · refine j_ifeq (t := 146) (pc' := 32) rfl rfl rfl (fun h4 => ?_) (fun h4 => ?_)
        · exact kF (fun z => z h4)
        · exact kT h4
      · refine j_iconst (pc' := 33) (x := (0 : Int32)) rfl rfl rfl ?_
        refine j_istore (pc' := 35) (L' := [some (.ref 22), some (.ref 1), none, some (.int l3), some (.long l4), none, some (.int l6), some (.int l7), some (.int l8), some (.int (0 : Int32)), none]) rfl rfl rfl ?_
        refine j_iconst (pc' := 36) (x := (0 : Int32)) rfl rfl rfl ?_
        refine j_istore (pc' := 38) (L' := [some (.ref 22), some (.ref 1), none, some (.int l3), some (.long l4), none, some (.int l6), some (.int l7), some (.int l8), some (.int (0 : Int32)), some (.int (0 : Int32))]) rfl rfl rfl ?_
        refine j_q1 (l_X4_draw_38 hd τ l3 l4 l6 l7 l8 σ j_F (0 : Int32) (0 : Int32)) (fun v2 => ?_)
        show j_J true τ M_cX4_draw d 79 [some (.ref 22), some (.ref 1), none, some (.int l3), some (.long l4), none, some (.int l6), some (.int l7), some (.int l8), some (.int v2), none] [] σ _ _
        refine j_iload (pc' := 81) rfl rfl rfl ?_
        refine j_two (pT := 84) (pF := 85) (L1 := [some (.ref 22), some (.ref 1), none, some (.int l3), some (.long l4), none, some (.int l6), some (.int l7), some (.int l8), some (.int v2), none]) (st1 := []) (fun o kT kF => ?_) (fun h1 => ?_) (fun h1 => ?_)
        · refine j_ifne (t := 85) (pc' := 84) rfl rfl rfl (fun h2 => ?_) (fun h2 => ?_)
          · exact kF h2
          · exact kT h2
        · exact j_ret rfl rfl rfl (fun _ h => h)
        · refine j_ldc2_w (pc' := 88) (x := (1103515245 : Int64)) rfl rfl rfl ?_
          refine j_lload (pc' := 90) rfl rfl rfl ?_
          refine j_lmul (pc' := 91) rfl rfl ?_
          refine j_ldc2_w (pc' := 94) (x := (12345 : Int64)) rfl rfl rfl ?_
          refine j_ladd (pc' := 95) rfl rfl ?_
          refine j_ldc2_w (pc' := 98) (x := (2147483648 : Int64)) rfl rfl rfl ?_
          refine j_lrem (pc' := 99) rfl rfl ?_
          refine j_letl (fun v3 => ?_)
          refine j_lstore (pc' := 101) (L' := [some (.ref 22), some (.ref 1), none, some (.int l3), some (.long v3), none, some (.int l6), some (.int l7), some (.int l8), some (.int v2), none]) rfl rfl rfl ?_
          refine j_aload_n (pc' := 102) rfl rfl rfl ?_
          refine j_iload_n (pc' := 103) rfl rfl rfl ?_
          refine j_iload (pc' := 105) rfl rfl rfl ?_
          refine j_iload (pc' := 107) rfl rfl rfl ?_
          refine j_lload (pc' := 109) rfl rfl rfl ?_
          refine j_ldc2_w (pc' := 112) (x := (65536 : Int64)) rfl rfl rfl ?_
          refine j_ldiv (pc' := 113) rfl rfl ?_
          refine j_iload (pc' := 115) rfl rfl rfl ?_
          refine j_i2l (pc' := 116) rfl rfl ?_
          refine j_lrem (pc' := 117) rfl rfl ?_
          refine j_l2i (pc' := 118) rfl rfl ?_
          refine j_callPi (pc' := 121) (ai := 44) (vs := [.ref 1, .int l3, .int l6, .int l7, .int (((v3 / (65536 : Int64)) - (v3 / (65536 : Int64)) / (v2).toInt64 * (v2).toInt64)).toInt32]) (rest := []) rfl rfl (fun _ _ => rfl) (c_X4_nthLet l3 l6 l7 (((v3 / (65536 : Int64)) - (v3 / (65536 : Int64)) / (v2).toInt64 * (v2).toInt64)).toInt32 σ) (j_dd rfl hd) rfl (fun v4 => ?_)
          refine j_istore (pc' := 123) (L' := [some (.ref 22), some (.ref 1), none, some (.int l3), some (.long v3), none, some (.int l6), some (.int l7), some (.int l8), some (.int v2), some (.int v4)]) rfl rfl rfl ?_
          refine j_aload_n (pc' := 124) rfl rfl rfl ?_
          refine j_aload_n (pc' := 125) rfl rfl rfl ?_
          refine j_iload (pc' := 127) rfl rfl rfl ?_
          refine j_iconst (pc' := 128) (x := (-1 : Int32)) rfl rfl rfl ?_
          refine j_iconst (pc' := 129) (x := (0 : Int32)) rfl rfl rfl ?_
          refine j_callRv (pc' := 132) (ai := 47) (vs := [.ref 22, .ref 1, .int v4, .int (-1 : Int32), .int (0 : Int32)]) (rest := []) rfl rfl (fun _ _ => rfl) (c_X4_add v4 (-1 : Int32) (0 : Int32) σ) (j_dd rfl hd) rfl (fun σ5 => ?_)
          refine j_iload (pc' := 134) rfl rfl rfl ?_
          refine j_istore (pc' := 136) (L' := [some (.ref 22), some (.ref 1), none, some (.int l3), some (.long v3), none, some (.int l7), some (.int l7), some (.int l8), some (.int v2), some (.int v4)]) rfl rfl rfl ?_
          refine j_iload (pc' := 138) rfl rfl rfl ?_
          refine j_istore (pc' := 140) (L' := [some (.ref 22), some (.ref 1), none, some (.int l3), some (.long v3), none, some (.int l7), some (.int v4), some (.int l8), some (.int v2), some (.int v4)]) rfl rfl rfl ?_
          refine j_iincx (pc' := 143) (y := (1 : Int32)) (L' := [some (.ref 22), some (.ref 1), none, some (.int l3), some (.long v3), none, some (.int l7), some (.int v4), some (.int (l8 + (1 : Int32))), some (.int v2), some (.int v4)]) rfl rfl rfl rfl rfl ?_
          refine j_goto (t := 17) rfl rfl ?_
          refine j_wk [true, true, true, true, true, true, true, true, true, false, false] (L' := [some (.ref 22), some (.ref 1), none, some (.int l3), some (.long v3), none, some (.int l7), some (.int v4), some (.int (l8 + (1 : Int32))), none, none]) rfl ?_
          exact ih v3 l7 v4 (l8 + (1 : Int32)) σ5
      · exact j_ret rfl rfl rfl (fun _ h => h)
    · exact j_ret rfl rfl rfl (fun _ h => h)

theorem c_X4_draw (l2 : Int32) (l3 : Int32) (σ : j_G) : j_K true 3 43 [.ref 22, .ref 1, .int l2, .int l3] σ (f_X4_draw l2 l3 σ) j_Rv := by
  refine j_mkK (M := M_cX4_draw) (L := [some (.ref 22), some (.ref 1), some (.int l2), some (.int l3), none, none, none, none, none, none, none]) (m := 7) t_43 rfl (j_rcvO j_a22 rfl) rfl (fun d hd τ => ?_)
  unfold f_X4_draw
  refine j_aload_n (pc' := 1) rfl rfl rfl ?_
  refine j_callRv (pc' := 4) (ai := 45) (vs := [.ref 22]) (rest := []) rfl rfl (fun _ _ => rfl) (c_X4_begin  σ) (j_dd rfl hd) rfl (fun σ1 => ?_)
  refine j_iload_n (pc' := 5) rfl rfl rfl ?_
  refine j_i2l (pc' := 6) rfl rfl ?_
  refine j_letl (fun v2 => ?_)
  refine j_lstore (pc' := 8) (L' := [some (.ref 22), some (.ref 1), some (.int l2), some (.int l3), some (.long v2), none, none, none, none, none, none]) rfl rfl rfl ?_
  refine j_iconst (pc' := 9) (x := (-1 : Int32)) rfl rfl rfl ?_
  refine j_istore (pc' := 11) (L' := [some (.ref 22), some (.ref 1), some (.int l2), some (.int l3), some (.long v2), none, some (.int (-1 : Int32)), none, none, none, none]) rfl rfl rfl ?_
  refine j_iconst (pc' := 12) (x := (-1 : Int32)) rfl rfl rfl ?_
  refine j_istore (pc' := 14) (L' := [some (.ref 22), some (.ref 1), some (.int l2), some (.int l3), some (.long v2), none, some (.int (-1 : Int32)), some (.int (-1 : Int32)), none, none, none]) rfl rfl rfl ?_
  refine j_iconst (pc' := 15) (x := (0 : Int32)) rfl rfl rfl ?_
  refine j_istore (pc' := 17) (L' := [some (.ref 22), some (.ref 1), some (.int l2), some (.int l3), some (.long v2), none, some (.int (-1 : Int32)), some (.int (-1 : Int32)), some (.int (0 : Int32)), none, none]) rfl rfl rfl ?_
  refine j_wk [true, true, false, true, true, true, true, true, true, true, true] (L' := [some (.ref 22), some (.ref 1), none, some (.int l3), some (.long v2), none, some (.int (-1 : Int32)), some (.int (-1 : Int32)), some (.int (0 : Int32)), none, none]) rfl ?_
  exact (l_X4_draw_17 hd τ l3 j_F v2 (-1 : Int32) (-1 : Int32) (0 : Int32) σ1)

noncomputable def f_X11_drawn (l1 : Int32) (l2 : Int32) (l3 : Int32) (σ : j_G) : Option (Int32 × j_G) :=
  if ((f_X2_isTold σ) = 0) ∨ (((f_X11_isSeed l1) = 0) ∨ ((f_X11_isLaw l2) = 0)) then (some ((-2 : Int32), σ)) else (j_b1 (f_X4_draw l1 l2 σ) fun σ1 =>
  if ¬ (f_X4_has l3 σ1) = 0 then (j_ix l3 60 (
  some ((σ1.1 23 (l3).toNatClampNeg), σ1))) else (some ((-1 : Int32), σ1)))
theorem c_X11_drawn (l1 : Int32) (l2 : Int32) (l3 : Int32) (σ : j_G) : j_K true 4 174 [.ref 0, .int l1, .int l2, .int l3] σ (f_X11_drawn l1 l2 l3 σ) j_Ri := by
  refine j_mkK (M := M_cX11_drawn) (L := [some (.ref 0), some (.int l1), some (.int l2), some (.int l3)]) (m := 0) t_174 rfl (j_rcvO j_a0 rfl) rfl (fun d hd τ => ?_)
  unfold f_X11_drawn
  refine j_aload_n (pc' := 1) rfl rfl rfl ?_
  refine j_gfr (pc' := 4) (x := 1) rfl rfl j_a0 rfl rfl ?_
  refine j_callTi (pc' := 7) (ai := 11) (vs := [.ref 1]) (rest := []) rfl rfl (fun _ _ => rfl) (c_X2_isTold  σ) (j_dd rfl hd) rfl ?_
  refine j_two (pT := 24) (pF := 27) (L1 := [some (.ref 0), some (.int l1), some (.int l2), some (.int l3)]) (st1 := []) (fun o kT kF => ?_) (fun h3 => ?_) (fun h3 => ?_)
  · refine j_ifeq (t := 24) (pc' := 10) rfl rfl rfl (fun h4 => ?_) (fun h4 => ?_)
    · exact kT (Or.inl h4)
    · refine j_iload_n (pc' := 11) rfl rfl rfl ?_
      refine j_callTi (pc' := 14) (ai := 184) (vs := [.int l1]) (rest := []) rfl rfl (fun _ _ => rfl) (c_X11_isSeed l1 σ) (j_dd rfl hd) rfl ?_
      refine j_ifeq (t := 24) (pc' := 17) rfl rfl rfl (fun h5 => ?_) (fun h5 => ?_)
      · exact kT (Or.inr (Or.inl h5))
      · refine j_iload_n (pc' := 18) rfl rfl rfl ?_
        refine j_callTi (pc' := 21) (ai := 183) (vs := [.int l2]) (rest := []) rfl rfl (fun _ _ => rfl) (c_X11_isLaw l2 σ) (j_dd rfl hd) rfl ?_
        refine j_ifne (t := 27) (pc' := 24) rfl rfl rfl (fun h6 => ?_) (fun h6 => ?_)
        · exact kF (fun z => z.elim h4 (fun z => z.elim h5 (h6)))
        · exact kT (Or.inr (Or.inr (h6)))
  · refine j_bipush (pc' := 26) (x := (-2 : Int32)) rfl rfl rfl ?_
    exact j_ret rfl rfl rfl (fun _ h => h)
  · refine j_aload_n (pc' := 28) rfl rfl rfl ?_
    refine j_gfr (pc' := 31) (x := 22) rfl rfl j_a0 rfl rfl ?_
    refine j_aload_n (pc' := 32) rfl rfl rfl ?_
    refine j_gfr (pc' := 35) (x := 1) rfl rfl j_a0 rfl rfl ?_
    refine j_iload_n (pc' := 36) rfl rfl rfl ?_
    refine j_iload_n (pc' := 37) rfl rfl rfl ?_
    refine j_callRv (pc' := 40) (ai := 43) (vs := [.ref 22, .ref 1, .int l1, .int l2]) (rest := []) rfl rfl (fun _ _ => rfl) (c_X4_draw l1 l2 σ) (j_dd rfl hd) rfl (fun σ1 => ?_)
    refine j_aload_n (pc' := 41) rfl rfl rfl ?_
    refine j_gfr (pc' := 44) (x := 22) rfl rfl j_a0 rfl rfl ?_
    refine j_iload_n (pc' := 45) rfl rfl rfl ?_
    refine j_callTi (pc' := 48) (ai := 41) (vs := [.ref 22, .int l3]) (rest := []) rfl rfl (fun _ _ => rfl) (c_X4_has l3 σ1) (j_dd rfl hd) rfl ?_
    refine j_two (pT := 51) (pF := 63) (L1 := [some (.ref 0), some (.int l1), some (.int l2), some (.int l3)]) (st1 := []) (fun o kT kF => ?_) (fun h1 => ?_) (fun h1 => ?_)
    · refine j_ifeq (t := 63) (pc' := 51) rfl rfl rfl (fun h2 => ?_) (fun h2 => ?_)
      · exact kF (fun z => z h2)
      · exact kT h2
    · refine j_aload_n (pc' := 52) rfl rfl rfl ?_
      refine j_gfr (pc' := 55) (x := 22) rfl rfl j_a0 rfl rfl ?_
      refine j_gfr (pc' := 58) (x := 23) rfl rfl j_a22 rfl rfl ?_
      refine j_iload_n (pc' := 59) rfl rfl rfl ?_
      refine j_iald (pc' := 60) rfl rfl j_a23 ?_
      refine j_goto (t := 64) rfl rfl ?_
      exact j_ret rfl rfl rfl (fun _ h => h)
    · refine j_iconst (pc' := 64) (x := (-1 : Int32)) rfl rfl rfl ?_
      exact j_ret rfl rfl rfl (fun _ h => h)

noncomputable def f_X12_isSeed (l0 : Int32) : Int32 :=
  (f_X12_in (l0).toInt64 (0 : Int64) (2000000000 : Int64))

theorem b_X12_isSeed (l0 : Int32) : f_X12_isSeed l0 = 0 ∨ f_X12_isSeed l0 = 1 := by
  unfold f_X12_isSeed
  exact (b_X12_in (l0).toInt64 (0 : Int64) (2000000000 : Int64))
theorem c_X12_isSeed (l0 : Int32) (σ : j_G) : j_K false 1 345 [.int l0] σ (some (f_X12_isSeed l0)) (j_Pi σ) := by
  refine j_mkK (M := M_cX12_isSeed) (L := [some (.int l0)]) (m := 0) t_345 rfl (j_rcvS rfl) rfl (fun d hd τ => ?_)
  unfold f_X12_isSeed
  refine j_iload_n (pc' := 1) rfl rfl rfl ?_
  refine j_i2l (pc' := 2) rfl rfl ?_
  refine j_lconst (pc' := 3) (x := (0 : Int64)) rfl rfl rfl ?_
  refine j_ldc2_w (pc' := 6) (x := (2000000000 : Int64)) rfl rfl rfl ?_
  refine j_callTi (pc' := 9) (ai := 196) (vs := [.long (l0).toInt64, .long (0 : Int64), .long (2000000000 : Int64)]) (rest := []) rfl rfl (fun _ _ => rfl) (c_X12_in (l0).toInt64 (0 : Int64) (2000000000 : Int64) σ) (j_dd rfl hd) rfl ?_
  exact j_retb rfl rfl (b_X12_in (l0).toInt64 (0 : Int64) (2000000000 : Int64)) (fun _ h => h)

noncomputable def f_X12_draw (l1 : Int32) (σ : j_G) : Option (Int32 × j_G) :=
  if (2147483648 : Int64) = 0 then none else (
  j_lt (j_sl σ 75 42 ((((1103515245 : Int64) * (σ.2 75 42)) + (12345 : Int64)) - (((1103515245 : Int64) * (σ.2 75 42)) + (12345 : Int64)) / (2147483648 : Int64) * (2147483648 : Int64))) fun σ1 =>
  if (65536 : Int64) = 0 then none else (
  if (l1).toInt64 = 0 then none else (
  some (((((σ1.2 75 42) / (65536 : Int64)) - ((σ1.2 75 42) / (65536 : Int64)) / (l1).toInt64 * (l1).toInt64)).toInt32, σ1))))
theorem c_X12_draw (l1 : Int32) (σ : j_G) : j_K false 0 342 [.ref 75, .int l1] σ (f_X12_draw l1 σ) j_Ri := by
  refine j_mkK (M := M_cX12_draw) (L := [some (.ref 75), some (.int l1)]) (m := 0) t_342 rfl (j_rcvO j_a75 rfl) rfl (fun d hd τ => ?_)
  unfold f_X12_draw
  refine j_aload_n (pc' := 1) rfl rfl rfl ?_
  refine j_ldc2_w (pc' := 4) (x := (1103515245 : Int64)) rfl rfl rfl ?_
  refine j_aload_n (pc' := 5) rfl rfl rfl ?_
  refine j_gfl (pc' := 8) rfl rfl j_a75 rfl ?_
  refine j_lmul (pc' := 9) rfl rfl ?_
  refine j_ldc2_w (pc' := 12) (x := (12345 : Int64)) rfl rfl rfl ?_
  refine j_ladd (pc' := 13) rfl rfl ?_
  refine j_ldc2_w (pc' := 16) (x := (2147483648 : Int64)) rfl rfl rfl ?_
  refine j_lrem (pc' := 17) rfl rfl ?_
  refine j_pfl (pc' := 20) rfl rfl j_a75 rfl rfl (fun σ1 => ?_)
  refine j_aload_n (pc' := 21) rfl rfl rfl ?_
  refine j_gfl (pc' := 24) rfl rfl j_a75 rfl ?_
  refine j_ldc2_w (pc' := 27) (x := (65536 : Int64)) rfl rfl rfl ?_
  refine j_ldiv (pc' := 28) rfl rfl ?_
  refine j_iload_n (pc' := 29) rfl rfl rfl ?_
  refine j_i2l (pc' := 30) rfl rfl ?_
  refine j_lrem (pc' := 31) rfl rfl ?_
  refine j_l2i (pc' := 32) rfl rfl ?_
  exact j_ret rfl rfl rfl (fun _ h => h)

noncomputable def p_X12_holeByLot_54 (l1 : Int32) (l2 : Int32) (l3 : Int32) (σ : j_G) : Nat → Int32 → Int32 → Option Int32
  | 0, _, _ => none
  | n + 1, l4, l5 =>
    j_b1 (f_X12_holes σ) fun v1 =>
    if l5 < v1 then (j_b1 (f_X12_lets l1 l5 l2 l3 σ) fun v2 =>
    j_lt (if ¬ v2 = 0 then ((1 : Int32)) else ((0 : Int32))) fun v3 =>
    j_lt (l4 + v3) fun v4 =>
    p_X12_holeByLot_54 l1 l2 l3 σ n v4 (l5 + (1 : Int32))) else (some l4)

noncomputable def p_X12_holeByLot_109 (l1 : Int32) (l2 : Int32) (l3 : Int32) (σ : j_G) : Nat → Int32 → Int32 → Option (Int32 × j_G)
  | 0, _, _ => none
  | n + 1, l5, l6 =>
    j_b1 (f_X12_holes σ) fun v1 =>
    if l6 < v1 then (j_b1 (f_X12_lets l1 l6 l2 l3 σ) fun v2 =>
    j_lt (fun (v4 : Int32) => (p_X12_holeByLot_109 l1 l2 l3 σ n v4 (l6 + (1 : Int32)))) fun (k3 : Int32 → Option (Int32 × j_G)) =>
    if v2 = 0 then (k3 l5) else (if l5 = 0 then (some (l6, σ)) else (k3 (l5 + (-1 : Int32))))) else (some ((-1 : Int32), σ))

noncomputable def f_X12_holeByLot (l1 : Int32) (σ : j_G) : Option (Int32 × j_G) :=
  j_b1 (if (σ.1 75 18) < (1 : Int32) then (some (-1 : Int32)) else (j_b1 (f_X12_inGame ((σ.1 75 18) - (1 : Int32)) (0 : Int32) σ) fun v2 =>
  some v2)) fun v1 =>
  j_b1 (if (σ.1 75 18) < (2 : Int32) then (some (-1 : Int32)) else (j_b1 (f_X12_inGame ((σ.1 75 18) - (2 : Int32)) (0 : Int32) σ) fun v4 =>
  some v4)) fun v3 =>
  j_b1 (p_X12_holeByLot_54 l1 v1 v3 σ j_F (0 : Int32) (0 : Int32)) fun v5 =>
  if v5 = 0 then (some ((-1 : Int32), σ)) else (j_b2 (f_X12_draw v5 σ) fun v7 σ6 =>
  p_X12_holeByLot_109 l1 v1 v3 σ6 j_F v7 (0 : Int32))
theorem l_X12_holeByLot_54 {d : Nat} (hd : 2 ≤ d) (τ : j_G) (l1 : Int32) (l2 : Int32) (l3 : Int32) (σ : j_G) : ∀ (n : Nat) (l4 : Int32) (l5 : Int32), j_J false τ M_cX12_holeByLot d 54 [some (.ref 75), some (.int l1), some (.int l2), some (.int l3), some (.int l4), some (.int l5), none] [] σ (p_X12_holeByLot_54 l1 l2 l3 σ n l4 l5) (fun r Q => j_Tr false τ M_cX12_holeByLot d 91 [some (.ref 75), some (.int l1), some (.int l2), some (.int l3), some (.int r), none, none] [] σ Q) := by
  intro n
  induction n with
  | zero => intro l4 l5; exact j_none
  | succ n ih =>
    intro l4 l5
    unfold p_X12_holeByLot_54
    refine j_iload (pc' := 56) rfl rfl rfl ?_
    refine j_aload_n (pc' := 57) rfl rfl rfl ?_
    refine j_callPi (pc' := 60) (ai := 200) (vs := [.ref 75]) (rest := [.int l5]) rfl rfl (fun _ _ => rfl) (c_X12_holes  σ) (j_dd rfl hd) rfl (fun v1 => ?_)
    refine j_two (pT := 63) (pF := 91) (L1 := [some (.ref 75), some (.int l1), some (.int l2), some (.int l3), some (.int l4), some (.int l5), none]) (st1 := []) (fun o kT kF => ?_) (fun h3 => ?_) (fun h3 => ?_)
    · refine j_icge (t := 91) (pc' := 63) rfl rfl rfl (fun h4 => ?_) (fun h4 => ?_)
      · exact kF h4
      · exact kT h4
    · refine j_iload (pc' := 65) rfl rfl rfl ?_
      refine j_aload_n (pc' := 66) rfl rfl rfl ?_
      refine j_iload_n (pc' := 67) rfl rfl rfl ?_
      refine j_iload (pc' := 69) rfl rfl rfl ?_
      refine j_iload_n (pc' := 70) rfl rfl rfl ?_
      refine j_iload_n (pc' := 71) rfl rfl rfl ?_
      refine j_callPi (pc' := 74) (ai := 290) (vs := [.ref 75, .int l1, .int l5, .int l2, .int l3]) (rest := [.int l4]) rfl rfl (fun _ _ => rfl) (c_X12_lets l1 l5 l2 l3 σ) (j_dd rfl hd) rfl (fun v2 => ?_)
      refine j_ql (Φl := (fun r Q => j_Tr false τ M_cX12_holeByLot d 82 [some (.ref 75), some (.int l1), some (.int l2), some (.int l3), none, some (.int l5), none] [.int r, .int l4] σ Q)) ?_ (fun v3 => ?_)
      · refine j_twoT (pT := 77) (pF := 81) (L1 := [some (.ref 75), some (.int l1), some (.int l2), some (.int l3), some (.int l4), some (.int l5), none]) (st1 := [.int l4]) (fun o kT kF => ?_) (fun h1 => ?_) (fun h1 => ?_)
        · refine j_ifeq (t := 81) (pc' := 77) rfl rfl rfl (fun h2 => ?_) (fun h2 => ?_)
          · exact kF (fun z => z h2)
          · exact kT h2
        · refine j_iconst (pc' := 78) (x := (1 : Int32)) rfl rfl rfl ?_
          refine j_goto (t := 82) rfl rfl ?_
          refine j_wk [true, true, true, true, false, true, true] (L' := [some (.ref 75), some (.int l1), some (.int l2), some (.int l3), none, some (.int l5), none]) rfl ?_
          exact j_end (fun _ h => h)
        · refine j_iconst (pc' := 82) (x := (0 : Int32)) rfl rfl rfl ?_
          refine j_wk [true, true, true, true, false, true, true] (L' := [some (.ref 75), some (.int l1), some (.int l2), some (.int l3), none, some (.int l5), none]) rfl ?_
          exact j_end (fun _ h => h)
      show j_J false τ M_cX12_holeByLot d 82 [some (.ref 75), some (.int l1), some (.int l2), some (.int l3), none, some (.int l5), none] [.int v3, .int l4] σ _ _
      refine j_iadd (pc' := 83) rfl rfl ?_
      refine j_leti (fun v4 => ?_)
      refine j_istore (pc' := 85) (L' := [some (.ref 75), some (.int l1), some (.int l2), some (.int l3), some (.int v4), some (.int l5), none]) rfl rfl rfl ?_
      refine j_iincx (pc' := 88) (y := (1 : Int32)) (L' := [some (.ref 75), some (.int l1), some (.int l2), some (.int l3), some (.int v4), some (.int (l5 + (1 : Int32))), none]) rfl rfl rfl rfl rfl ?_
      refine j_goto (t := 54) rfl rfl ?_
      exact ih v4 (l5 + (1 : Int32))
    · refine j_wk [true, true, true, true, true, false, true] (L' := [some (.ref 75), some (.int l1), some (.int l2), some (.int l3), some (.int l4), none, none]) rfl ?_
      exact j_end (fun _ h => h)

theorem l_X12_holeByLot_109 {d : Nat} (hd : 2 ≤ d) (τ : j_G) (l1 : Int32) (l2 : Int32) (l3 : Int32) (σ : j_G) : ∀ (n : Nat) (l5 : Int32) (l6 : Int32), j_J false τ M_cX12_holeByLot d 109 [some (.ref 75), some (.int l1), some (.int l2), some (.int l3), none, some (.int l5), some (.int l6)] [] σ (p_X12_holeByLot_109 l1 l2 l3 σ n l5 l6) j_Ri := by
  intro n
  induction n with
  | zero => intro l5 l6; exact j_none
  | succ n ih =>
    intro l5 l6
    unfold p_X12_holeByLot_109
    refine j_iload (pc' := 111) rfl rfl rfl ?_
    refine j_aload_n (pc' := 112) rfl rfl rfl ?_
    refine j_callPi (pc' := 115) (ai := 200) (vs := [.ref 75]) (rest := [.int l6]) rfl rfl (fun _ _ => rfl) (c_X12_holes  σ) (j_dd rfl hd) rfl (fun v1 => ?_)
    refine j_two (pT := 118) (pF := 150) (L1 := [some (.ref 75), some (.int l1), some (.int l2), some (.int l3), none, some (.int l5), some (.int l6)]) (st1 := []) (fun o kT kF => ?_) (fun h5 => ?_) (fun h5 => ?_)
    · refine j_icge (t := 150) (pc' := 118) rfl rfl rfl (fun h6 => ?_) (fun h6 => ?_)
      · exact kF h6
      · exact kT h6
    · refine j_aload_n (pc' := 119) rfl rfl rfl ?_
      refine j_iload_n (pc' := 120) rfl rfl rfl ?_
      refine j_iload (pc' := 122) rfl rfl rfl ?_
      refine j_iload_n (pc' := 123) rfl rfl rfl ?_
      refine j_iload_n (pc' := 124) rfl rfl rfl ?_
      refine j_callPi (pc' := 127) (ai := 290) (vs := [.ref 75, .int l1, .int l6, .int l2, .int l3]) (rest := []) rfl rfl (fun _ _ => rfl) (c_X12_lets l1 l6 l2 l3 σ) (j_dd rfl hd) rfl (fun v2 => ?_)
      refine j_jn (P := (fun k => ∀ (v4 : Int32), j_J false τ M_cX12_holeByLot d 144 [some (.ref 75), some (.int l1), some (.int l2), some (.int l3), none, some (.int v4), some (.int l6)] [] σ (k v4) j_Ri)) ?_ (fun k3 k3_h => ?_)
      · intro v4
        refine j_iincx (pc' := 147) (y := (1 : Int32)) (L' := [some (.ref 75), some (.int l1), some (.int l2), some (.int l3), none, some (.int v4), some (.int (l6 + (1 : Int32)))]) rfl rfl rfl rfl rfl ?_
        refine j_goto (t := 109) rfl rfl ?_
        exact ih v4 (l6 + (1 : Int32))
      · refine j_two (pT := 130) (pF := 133) (L1 := [some (.ref 75), some (.int l1), some (.int l2), some (.int l3), none, some (.int l5), some (.int l6)]) (st1 := []) (fun o kT kF => ?_) (fun h3 => ?_) (fun h3 => ?_)
        · refine j_ifne (t := 133) (pc' := 130) rfl rfl rfl (fun h4 => ?_) (fun h4 => ?_)
          · exact kF h4
          · exact kT h4
        · refine j_goto (t := 144) rfl rfl ?_
          exact k3_h l5
        · refine j_iload (pc' := 135) rfl rfl rfl ?_
          refine j_two (pT := 138) (pF := 141) (L1 := [some (.ref 75), some (.int l1), some (.int l2), some (.int l3), none, some (.int l5), some (.int l6)]) (st1 := []) (fun o kT kF => ?_) (fun h1 => ?_) (fun h1 => ?_)
          · refine j_ifne (t := 141) (pc' := 138) rfl rfl rfl (fun h2 => ?_) (fun h2 => ?_)
            · exact kF h2
            · exact kT h2
          · refine j_iload (pc' := 140) rfl rfl rfl ?_
            exact j_ret rfl rfl rfl (fun _ h => h)
          · refine j_iincx (pc' := 144) (y := (-1 : Int32)) (L' := [some (.ref 75), some (.int l1), some (.int l2), some (.int l3), none, some (.int (l5 + (-1 : Int32))), some (.int l6)]) rfl rfl rfl rfl rfl ?_
            exact k3_h (l5 + (-1 : Int32))
    · refine j_iconst (pc' := 151) (x := (-1 : Int32)) rfl rfl rfl ?_
      exact j_ret rfl rfl rfl (fun _ h => h)

theorem c_X12_holeByLot (l1 : Int32) (σ : j_G) : j_K false 2 343 [.ref 75, .int l1] σ (f_X12_holeByLot l1 σ) j_Ri := by
  refine j_mkK (M := M_cX12_holeByLot) (L := [some (.ref 75), some (.int l1), none, none, none, none, none]) (m := 5) t_343 rfl (j_rcvO j_a75 rfl) rfl (fun d hd τ => ?_)
  unfold f_X12_holeByLot
  refine j_aload_n (pc' := 1) rfl rfl rfl ?_
  refine j_gfi (pc' := 4) rfl rfl j_a75 rfl ?_
  refine j_iconst (pc' := 5) (x := (1 : Int32)) rfl rfl rfl ?_
  refine j_q1 (Φl := (fun r Q => j_Tr false τ M_cX12_holeByLot d 23 [some (.ref 75), some (.int l1), none, none, none, none, none] [.int r] σ Q)) ?_ (fun v1 => ?_)
  · refine j_two (pT := 8) (pF := 12) (L1 := [some (.ref 75), some (.int l1), none, none, none, none, none]) (st1 := []) (fun o kT kF => ?_) (fun h1 => ?_) (fun h1 => ?_)
    · refine j_icge (t := 12) (pc' := 8) rfl rfl rfl (fun h2 => ?_) (fun h2 => ?_)
      · exact kF h2
      · exact kT h2
    · refine j_iconst (pc' := 9) (x := (-1 : Int32)) rfl rfl rfl ?_
      refine j_goto (t := 23) rfl rfl ?_
      exact j_end (fun _ h => h)
    · refine j_aload_n (pc' := 13) rfl rfl rfl ?_
      refine j_aload_n (pc' := 14) rfl rfl rfl ?_
      refine j_gfi (pc' := 17) rfl rfl j_a75 rfl ?_
      refine j_iconst (pc' := 18) (x := (1 : Int32)) rfl rfl rfl ?_
      refine j_isub (pc' := 19) rfl rfl ?_
      refine j_iconst (pc' := 20) (x := (0 : Int32)) rfl rfl rfl ?_
      refine j_callPi (pc' := 23) (ai := 238) (vs := [.ref 75, .int ((σ.1 75 18) - (1 : Int32)), .int (0 : Int32)]) (rest := []) rfl rfl (fun _ _ => rfl) (c_X12_inGame ((σ.1 75 18) - (1 : Int32)) (0 : Int32) σ) (j_dd rfl hd) rfl (fun v2 => ?_)
      exact j_end (fun _ h => h)
  show j_J false τ M_cX12_holeByLot d 23 [some (.ref 75), some (.int l1), none, none, none, none, none] [.int v1] σ _ _
  refine j_istore_n (pc' := 24) (L' := [some (.ref 75), some (.int l1), some (.int v1), none, none, none, none]) rfl rfl rfl ?_
  refine j_aload_n (pc' := 25) rfl rfl rfl ?_
  refine j_gfi (pc' := 28) rfl rfl j_a75 rfl ?_
  refine j_iconst (pc' := 29) (x := (2 : Int32)) rfl rfl rfl ?_
  refine j_q1 (Φl := (fun r Q => j_Tr false τ M_cX12_holeByLot d 47 [some (.ref 75), some (.int l1), some (.int v1), none, none, none, none] [.int r] σ Q)) ?_ (fun v3 => ?_)
  · refine j_two (pT := 32) (pF := 36) (L1 := [some (.ref 75), some (.int l1), some (.int v1), none, none, none, none]) (st1 := []) (fun o kT kF => ?_) (fun h3 => ?_) (fun h3 => ?_)
    · refine j_icge (t := 36) (pc' := 32) rfl rfl rfl (fun h4 => ?_) (fun h4 => ?_)
      · exact kF h4
      · exact kT h4
    · refine j_iconst (pc' := 33) (x := (-1 : Int32)) rfl rfl rfl ?_
      refine j_goto (t := 47) rfl rfl ?_
      exact j_end (fun _ h => h)
    · refine j_aload_n (pc' := 37) rfl rfl rfl ?_
      refine j_aload_n (pc' := 38) rfl rfl rfl ?_
      refine j_gfi (pc' := 41) rfl rfl j_a75 rfl ?_
      refine j_iconst (pc' := 42) (x := (2 : Int32)) rfl rfl rfl ?_
      refine j_isub (pc' := 43) rfl rfl ?_
      refine j_iconst (pc' := 44) (x := (0 : Int32)) rfl rfl rfl ?_
      refine j_callPi (pc' := 47) (ai := 238) (vs := [.ref 75, .int ((σ.1 75 18) - (2 : Int32)), .int (0 : Int32)]) (rest := []) rfl rfl (fun _ _ => rfl) (c_X12_inGame ((σ.1 75 18) - (2 : Int32)) (0 : Int32) σ) (j_dd rfl hd) rfl (fun v4 => ?_)
      exact j_end (fun _ h => h)
  show j_J false τ M_cX12_holeByLot d 47 [some (.ref 75), some (.int l1), some (.int v1), none, none, none, none] [.int v3] σ _ _
  refine j_istore_n (pc' := 48) (L' := [some (.ref 75), some (.int l1), some (.int v1), some (.int v3), none, none, none]) rfl rfl rfl ?_
  refine j_iconst (pc' := 49) (x := (0 : Int32)) rfl rfl rfl ?_
  refine j_istore (pc' := 51) (L' := [some (.ref 75), some (.int l1), some (.int v1), some (.int v3), some (.int (0 : Int32)), none, none]) rfl rfl rfl ?_
  refine j_iconst (pc' := 52) (x := (0 : Int32)) rfl rfl rfl ?_
  refine j_istore (pc' := 54) (L' := [some (.ref 75), some (.int l1), some (.int v1), some (.int v3), some (.int (0 : Int32)), some (.int (0 : Int32)), none]) rfl rfl rfl ?_
  refine j_q1 (l_X12_holeByLot_54 hd τ l1 v1 v3 σ j_F (0 : Int32) (0 : Int32)) (fun v5 => ?_)
  show j_J false τ M_cX12_holeByLot d 91 [some (.ref 75), some (.int l1), some (.int v1), some (.int v3), some (.int v5), none, none] [] σ _ _
  refine j_iload (pc' := 93) rfl rfl rfl ?_
  refine j_two (pT := 96) (pF := 98) (L1 := [some (.ref 75), some (.int l1), some (.int v1), some (.int v3), some (.int v5), none, none]) (st1 := []) (fun o kT kF => ?_) (fun h5 => ?_) (fun h5 => ?_)
  · refine j_ifne (t := 98) (pc' := 96) rfl rfl rfl (fun h6 => ?_) (fun h6 => ?_)
    · exact kF h6
    · exact kT h6
  · refine j_iconst (pc' := 97) (x := (-1 : Int32)) rfl rfl rfl ?_
    exact j_ret rfl rfl rfl (fun _ h => h)
  · refine j_aload_n (pc' := 99) rfl rfl rfl ?_
    refine j_iload (pc' := 101) rfl rfl rfl ?_
    refine j_callRi (pc' := 104) (ai := 342) (vs := [.ref 75, .int v5]) (rest := []) rfl rfl (fun _ _ => rfl) (c_X12_draw v5 σ) (j_dd rfl hd) rfl (fun v7 σ6 => ?_)
    refine j_istore (pc' := 106) (L' := [some (.ref 75), some (.int l1), some (.int v1), some (.int v3), some (.int v5), some (.int v7), none]) rfl rfl rfl ?_
    refine j_iconst (pc' := 107) (x := (0 : Int32)) rfl rfl rfl ?_
    refine j_istore (pc' := 109) (L' := [some (.ref 75), some (.int l1), some (.int v1), some (.int v3), some (.int v5), some (.int v7), some (.int (0 : Int32))]) rfl rfl rfl ?_
    refine j_wk [true, true, true, true, false, true, true] (L' := [some (.ref 75), some (.int l1), some (.int v1), some (.int v3), none, some (.int v7), some (.int (0 : Int32))]) rfl ?_
    exact (l_X12_holeByLot_109 hd τ l1 v1 v3 σ6 j_F v7 (0 : Int32))

noncomputable def p_X12_layNight_10 (l3 : Int32) : Nat → j_G → Option j_G
  | 0, _ => none
  | n + 1, σ =>
    j_b1 (f_X12_mayCome σ) fun v1 =>
    if ¬ v1 = 0 then (j_b2 (f_X12_holeByLot l3 σ) fun v3 σ2 =>
    if v3 = (-1 : Int32) then (some σ2) else (j_b1 (f_X12_come v3 (-1 : Int32) (0 : Int32) σ2) fun σ4 =>
    p_X12_layNight_10 l3 n σ4)) else (some σ)

noncomputable def f_X12_layNight (l1 : Int64) (l3 : Int32) (σ : j_G) : Option j_G :=
  j_lt (j_sl σ 75 42 l1) fun σ1 =>
  j_lt (j_si σ1 75 18 (0 : Int32)) fun σ2 =>
  p_X12_layNight_10 l3 j_F σ2
theorem l_X12_layNight_10 {d : Nat} (hd : 3 ≤ d) (τ : j_G) (l3 : Int32) : ∀ (n : Nat) (σ : j_G), j_J false τ M_cX12_layNight d 10 [some (.ref 75), none, none, some (.int l3), none] [] σ (p_X12_layNight_10 l3 n σ) j_Rv := by
  intro n
  induction n with
  | zero => intro σ; exact j_none
  | succ n ih =>
    intro σ
    unfold p_X12_layNight_10
    refine j_aload_n (pc' := 11) rfl rfl rfl ?_
    refine j_callPi (pc' := 14) (ai := 235) (vs := [.ref 75]) (rest := []) rfl rfl (fun _ _ => rfl) (c_X12_mayCome  σ) (j_dd rfl hd) rfl (fun v1 => ?_)
    refine j_two (pT := 17) (pF := 42) (L1 := [some (.ref 75), none, none, some (.int l3), none]) (st1 := []) (fun o kT kF => ?_) (fun h3 => ?_) (fun h3 => ?_)
    · refine j_ifeq (t := 42) (pc' := 17) rfl rfl rfl (fun h4 => ?_) (fun h4 => ?_)
      · exact kF (fun z => z h4)
      · exact kT h4
    · refine j_aload_n (pc' := 18) rfl rfl rfl ?_
      refine j_iload_n (pc' := 19) rfl rfl rfl ?_
      refine j_callRi (pc' := 22) (ai := 343) (vs := [.ref 75, .int l3]) (rest := []) rfl rfl (fun _ _ => rfl) (c_X12_holeByLot l3 σ) (j_dd rfl hd) rfl (fun v3 σ2 => ?_)
      refine j_istore (pc' := 24) (L' := [some (.ref 75), none, none, some (.int l3), some (.int v3)]) rfl rfl rfl ?_
      refine j_iload (pc' := 26) rfl rfl rfl ?_
      refine j_iconst (pc' := 27) (x := (-1 : Int32)) rfl rfl rfl ?_
      refine j_two (pT := 30) (pF := 31) (L1 := [some (.ref 75), none, none, some (.int l3), some (.int v3)]) (st1 := []) (fun o kT kF => ?_) (fun h1 => ?_) (fun h1 => ?_)
      · refine j_icne (t := 31) (pc' := 30) rfl rfl rfl (fun h2 => ?_) (fun h2 => ?_)
        · exact kF h2
        · exact kT h2
      · exact j_ret rfl rfl rfl (fun _ h => h)
      · refine j_aload_n (pc' := 32) rfl rfl rfl ?_
        refine j_iload (pc' := 34) rfl rfl rfl ?_
        refine j_iconst (pc' := 35) (x := (-1 : Int32)) rfl rfl rfl ?_
        refine j_iconst (pc' := 36) (x := (0 : Int32)) rfl rfl rfl ?_
        refine j_callRv (pc' := 39) (ai := 236) (vs := [.ref 75, .int v3, .int (-1 : Int32), .int (0 : Int32)]) (rest := []) rfl rfl (fun _ _ => rfl) (c_X12_come v3 (-1 : Int32) (0 : Int32) σ2) (j_dd rfl hd) rfl (fun σ4 => ?_)
        refine j_goto (t := 10) rfl rfl ?_
        refine j_wk [true, true, true, true, false] (L' := [some (.ref 75), none, none, some (.int l3), none]) rfl ?_
        exact ih σ4
    · exact j_ret rfl rfl rfl (fun _ h => h)

theorem c_X12_layNight (l1 : Int64) (l3 : Int32) (σ : j_G) : j_K false 3 344 [.ref 75, .long l1, .int l3] σ (f_X12_layNight l1 l3 σ) j_Rv := by
  refine j_mkK (M := M_cX12_layNight) (L := [some (.ref 75), some (.long l1), none, some (.int l3), none]) (m := 1) t_344 rfl (j_rcvO j_a75 rfl) rfl (fun d hd τ => ?_)
  unfold f_X12_layNight
  refine j_aload_n (pc' := 1) rfl rfl rfl ?_
  refine j_lload_n (pc' := 2) rfl rfl rfl ?_
  refine j_pfl (pc' := 5) rfl rfl j_a75 rfl rfl (fun σ1 => ?_)
  refine j_aload_n (pc' := 6) rfl rfl rfl ?_
  refine j_iconst (pc' := 7) (x := (0 : Int32)) rfl rfl rfl ?_
  refine j_pfi (pc' := 10) rfl rfl j_a75 rfl rfl (fun σ2 => ?_)
  refine j_wk [true, false, true, true, true] (L' := [some (.ref 75), none, none, some (.int l3), none]) rfl ?_
  exact (l_X12_layNight_10 hd τ l3 j_F σ2)

noncomputable def f_X12_drawn (l1 : Int32) (l2 : Int32) (l3 : Int32) (σ : j_G) : Option (Int32 × j_G) :=
  j_b1 (f_X12_isBoard σ) fun v1 =>
  if (v1 = 0) ∨ (((f_X12_isSeed l1) = 0) ∨ ((f_X12_isLaw l2) = 0)) then (some ((-2 : Int32), σ)) else (j_b1 (f_X12_layNight (l1).toInt64 l2 σ) fun σ2 =>
  if ¬ (f_X12_isInGame l3 σ2) = 0 then (j_b1 (f_X12_inGame l3 (0 : Int32) σ2) fun v3 =>
  some (v3, σ2)) else (some ((-1 : Int32), σ2)))
theorem c_X12_drawn (l1 : Int32) (l2 : Int32) (l3 : Int32) (σ : j_G) : j_K false 4 346 [.ref 75, .int l1, .int l2, .int l3] σ (f_X12_drawn l1 l2 l3 σ) j_Ri := by
  refine j_mkK (M := M_cX12_drawn) (L := [some (.ref 75), some (.int l1), some (.int l2), some (.int l3)]) (m := 0) t_346 rfl (j_rcvO j_a75 rfl) rfl (fun d hd τ => ?_)
  unfold f_X12_drawn
  refine j_aload_n (pc' := 1) rfl rfl rfl ?_
  refine j_callPi (pc' := 4) (ai := 199) (vs := [.ref 75]) (rest := []) rfl rfl (fun _ _ => rfl) (c_X12_isBoard  σ) (j_dd rfl hd) rfl (fun v1 => ?_)
  refine j_two (pT := 21) (pF := 24) (L1 := [some (.ref 75), some (.int l1), some (.int l2), some (.int l3)]) (st1 := []) (fun o kT kF => ?_) (fun h3 => ?_) (fun h3 => ?_)
  · refine j_ifeq (t := 21) (pc' := 7) rfl rfl rfl (fun h4 => ?_) (fun h4 => ?_)
    · exact kT (Or.inl h4)
    · refine j_iload_n (pc' := 8) rfl rfl rfl ?_
      refine j_callTi (pc' := 11) (ai := 345) (vs := [.int l1]) (rest := []) rfl rfl (fun _ _ => rfl) (c_X12_isSeed l1 σ) (j_dd rfl hd) rfl ?_
      refine j_ifeq (t := 21) (pc' := 14) rfl rfl rfl (fun h5 => ?_) (fun h5 => ?_)
      · exact kT (Or.inr (Or.inl h5))
      · refine j_iload_n (pc' := 15) rfl rfl rfl ?_
        refine j_callTi (pc' := 18) (ai := 289) (vs := [.int l2]) (rest := []) rfl rfl (fun _ _ => rfl) (c_X12_isLaw l2 σ) (j_dd rfl hd) rfl ?_
        refine j_ifne (t := 24) (pc' := 21) rfl rfl rfl (fun h6 => ?_) (fun h6 => ?_)
        · exact kF (fun z => z.elim h4 (fun z => z.elim h5 (h6)))
        · exact kT (Or.inr (Or.inr (h6)))
  · refine j_bipush (pc' := 23) (x := (-2 : Int32)) rfl rfl rfl ?_
    exact j_ret rfl rfl rfl (fun _ h => h)
  · refine j_aload_n (pc' := 25) rfl rfl rfl ?_
    refine j_iload_n (pc' := 26) rfl rfl rfl ?_
    refine j_i2l (pc' := 27) rfl rfl ?_
    refine j_iload_n (pc' := 28) rfl rfl rfl ?_
    refine j_callRv (pc' := 31) (ai := 344) (vs := [.ref 75, .long (l1).toInt64, .int l2]) (rest := []) rfl rfl (fun _ _ => rfl) (c_X12_layNight (l1).toInt64 l2 σ) (j_dd rfl hd) rfl (fun σ2 => ?_)
    refine j_aload_n (pc' := 32) rfl rfl rfl ?_
    refine j_iload_n (pc' := 33) rfl rfl rfl ?_
    refine j_callTi (pc' := 36) (ai := 243) (vs := [.ref 75, .int l3]) (rest := []) rfl rfl (fun _ _ => rfl) (c_X12_isInGame l3 σ2) (j_dd rfl hd) rfl ?_
    refine j_two (pT := 39) (pF := 48) (L1 := [some (.ref 75), some (.int l1), some (.int l2), some (.int l3)]) (st1 := []) (fun o kT kF => ?_) (fun h1 => ?_) (fun h1 => ?_)
    · refine j_ifeq (t := 48) (pc' := 39) rfl rfl rfl (fun h2 => ?_) (fun h2 => ?_)
      · exact kF (fun z => z h2)
      · exact kT h2
    · refine j_aload_n (pc' := 40) rfl rfl rfl ?_
      refine j_iload_n (pc' := 41) rfl rfl rfl ?_
      refine j_iconst (pc' := 42) (x := (0 : Int32)) rfl rfl rfl ?_
      refine j_callPi (pc' := 45) (ai := 238) (vs := [.ref 75, .int l3, .int (0 : Int32)]) (rest := []) rfl rfl (fun _ _ => rfl) (c_X12_inGame l3 (0 : Int32) σ2) (j_dd rfl hd) rfl (fun v3 => ?_)
      refine j_goto (t := 49) rfl rfl ?_
      exact j_ret rfl rfl rfl (fun _ h => h)
    · refine j_iconst (pc' := 49) (x := (-1 : Int32)) rfl rfl rfl ?_
      exact j_ret rfl rfl rfl (fun _ h => h)

noncomputable def p_X11_years_59 (l1 : Int32) (l2 : Int32) (l3 : Int32) : Nat → Int32 → Int32 → j_G → Option (Int32 × j_G)
  | 0, _, _, _ => none
  | n + 1, l5, l6, σ =>
    if l6 < l2 then (j_b1 (f_X4_draw (l1 + l6) l3 σ) fun σ1 =>
    j_b2 (f_X9_good 30 28 22 31 32 25 23 24 26 33 34 (-1 : Int32) σ1) fun v3 σ2 =>
    j_lt (l5 + v3) fun v4 =>
    p_X11_years_59 l1 l2 l3 n v4 (l6 + (1 : Int32)) σ2) else (some (l5, σ))

noncomputable def f_X11_years (l1 : Int32) (l2 : Int32) (l3 : Int32) (l4 : Int32) (σ : j_G) : Option (Int32 × j_G) :=
  if ((f_X11_isSeed l1) = 0) ∨ ((l2 < (1 : Int32)) ∨ (((20 : Int32) < l2) ∨ (((f_X11_isLaw l3) = 0) ∨ ((f_X2_isPlayer l4 σ) = 0)))) then (some ((-2 : Int32), σ)) else (j_b1 (f_X6_take 28 l4 σ) fun σ1 =>
  j_b2 (p_X11_years_59 l1 l2 l3 j_F (0 : Int32) (0 : Int32) σ1) fun v2 σ3 =>
  some (v2, σ3))
theorem l_X11_years_59 {d : Nat} (hd : 5 ≤ d) (τ : j_G) (l1 : Int32) (l2 : Int32) (l3 : Int32) : ∀ (n : Nat) (l5 : Int32) (l6 : Int32) (σ : j_G), j_J true τ M_cX11_years d 59 [some (.ref 0), some (.int l1), some (.int l2), some (.int l3), none, some (.int l5), some (.int l6)] [] σ (p_X11_years_59 l1 l2 l3 n l5 l6 σ) (fun r Q => j_Tr true τ M_cX11_years d 112 [none, none, none, none, none, some (.int r.1), none] [] r.2 Q) := by
  intro n
  induction n with
  | zero => intro l5 l6 σ; exact j_none
  | succ n ih =>
    intro l5 l6 σ
    unfold p_X11_years_59
    refine j_iload (pc' := 61) rfl rfl rfl ?_
    refine j_iload_n (pc' := 62) rfl rfl rfl ?_
    refine j_two (pT := 65) (pF := 112) (L1 := [some (.ref 0), some (.int l1), some (.int l2), some (.int l3), none, some (.int l5), some (.int l6)]) (st1 := []) (fun o kT kF => ?_) (fun h1 => ?_) (fun h1 => ?_)
    · refine j_icge (t := 112) (pc' := 65) rfl rfl rfl (fun h2 => ?_) (fun h2 => ?_)
      · exact kF h2
      · exact kT h2
    · refine j_aload_n (pc' := 66) rfl rfl rfl ?_
      refine j_gfr (pc' := 69) (x := 22) rfl rfl j_a0 rfl rfl ?_
      refine j_aload_n (pc' := 70) rfl rfl rfl ?_
      refine j_gfr (pc' := 73) (x := 1) rfl rfl j_a0 rfl rfl ?_
      refine j_iload_n (pc' := 74) rfl rfl rfl ?_
      refine j_iload (pc' := 76) rfl rfl rfl ?_
      refine j_iadd (pc' := 77) rfl rfl ?_
      refine j_iload_n (pc' := 78) rfl rfl rfl ?_
      refine j_callRv (pc' := 81) (ai := 43) (vs := [.ref 22, .ref 1, .int (l1 + l6), .int l3]) (rest := []) rfl rfl (fun _ _ => rfl) (c_X4_draw (l1 + l6) l3 σ) (j_dd rfl hd) rfl (fun σ1 => ?_)
      refine j_iload (pc' := 83) rfl rfl rfl ?_
      refine j_aload_n (pc' := 84) rfl rfl rfl ?_
      refine j_gfr (pc' := 87) (x := 30) rfl rfl j_a0 rfl rfl ?_
      refine j_aload_n (pc' := 88) rfl rfl rfl ?_
      refine j_gfr (pc' := 91) (x := 1) rfl rfl j_a0 rfl rfl ?_
      refine j_aload_n (pc' := 92) rfl rfl rfl ?_
      refine j_gfr (pc' := 95) (x := 22) rfl rfl j_a0 rfl rfl ?_
      refine j_aload_n (pc' := 96) rfl rfl rfl ?_
      refine j_gfr (pc' := 99) (x := 28) rfl rfl j_a0 rfl rfl ?_
      refine j_iconst (pc' := 100) (x := (-1 : Int32)) rfl rfl rfl ?_
      refine j_callRi (pc' := 103) (ai := 100) (vs := [.ref 30, .ref 1, .ref 22, .ref 28, .int (-1 : Int32)]) (rest := [.int l5]) rfl rfl (fun _ _ => rfl) (c_X9_good_30_1_22_28 (-1 : Int32) σ1) (j_dd rfl hd) rfl (fun v3 σ2 => ?_)
      refine j_iadd (pc' := 104) rfl rfl ?_
      refine j_leti (fun v4 => ?_)
      refine j_istore (pc' := 106) (L' := [some (.ref 0), some (.int l1), some (.int l2), some (.int l3), none, some (.int v4), some (.int l6)]) rfl rfl rfl ?_
      refine j_iincx (pc' := 109) (y := (1 : Int32)) (L' := [some (.ref 0), some (.int l1), some (.int l2), some (.int l3), none, some (.int v4), some (.int (l6 + (1 : Int32)))]) rfl rfl rfl rfl rfl ?_
      refine j_goto (t := 59) rfl rfl ?_
      exact ih v4 (l6 + (1 : Int32)) σ2
    · refine j_wk [false, false, false, false, true, true, false] (L' := [none, none, none, none, none, some (.int l5), none]) rfl ?_
      exact j_end (fun _ h => h)

theorem c_X11_years (l1 : Int32) (l2 : Int32) (l3 : Int32) (l4 : Int32) (σ : j_G) : j_K true 5 176 [.ref 0, .int l1, .int l2, .int l3, .int l4] σ (f_X11_years l1 l2 l3 l4 σ) j_Ri := by
  refine j_mkK (M := M_cX11_years) (L := [some (.ref 0), some (.int l1), some (.int l2), some (.int l3), some (.int l4), none, none]) (m := 2) t_176 rfl (j_rcvO j_a0 rfl) rfl (fun d hd τ => ?_)
  unfold f_X11_years
  refine j_iload_n (pc' := 1) rfl rfl rfl ?_
  refine j_callTi (pc' := 4) (ai := 184) (vs := [.int l1]) (rest := []) rfl rfl (fun _ _ => rfl) (c_X11_isSeed l1 σ) (j_dd rfl hd) rfl ?_
  refine j_two (pT := 37) (pF := 40) (L1 := [some (.ref 0), some (.int l1), some (.int l2), some (.int l3), some (.int l4), none, none]) (st1 := []) (fun o kT kF => ?_) (fun h1 => ?_) (fun h1 => ?_)
  · refine j_ifeq (t := 37) (pc' := 7) rfl rfl rfl (fun h2 => ?_) (fun h2 => ?_)
    · exact kT (Or.inl h2)
    · refine j_iload_n (pc' := 8) rfl rfl rfl ?_
      refine j_iconst (pc' := 9) (x := (1 : Int32)) rfl rfl rfl ?_
      refine j_iclt (t := 37) (pc' := 12) rfl rfl rfl (fun h3 => ?_) (fun h3 => ?_)
      · exact kT (Or.inr (Or.inl h3))
      · refine j_iload_n (pc' := 13) rfl rfl rfl ?_
        refine j_bipush (pc' := 15) (x := (20 : Int32)) rfl rfl rfl ?_
        refine j_icgt (t := 37) (pc' := 18) rfl rfl rfl (fun h4 => ?_) (fun h4 => ?_)
        · exact kT (Or.inr (Or.inr (Or.inl h4)))
        · refine j_iload_n (pc' := 19) rfl rfl rfl ?_
          refine j_callTi (pc' := 22) (ai := 183) (vs := [.int l3]) (rest := []) rfl rfl (fun _ _ => rfl) (c_X11_isLaw l3 σ) (j_dd rfl hd) rfl ?_
          refine j_ifeq (t := 37) (pc' := 25) rfl rfl rfl (fun h5 => ?_) (fun h5 => ?_)
          · exact kT (Or.inr (Or.inr (Or.inr (Or.inl h5))))
          · refine j_aload_n (pc' := 26) rfl rfl rfl ?_
            refine j_gfr (pc' := 29) (x := 1) rfl rfl j_a0 rfl rfl ?_
            refine j_iload (pc' := 31) rfl rfl rfl ?_
            refine j_callTi (pc' := 34) (ai := 15) (vs := [.ref 1, .int l4]) (rest := []) rfl rfl (fun _ _ => rfl) (c_X2_isPlayer l4 σ) (j_dd rfl hd) rfl ?_
            refine j_ifne (t := 40) (pc' := 37) rfl rfl rfl (fun h6 => ?_) (fun h6 => ?_)
            · exact kF (fun z => z.elim h2 (fun z => z.elim h3 (fun z => z.elim h4 (fun z => z.elim h5 (h6)))))
            · exact kT (Or.inr (Or.inr (Or.inr (Or.inr (h6)))))
  · refine j_bipush (pc' := 39) (x := (-2 : Int32)) rfl rfl rfl ?_
    exact j_ret rfl rfl rfl (fun _ h => h)
  · refine j_aload_n (pc' := 41) rfl rfl rfl ?_
    refine j_gfr (pc' := 44) (x := 28) rfl rfl j_a0 rfl rfl ?_
    refine j_aload_n (pc' := 45) rfl rfl rfl ?_
    refine j_gfr (pc' := 48) (x := 1) rfl rfl j_a0 rfl rfl ?_
    refine j_iload (pc' := 50) rfl rfl rfl ?_
    refine j_callRv (pc' := 53) (ai := 64) (vs := [.ref 28, .ref 1, .int l4]) (rest := []) rfl rfl (fun _ _ => rfl) (c_X6_take_28_1 l4 σ) (j_dd rfl hd) rfl (fun σ1 => ?_)
    refine j_iconst (pc' := 54) (x := (0 : Int32)) rfl rfl rfl ?_
    refine j_istore (pc' := 56) (L' := [some (.ref 0), some (.int l1), some (.int l2), some (.int l3), some (.int l4), some (.int (0 : Int32)), none]) rfl rfl rfl ?_
    refine j_iconst (pc' := 57) (x := (0 : Int32)) rfl rfl rfl ?_
    refine j_istore (pc' := 59) (L' := [some (.ref 0), some (.int l1), some (.int l2), some (.int l3), some (.int l4), some (.int (0 : Int32)), some (.int (0 : Int32))]) rfl rfl rfl ?_
    refine j_wk [true, true, true, true, false, true, true] (L' := [some (.ref 0), some (.int l1), some (.int l2), some (.int l3), none, some (.int (0 : Int32)), some (.int (0 : Int32))]) rfl ?_
    refine j_q2 (l_X11_years_59 hd τ l1 l2 l3 j_F (0 : Int32) (0 : Int32) σ1) (fun v2 σ3 => ?_)
    show j_J true τ M_cX11_years d 112 [none, none, none, none, none, some (.int v2), none] [] σ3 _ _
    refine j_iload (pc' := 114) rfl rfl rfl ?_
    exact j_ret rfl rfl rfl (fun _ h => h)

noncomputable def f_X11_night (l1 : Int32) (l2 : Int32) (l3 : Int32) (σ : j_G) : Option (Int32 × j_G) :=
  j_b2 (f_X11_years l1 (1 : Int32) l2 l3 σ) fun v2 σ1 =>
  some (v2, σ1)
theorem c_X11_night (l1 : Int32) (l2 : Int32) (l3 : Int32) (σ : j_G) : j_K true 6 175 [.ref 0, .int l1, .int l2, .int l3] σ (f_X11_night l1 l2 l3 σ) j_Ri := by
  refine j_mkK (M := M_cX11_night) (L := [some (.ref 0), some (.int l1), some (.int l2), some (.int l3)]) (m := 0) t_175 rfl (j_rcvO j_a0 rfl) rfl (fun d hd τ => ?_)
  unfold f_X11_night
  refine j_aload_n (pc' := 1) rfl rfl rfl ?_
  refine j_iload_n (pc' := 2) rfl rfl rfl ?_
  refine j_iconst (pc' := 3) (x := (1 : Int32)) rfl rfl rfl ?_
  refine j_iload_n (pc' := 4) rfl rfl rfl ?_
  refine j_iload_n (pc' := 5) rfl rfl rfl ?_
  refine j_callRi (pc' := 8) (ai := 176) (vs := [.ref 0, .int l1, .int (1 : Int32), .int l2, .int l3]) (rest := []) rfl rfl (fun _ _ => rfl) (c_X11_years l1 (1 : Int32) l2 l3 σ) (j_dd rfl hd) rfl (fun v2 σ1 => ?_)
  exact j_ret rfl rfl rfl (fun _ h => h)

noncomputable def f_X12_nightOf (l1 : Int64) (l3 : Int32) (l4 : Int32) (σ : j_G) : Option (Int32 × j_G) :=
  j_b1 (f_X12_layNight l1 l3 σ) fun σ1 =>
  j_b1 (f_X12_asTold l4 σ1) fun σ2 =>
  j_b1 (f_X12_run σ2) fun σ3 =>
  some ((σ3.1 75 29), σ3)
theorem c_X12_nightOf (l1 : Int64) (l3 : Int32) (l4 : Int32) (σ : j_G) : j_K false 5 347 [.ref 75, .long l1, .int l3, .int l4] σ (f_X12_nightOf l1 l3 l4 σ) j_Ri := by
  refine j_mkK (M := M_cX12_nightOf) (L := [some (.ref 75), some (.long l1), none, some (.int l3), some (.int l4)]) (m := 0) t_347 rfl (j_rcvO j_a75 rfl) rfl (fun d hd τ => ?_)
  unfold f_X12_nightOf
  refine j_aload_n (pc' := 1) rfl rfl rfl ?_
  refine j_lload_n (pc' := 2) rfl rfl rfl ?_
  refine j_iload_n (pc' := 3) rfl rfl rfl ?_
  refine j_callRv (pc' := 6) (ai := 344) (vs := [.ref 75, .long l1, .int l3]) (rest := []) rfl rfl (fun _ _ => rfl) (c_X12_layNight l1 l3 σ) (j_dd rfl hd) rfl (fun σ1 => ?_)
  refine j_aload_n (pc' := 7) rfl rfl rfl ?_
  refine j_iload (pc' := 9) rfl rfl rfl ?_
  refine j_callRv (pc' := 12) (ai := 252) (vs := [.ref 75, .int l4]) (rest := []) rfl rfl (fun _ _ => rfl) (c_X12_asTold l4 σ1) (j_dd rfl hd) rfl (fun σ2 => ?_)
  refine j_aload_n (pc' := 13) rfl rfl rfl ?_
  refine j_callRv (pc' := 16) (ai := 258) (vs := [.ref 75]) (rest := []) rfl rfl (fun _ _ => rfl) (c_X12_run  σ2) (j_dd rfl hd) rfl (fun σ3 => ?_)
  refine j_aload_n (pc' := 17) rfl rfl rfl ?_
  refine j_gfi (pc' := 20) rfl rfl j_a75 rfl ?_
  exact j_ret rfl rfl rfl (fun _ h => h)

noncomputable def f_X12_night (l1 : Int32) (l2 : Int32) (l3 : Int32) (σ : j_G) : Option (Int32 × j_G) :=
  if (¬ (f_X12_isSeed l1) = 0) ∧ (¬ (f_X12_isLaw l2) = 0) then (j_b1 (f_X12_isPlayer l3 σ) fun v1 =>
  if ¬ v1 = 0 then (j_b2 (f_X12_nightOf (l1).toInt64 l2 l3 σ) fun v3 σ2 =>
  some (v3, σ2)) else (some ((-2 : Int32), σ))) else (some ((-2 : Int32), σ))
theorem c_X12_night (l1 : Int32) (l2 : Int32) (l3 : Int32) (σ : j_G) : j_K false 6 348 [.ref 75, .int l1, .int l2, .int l3] σ (f_X12_night l1 l2 l3 σ) j_Ri := by
  refine j_mkK (M := M_cX12_night) (L := [some (.ref 75), some (.int l1), some (.int l2), some (.int l3)]) (m := 0) t_348 rfl (j_rcvO j_a75 rfl) rfl (fun d hd τ => ?_)
  unfold f_X12_night
  refine j_iload_n (pc' := 1) rfl rfl rfl ?_
  refine j_callTi (pc' := 4) (ai := 345) (vs := [.int l1]) (rest := []) rfl rfl (fun _ _ => rfl) (c_X12_isSeed l1 σ) (j_dd rfl hd) rfl ?_
  refine j_two (pT := 14) (pF := 33) (L1 := [some (.ref 75), some (.int l1), some (.int l2), some (.int l3)]) (st1 := []) (fun o kT kF => ?_) (fun h3 => ?_) (fun h3 => ?_)
  · refine j_ifeq (t := 33) (pc' := 7) rfl rfl rfl (fun h4 => ?_) (fun h4 => ?_)
    · exact kF (fun z => z.1 h4)
    · refine j_iload_n (pc' := 8) rfl rfl rfl ?_
      refine j_callTi (pc' := 11) (ai := 289) (vs := [.int l2]) (rest := []) rfl rfl (fun _ _ => rfl) (c_X12_isLaw l2 σ) (j_dd rfl hd) rfl ?_
      refine j_ifeq (t := 33) (pc' := 14) rfl rfl rfl (fun h5 => ?_) (fun h5 => ?_)
      · exact kF (fun z => (fun z => z h5) z.2)
      · exact kT (⟨h4, h5⟩)
  · refine j_aload_n (pc' := 15) rfl rfl rfl ?_
    refine j_iload_n (pc' := 16) rfl rfl rfl ?_
    refine j_callPi (pc' := 19) (ai := 205) (vs := [.ref 75, .int l3]) (rest := []) rfl rfl (fun _ _ => rfl) (c_X12_isPlayer l3 σ) (j_dd rfl hd) rfl (fun v1 => ?_)
    refine j_two (pT := 22) (pF := 33) (L1 := [some (.ref 75), some (.int l1), some (.int l2), some (.int l3)]) (st1 := []) (fun o kT kF => ?_) (fun h1 => ?_) (fun h1 => ?_)
    · refine j_ifeq (t := 33) (pc' := 22) rfl rfl rfl (fun h2 => ?_) (fun h2 => ?_)
      · exact kF (fun z => z h2)
      · exact kT h2
    · refine j_aload_n (pc' := 23) rfl rfl rfl ?_
      refine j_iload_n (pc' := 24) rfl rfl rfl ?_
      refine j_i2l (pc' := 25) rfl rfl ?_
      refine j_iload_n (pc' := 26) rfl rfl rfl ?_
      refine j_iload_n (pc' := 27) rfl rfl rfl ?_
      refine j_callRi (pc' := 30) (ai := 347) (vs := [.ref 75, .long (l1).toInt64, .int l2, .int l3]) (rest := []) rfl rfl (fun _ _ => rfl) (c_X12_nightOf (l1).toInt64 l2 l3 σ) (j_dd rfl hd) rfl (fun v3 σ2 => ?_)
      refine j_goto (t := 35) rfl rfl ?_
      exact j_ret rfl rfl rfl (fun _ h => h)
    · refine j_bipush (pc' := 35) (x := (-2 : Int32)) rfl rfl rfl ?_
      exact j_ret rfl rfl rfl (fun _ h => h)
  · refine j_bipush (pc' := 35) (x := (-2 : Int32)) rfl rfl rfl ?_
    exact j_ret rfl rfl rfl (fun _ h => h)

noncomputable def p_X12_years_44 (l1 : Int32) (l2 : Int32) (l3 : Int32) (l4 : Int32) : Nat → Int32 → Int32 → j_G → Option (Int32 × j_G)
  | 0, _, _, _ => none
  | n + 1, l5, l6, σ =>
    if l6 < l2 then (j_b2 (f_X12_nightOf ((l1).toInt64 + (l6).toInt64) l3 l4 σ) fun v2 σ1 =>
    j_lt (l5 + v2) fun v3 =>
    p_X12_years_44 l1 l2 l3 l4 n v3 (l6 + (1 : Int32)) σ1) else (some (l5, σ))

noncomputable def f_X12_years (l1 : Int32) (l2 : Int32) (l3 : Int32) (l4 : Int32) (σ : j_G) : Option (Int32 × j_G) :=
  if (¬ (f_X12_isSeed l1) = 0) ∧ ((¬ (f_X12_in (l2).toInt64 (1 : Int64) (20 : Int64)) = 0) ∧ (¬ (f_X12_isLaw l3) = 0)) then (j_b1 (f_X12_isPlayer l4 σ) fun v1 =>
  if v1 = 0 then (some ((-2 : Int32), σ)) else (j_b2 (p_X12_years_44 l1 l2 l3 l4 j_F (0 : Int32) (0 : Int32) σ) fun v2 σ3 =>
  some (v2, σ3))) else (some ((-2 : Int32), σ))
theorem l_X12_years_44 {d : Nat} (hd : 6 ≤ d) (τ : j_G) (l1 : Int32) (l2 : Int32) (l3 : Int32) (l4 : Int32) : ∀ (n : Nat) (l5 : Int32) (l6 : Int32) (σ : j_G), j_J false τ M_cX12_years d 44 [some (.ref 75), some (.int l1), some (.int l2), some (.int l3), some (.int l4), some (.int l5), some (.int l6)] [] σ (p_X12_years_44 l1 l2 l3 l4 n l5 l6 σ) (fun r Q => j_Tr false τ M_cX12_years d 74 [none, none, none, none, none, some (.int r.1), none] [] r.2 Q) := by
  intro n
  induction n with
  | zero => intro l5 l6 σ; exact j_none
  | succ n ih =>
    intro l5 l6 σ
    unfold p_X12_years_44
    refine j_iload (pc' := 46) rfl rfl rfl ?_
    refine j_iload_n (pc' := 47) rfl rfl rfl ?_
    refine j_two (pT := 50) (pF := 74) (L1 := [some (.ref 75), some (.int l1), some (.int l2), some (.int l3), some (.int l4), some (.int l5), some (.int l6)]) (st1 := []) (fun o kT kF => ?_) (fun h1 => ?_) (fun h1 => ?_)
    · refine j_icge (t := 74) (pc' := 50) rfl rfl rfl (fun h2 => ?_) (fun h2 => ?_)
      · exact kF h2
      · exact kT h2
    · refine j_iload (pc' := 52) rfl rfl rfl ?_
      refine j_aload_n (pc' := 53) rfl rfl rfl ?_
      refine j_iload_n (pc' := 54) rfl rfl rfl ?_
      refine j_i2l (pc' := 55) rfl rfl ?_
      refine j_iload (pc' := 57) rfl rfl rfl ?_
      refine j_i2l (pc' := 58) rfl rfl ?_
      refine j_ladd (pc' := 59) rfl rfl ?_
      refine j_iload_n (pc' := 60) rfl rfl rfl ?_
      refine j_iload (pc' := 62) rfl rfl rfl ?_
      refine j_callRi (pc' := 65) (ai := 347) (vs := [.ref 75, .long ((l1).toInt64 + (l6).toInt64), .int l3, .int l4]) (rest := [.int l5]) rfl rfl (fun _ _ => rfl) (c_X12_nightOf ((l1).toInt64 + (l6).toInt64) l3 l4 σ) (j_dd rfl hd) rfl (fun v2 σ1 => ?_)
      refine j_iadd (pc' := 66) rfl rfl ?_
      refine j_leti (fun v3 => ?_)
      refine j_istore (pc' := 68) (L' := [some (.ref 75), some (.int l1), some (.int l2), some (.int l3), some (.int l4), some (.int v3), some (.int l6)]) rfl rfl rfl ?_
      refine j_iincx (pc' := 71) (y := (1 : Int32)) (L' := [some (.ref 75), some (.int l1), some (.int l2), some (.int l3), some (.int l4), some (.int v3), some (.int (l6 + (1 : Int32)))]) rfl rfl rfl rfl rfl ?_
      refine j_goto (t := 44) rfl rfl ?_
      exact ih v3 (l6 + (1 : Int32)) σ1
    · refine j_wk [false, false, false, false, false, true, false] (L' := [none, none, none, none, none, some (.int l5), none]) rfl ?_
      exact j_end (fun _ h => h)

theorem c_X12_years (l1 : Int32) (l2 : Int32) (l3 : Int32) (l4 : Int32) (σ : j_G) : j_K false 6 349 [.ref 75, .int l1, .int l2, .int l3, .int l4] σ (f_X12_years l1 l2 l3 l4 σ) j_Ri := by
  refine j_mkK (M := M_cX12_years) (L := [some (.ref 75), some (.int l1), some (.int l2), some (.int l3), some (.int l4), none, none]) (m := 2) t_349 rfl (j_rcvO j_a75 rfl) rfl (fun d hd τ => ?_)
  unfold f_X12_years
  refine j_iload_n (pc' := 1) rfl rfl rfl ?_
  refine j_callTi (pc' := 4) (ai := 345) (vs := [.int l1]) (rest := []) rfl rfl (fun _ _ => rfl) (c_X12_isSeed l1 σ) (j_dd rfl hd) rfl ?_
  refine j_two (pT := 26) (pF := 35) (L1 := [some (.ref 75), some (.int l1), some (.int l2), some (.int l3), some (.int l4), none, none]) (st1 := []) (fun o kT kF => ?_) (fun h3 => ?_) (fun h3 => ?_)
  · refine j_ifeq (t := 35) (pc' := 7) rfl rfl rfl (fun h4 => ?_) (fun h4 => ?_)
    · exact kF (fun z => z.1 h4)
    · refine j_iload_n (pc' := 8) rfl rfl rfl ?_
      refine j_i2l (pc' := 9) rfl rfl ?_
      refine j_lconst (pc' := 10) (x := (1 : Int64)) rfl rfl rfl ?_
      refine j_ldc2_w (pc' := 13) (x := (20 : Int64)) rfl rfl rfl ?_
      refine j_callTi (pc' := 16) (ai := 196) (vs := [.long (l2).toInt64, .long (1 : Int64), .long (20 : Int64)]) (rest := []) rfl rfl (fun _ _ => rfl) (c_X12_in (l2).toInt64 (1 : Int64) (20 : Int64) σ) (j_dd rfl hd) rfl ?_
      refine j_ifeq (t := 35) (pc' := 19) rfl rfl rfl (fun h5 => ?_) (fun h5 => ?_)
      · exact kF (fun z => (fun z => z.1 h5) z.2)
      · refine j_iload_n (pc' := 20) rfl rfl rfl ?_
        refine j_callTi (pc' := 23) (ai := 289) (vs := [.int l3]) (rest := []) rfl rfl (fun _ _ => rfl) (c_X12_isLaw l3 σ) (j_dd rfl hd) rfl ?_
        refine j_ifeq (t := 35) (pc' := 26) rfl rfl rfl (fun h6 => ?_) (fun h6 => ?_)
        · exact kF (fun z => (fun z => (fun z => z h6) z.2) z.2)
        · exact kT (⟨h4, ⟨h5, h6⟩⟩)
  · refine j_aload_n (pc' := 27) rfl rfl rfl ?_
    refine j_iload (pc' := 29) rfl rfl rfl ?_
    refine j_callPi (pc' := 32) (ai := 205) (vs := [.ref 75, .int l4]) (rest := []) rfl rfl (fun _ _ => rfl) (c_X12_isPlayer l4 σ) (j_dd rfl hd) rfl (fun v1 => ?_)
    refine j_two (pT := 35) (pF := 38) (L1 := [some (.ref 75), some (.int l1), some (.int l2), some (.int l3), some (.int l4), none, none]) (st1 := []) (fun o kT kF => ?_) (fun h1 => ?_) (fun h1 => ?_)
    · refine j_ifne (t := 38) (pc' := 35) rfl rfl rfl (fun h2 => ?_) (fun h2 => ?_)
      · exact kF h2
      · exact kT h2
    · refine j_bipush (pc' := 37) (x := (-2 : Int32)) rfl rfl rfl ?_
      exact j_ret rfl rfl rfl (fun _ h => h)
    · refine j_iconst (pc' := 39) (x := (0 : Int32)) rfl rfl rfl ?_
      refine j_istore (pc' := 41) (L' := [some (.ref 75), some (.int l1), some (.int l2), some (.int l3), some (.int l4), some (.int (0 : Int32)), none]) rfl rfl rfl ?_
      refine j_iconst (pc' := 42) (x := (0 : Int32)) rfl rfl rfl ?_
      refine j_istore (pc' := 44) (L' := [some (.ref 75), some (.int l1), some (.int l2), some (.int l3), some (.int l4), some (.int (0 : Int32)), some (.int (0 : Int32))]) rfl rfl rfl ?_
      refine j_q2 (l_X12_years_44 hd τ l1 l2 l3 l4 j_F (0 : Int32) (0 : Int32) σ) (fun v2 σ3 => ?_)
      show j_J false τ M_cX12_years d 74 [none, none, none, none, none, some (.int v2), none] [] σ3 _ _
      refine j_iload (pc' := 76) rfl rfl rfl ?_
      exact j_ret rfl rfl rfl (fun _ h => h)
  · refine j_bipush (pc' := 37) (x := (-2 : Int32)) rfl rfl rfl ?_
    exact j_ret rfl rfl rfl (fun _ h => h)

theorem c_X3_copy_47_5 (σ : j_G) : j_K true 0 30 [.ref 47, .ref 5] σ (f_X3_copy 5 47 6 48 7 49 8 50 σ) j_Rv := by
  refine j_mkK (M := M_cX3_copy) (L := [some (.ref 47), some (.ref 5)]) (m := 0) t_30 rfl (j_rcvO j_a47 rfl) rfl (fun d hd τ => ?_)
  unfold f_X3_copy
  refine j_aload_n (pc' := 1) rfl rfl rfl ?_
  refine j_aload_n (pc' := 2) rfl rfl rfl ?_
  refine j_gfi (pc' := 5) rfl rfl j_a5 rfl ?_
  refine j_pfi (pc' := 8) rfl rfl j_a47 rfl rfl (fun σ1 => ?_)
  refine j_aload_n (pc' := 9) rfl rfl rfl ?_
  refine j_aload_n (pc' := 10) rfl rfl rfl ?_
  refine j_gfi (pc' := 13) rfl rfl j_a5 rfl ?_
  refine j_pfi (pc' := 16) rfl rfl j_a47 rfl rfl (fun σ2 => ?_)
  refine j_aload_n (pc' := 17) rfl rfl rfl ?_
  refine j_gfr (pc' := 20) (x := 6) rfl rfl j_a5 rfl rfl ?_
  refine j_iconst (pc' := 21) (x := (0 : Int32)) rfl rfl rfl ?_
  refine j_aload_n (pc' := 22) rfl rfl rfl ?_
  refine j_gfr (pc' := 25) (x := 48) rfl rfl j_a47 rfl rfl ?_
  refine j_iconst (pc' := 26) (x := (0 : Int32)) rfl rfl rfl ?_
  refine j_bipush (pc' := 28) (x := (24 : Int32)) rfl rfl rfl ?_
  refine j_cpi (pc' := 31) rfl rfl rfl j_a6 j_a48 (fun σ3 => ?_)
  refine j_aload_n (pc' := 32) rfl rfl rfl ?_
  refine j_gfr (pc' := 35) (x := 7) rfl rfl j_a5 rfl rfl ?_
  refine j_iconst (pc' := 36) (x := (0 : Int32)) rfl rfl rfl ?_
  refine j_aload_n (pc' := 37) rfl rfl rfl ?_
  refine j_gfr (pc' := 40) (x := 49) rfl rfl j_a47 rfl rfl ?_
  refine j_iconst (pc' := 41) (x := (0 : Int32)) rfl rfl rfl ?_
  refine j_bipush (pc' := 43) (x := (24 : Int32)) rfl rfl rfl ?_
  refine j_cpi (pc' := 46) rfl rfl rfl j_a7 j_a49 (fun σ4 => ?_)
  refine j_aload_n (pc' := 47) rfl rfl rfl ?_
  refine j_gfr (pc' := 50) (x := 8) rfl rfl j_a5 rfl rfl ?_
  refine j_iconst (pc' := 51) (x := (0 : Int32)) rfl rfl rfl ?_
  refine j_aload_n (pc' := 52) rfl rfl rfl ?_
  refine j_gfr (pc' := 55) (x := 50) rfl rfl j_a47 rfl rfl ?_
  refine j_iconst (pc' := 56) (x := (0 : Int32)) rfl rfl rfl ?_
  refine j_bipush (pc' := 58) (x := (24 : Int32)) rfl rfl rfl ?_
  refine j_cpi (pc' := 61) rfl rfl rfl j_a8 j_a50 (fun σ5 => ?_)
  exact j_ret rfl rfl rfl (fun _ h => h)

theorem c_X2_copy_43_1 (σ : j_G) : j_K true 1 10 [.ref 43, .ref 1] σ (f_X2_copy 1 43 2 44 3 45 4 46 5 47 6 48 7 49 8 50 σ) j_Rv := by
  refine j_mkK (M := M_cX2_copy) (L := [some (.ref 43), some (.ref 1)]) (m := 0) t_10 rfl (j_rcvO j_a43 rfl) rfl (fun d hd τ => ?_)
  unfold f_X2_copy
  refine j_aload_n (pc' := 1) rfl rfl rfl ?_
  refine j_aload_n (pc' := 2) rfl rfl rfl ?_
  refine j_gfi (pc' := 5) rfl rfl j_a1 rfl ?_
  refine j_pfi (pc' := 8) rfl rfl j_a43 rfl rfl (fun σ1 => ?_)
  refine j_aload_n (pc' := 9) rfl rfl rfl ?_
  refine j_aload_n (pc' := 10) rfl rfl rfl ?_
  refine j_gfi (pc' := 13) rfl rfl j_a1 rfl ?_
  refine j_pfi (pc' := 16) rfl rfl j_a43 rfl rfl (fun σ2 => ?_)
  refine j_aload_n (pc' := 17) rfl rfl rfl ?_
  refine j_aload_n (pc' := 18) rfl rfl rfl ?_
  refine j_gfi (pc' := 21) rfl rfl j_a1 rfl ?_
  refine j_pfi (pc' := 24) rfl rfl j_a43 rfl rfl (fun σ3 => ?_)
  refine j_aload_n (pc' := 25) rfl rfl rfl ?_
  refine j_aload_n (pc' := 26) rfl rfl rfl ?_
  refine j_gfi (pc' := 29) rfl rfl j_a1 rfl ?_
  refine j_pfi (pc' := 32) rfl rfl j_a43 rfl rfl (fun σ4 => ?_)
  refine j_aload_n (pc' := 33) rfl rfl rfl ?_
  refine j_aload_n (pc' := 34) rfl rfl rfl ?_
  refine j_gfi (pc' := 37) rfl rfl j_a1 rfl ?_
  refine j_pfi (pc' := 40) rfl rfl j_a43 rfl rfl (fun σ5 => ?_)
  refine j_aload_n (pc' := 41) rfl rfl rfl ?_
  refine j_aload_n (pc' := 42) rfl rfl rfl ?_
  refine j_gfi (pc' := 45) rfl rfl j_a1 rfl ?_
  refine j_pfi (pc' := 48) rfl rfl j_a43 rfl rfl (fun σ6 => ?_)
  refine j_aload_n (pc' := 49) rfl rfl rfl ?_
  refine j_aload_n (pc' := 50) rfl rfl rfl ?_
  refine j_gfi (pc' := 53) rfl rfl j_a1 rfl ?_
  refine j_pfi (pc' := 56) rfl rfl j_a43 rfl rfl (fun σ7 => ?_)
  refine j_aload_n (pc' := 57) rfl rfl rfl ?_
  refine j_aload_n (pc' := 58) rfl rfl rfl ?_
  refine j_gfi (pc' := 61) rfl rfl j_a1 rfl ?_
  refine j_pfi (pc' := 64) rfl rfl j_a43 rfl rfl (fun σ8 => ?_)
  refine j_aload_n (pc' := 65) rfl rfl rfl ?_
  refine j_aload_n (pc' := 66) rfl rfl rfl ?_
  refine j_gfi (pc' := 69) rfl rfl j_a1 rfl ?_
  refine j_pfi (pc' := 72) rfl rfl j_a43 rfl rfl (fun σ9 => ?_)
  refine j_aload_n (pc' := 73) rfl rfl rfl ?_
  refine j_aload_n (pc' := 74) rfl rfl rfl ?_
  refine j_gfi (pc' := 77) rfl rfl j_a1 rfl ?_
  refine j_pfi (pc' := 80) rfl rfl j_a43 rfl rfl (fun σ10 => ?_)
  refine j_aload_n (pc' := 81) rfl rfl rfl ?_
  refine j_gfr (pc' := 84) (x := 2) rfl rfl j_a1 rfl rfl ?_
  refine j_iconst (pc' := 85) (x := (0 : Int32)) rfl rfl rfl ?_
  refine j_aload_n (pc' := 86) rfl rfl rfl ?_
  refine j_gfr (pc' := 89) (x := 44) rfl rfl j_a43 rfl rfl ?_
  refine j_iconst (pc' := 90) (x := (0 : Int32)) rfl rfl rfl ?_
  refine j_bipush (pc' := 92) (x := (6 : Int32)) rfl rfl rfl ?_
  refine j_cpi (pc' := 95) rfl rfl rfl j_a2 j_a44 (fun σ11 => ?_)
  refine j_aload_n (pc' := 96) rfl rfl rfl ?_
  refine j_gfr (pc' := 99) (x := 3) rfl rfl j_a1 rfl rfl ?_
  refine j_iconst (pc' := 100) (x := (0 : Int32)) rfl rfl rfl ?_
  refine j_aload_n (pc' := 101) rfl rfl rfl ?_
  refine j_gfr (pc' := 104) (x := 45) rfl rfl j_a43 rfl rfl ?_
  refine j_iconst (pc' := 105) (x := (0 : Int32)) rfl rfl rfl ?_
  refine j_bipush (pc' := 107) (x := (6 : Int32)) rfl rfl rfl ?_
  refine j_cpi (pc' := 110) rfl rfl rfl j_a3 j_a45 (fun σ12 => ?_)
  refine j_aload_n (pc' := 111) rfl rfl rfl ?_
  refine j_gfr (pc' := 114) (x := 4) rfl rfl j_a1 rfl rfl ?_
  refine j_iconst (pc' := 115) (x := (0 : Int32)) rfl rfl rfl ?_
  refine j_aload_n (pc' := 116) rfl rfl rfl ?_
  refine j_gfr (pc' := 119) (x := 46) rfl rfl j_a43 rfl rfl ?_
  refine j_iconst (pc' := 120) (x := (0 : Int32)) rfl rfl rfl ?_
  refine j_bipush (pc' := 122) (x := (20 : Int32)) rfl rfl rfl ?_
  refine j_cpi (pc' := 125) rfl rfl rfl j_a4 j_a46 (fun σ13 => ?_)
  refine j_aload_n (pc' := 126) rfl rfl rfl ?_
  refine j_gfr (pc' := 129) (x := 47) rfl rfl j_a43 rfl rfl ?_
  refine j_aload_n (pc' := 130) rfl rfl rfl ?_
  refine j_gfr (pc' := 133) (x := 5) rfl rfl j_a1 rfl rfl ?_
  refine j_callRv (pc' := 136) (ai := 30) (vs := [.ref 47, .ref 5]) (rest := []) rfl rfl (fun _ _ => rfl) (c_X3_copy_47_5  σ13) (j_dd rfl hd) rfl (fun σ14 => ?_)
  exact j_ret rfl rfl rfl (fun _ h => h)

theorem c_X3_copy_55_5 (σ : j_G) : j_K true 0 30 [.ref 55, .ref 5] σ (f_X3_copy 5 55 6 56 7 57 8 58 σ) j_Rv := by
  refine j_mkK (M := M_cX3_copy) (L := [some (.ref 55), some (.ref 5)]) (m := 0) t_30 rfl (j_rcvO j_a55 rfl) rfl (fun d hd τ => ?_)
  unfold f_X3_copy
  refine j_aload_n (pc' := 1) rfl rfl rfl ?_
  refine j_aload_n (pc' := 2) rfl rfl rfl ?_
  refine j_gfi (pc' := 5) rfl rfl j_a5 rfl ?_
  refine j_pfi (pc' := 8) rfl rfl j_a55 rfl rfl (fun σ1 => ?_)
  refine j_aload_n (pc' := 9) rfl rfl rfl ?_
  refine j_aload_n (pc' := 10) rfl rfl rfl ?_
  refine j_gfi (pc' := 13) rfl rfl j_a5 rfl ?_
  refine j_pfi (pc' := 16) rfl rfl j_a55 rfl rfl (fun σ2 => ?_)
  refine j_aload_n (pc' := 17) rfl rfl rfl ?_
  refine j_gfr (pc' := 20) (x := 6) rfl rfl j_a5 rfl rfl ?_
  refine j_iconst (pc' := 21) (x := (0 : Int32)) rfl rfl rfl ?_
  refine j_aload_n (pc' := 22) rfl rfl rfl ?_
  refine j_gfr (pc' := 25) (x := 56) rfl rfl j_a55 rfl rfl ?_
  refine j_iconst (pc' := 26) (x := (0 : Int32)) rfl rfl rfl ?_
  refine j_bipush (pc' := 28) (x := (24 : Int32)) rfl rfl rfl ?_
  refine j_cpi (pc' := 31) rfl rfl rfl j_a6 j_a56 (fun σ3 => ?_)
  refine j_aload_n (pc' := 32) rfl rfl rfl ?_
  refine j_gfr (pc' := 35) (x := 7) rfl rfl j_a5 rfl rfl ?_
  refine j_iconst (pc' := 36) (x := (0 : Int32)) rfl rfl rfl ?_
  refine j_aload_n (pc' := 37) rfl rfl rfl ?_
  refine j_gfr (pc' := 40) (x := 57) rfl rfl j_a55 rfl rfl ?_
  refine j_iconst (pc' := 41) (x := (0 : Int32)) rfl rfl rfl ?_
  refine j_bipush (pc' := 43) (x := (24 : Int32)) rfl rfl rfl ?_
  refine j_cpi (pc' := 46) rfl rfl rfl j_a7 j_a57 (fun σ4 => ?_)
  refine j_aload_n (pc' := 47) rfl rfl rfl ?_
  refine j_gfr (pc' := 50) (x := 8) rfl rfl j_a5 rfl rfl ?_
  refine j_iconst (pc' := 51) (x := (0 : Int32)) rfl rfl rfl ?_
  refine j_aload_n (pc' := 52) rfl rfl rfl ?_
  refine j_gfr (pc' := 55) (x := 58) rfl rfl j_a55 rfl rfl ?_
  refine j_iconst (pc' := 56) (x := (0 : Int32)) rfl rfl rfl ?_
  refine j_bipush (pc' := 58) (x := (24 : Int32)) rfl rfl rfl ?_
  refine j_cpi (pc' := 61) rfl rfl rfl j_a8 j_a58 (fun σ5 => ?_)
  exact j_ret rfl rfl rfl (fun _ h => h)

theorem c_X2_copy_51_1 (σ : j_G) : j_K true 1 10 [.ref 51, .ref 1] σ (f_X2_copy 1 51 2 52 3 53 4 54 5 55 6 56 7 57 8 58 σ) j_Rv := by
  refine j_mkK (M := M_cX2_copy) (L := [some (.ref 51), some (.ref 1)]) (m := 0) t_10 rfl (j_rcvO j_a51 rfl) rfl (fun d hd τ => ?_)
  unfold f_X2_copy
  refine j_aload_n (pc' := 1) rfl rfl rfl ?_
  refine j_aload_n (pc' := 2) rfl rfl rfl ?_
  refine j_gfi (pc' := 5) rfl rfl j_a1 rfl ?_
  refine j_pfi (pc' := 8) rfl rfl j_a51 rfl rfl (fun σ1 => ?_)
  refine j_aload_n (pc' := 9) rfl rfl rfl ?_
  refine j_aload_n (pc' := 10) rfl rfl rfl ?_
  refine j_gfi (pc' := 13) rfl rfl j_a1 rfl ?_
  refine j_pfi (pc' := 16) rfl rfl j_a51 rfl rfl (fun σ2 => ?_)
  refine j_aload_n (pc' := 17) rfl rfl rfl ?_
  refine j_aload_n (pc' := 18) rfl rfl rfl ?_
  refine j_gfi (pc' := 21) rfl rfl j_a1 rfl ?_
  refine j_pfi (pc' := 24) rfl rfl j_a51 rfl rfl (fun σ3 => ?_)
  refine j_aload_n (pc' := 25) rfl rfl rfl ?_
  refine j_aload_n (pc' := 26) rfl rfl rfl ?_
  refine j_gfi (pc' := 29) rfl rfl j_a1 rfl ?_
  refine j_pfi (pc' := 32) rfl rfl j_a51 rfl rfl (fun σ4 => ?_)
  refine j_aload_n (pc' := 33) rfl rfl rfl ?_
  refine j_aload_n (pc' := 34) rfl rfl rfl ?_
  refine j_gfi (pc' := 37) rfl rfl j_a1 rfl ?_
  refine j_pfi (pc' := 40) rfl rfl j_a51 rfl rfl (fun σ5 => ?_)
  refine j_aload_n (pc' := 41) rfl rfl rfl ?_
  refine j_aload_n (pc' := 42) rfl rfl rfl ?_
  refine j_gfi (pc' := 45) rfl rfl j_a1 rfl ?_
  refine j_pfi (pc' := 48) rfl rfl j_a51 rfl rfl (fun σ6 => ?_)
  refine j_aload_n (pc' := 49) rfl rfl rfl ?_
  refine j_aload_n (pc' := 50) rfl rfl rfl ?_
  refine j_gfi (pc' := 53) rfl rfl j_a1 rfl ?_
  refine j_pfi (pc' := 56) rfl rfl j_a51 rfl rfl (fun σ7 => ?_)
  refine j_aload_n (pc' := 57) rfl rfl rfl ?_
  refine j_aload_n (pc' := 58) rfl rfl rfl ?_
  refine j_gfi (pc' := 61) rfl rfl j_a1 rfl ?_
  refine j_pfi (pc' := 64) rfl rfl j_a51 rfl rfl (fun σ8 => ?_)
  refine j_aload_n (pc' := 65) rfl rfl rfl ?_
  refine j_aload_n (pc' := 66) rfl rfl rfl ?_
  refine j_gfi (pc' := 69) rfl rfl j_a1 rfl ?_
  refine j_pfi (pc' := 72) rfl rfl j_a51 rfl rfl (fun σ9 => ?_)
  refine j_aload_n (pc' := 73) rfl rfl rfl ?_
  refine j_aload_n (pc' := 74) rfl rfl rfl ?_
  refine j_gfi (pc' := 77) rfl rfl j_a1 rfl ?_
  refine j_pfi (pc' := 80) rfl rfl j_a51 rfl rfl (fun σ10 => ?_)
  refine j_aload_n (pc' := 81) rfl rfl rfl ?_
  refine j_gfr (pc' := 84) (x := 2) rfl rfl j_a1 rfl rfl ?_
  refine j_iconst (pc' := 85) (x := (0 : Int32)) rfl rfl rfl ?_
  refine j_aload_n (pc' := 86) rfl rfl rfl ?_
  refine j_gfr (pc' := 89) (x := 52) rfl rfl j_a51 rfl rfl ?_
  refine j_iconst (pc' := 90) (x := (0 : Int32)) rfl rfl rfl ?_
  refine j_bipush (pc' := 92) (x := (6 : Int32)) rfl rfl rfl ?_
  refine j_cpi (pc' := 95) rfl rfl rfl j_a2 j_a52 (fun σ11 => ?_)
  refine j_aload_n (pc' := 96) rfl rfl rfl ?_
  refine j_gfr (pc' := 99) (x := 3) rfl rfl j_a1 rfl rfl ?_
  refine j_iconst (pc' := 100) (x := (0 : Int32)) rfl rfl rfl ?_
  refine j_aload_n (pc' := 101) rfl rfl rfl ?_
  refine j_gfr (pc' := 104) (x := 53) rfl rfl j_a51 rfl rfl ?_
  refine j_iconst (pc' := 105) (x := (0 : Int32)) rfl rfl rfl ?_
  refine j_bipush (pc' := 107) (x := (6 : Int32)) rfl rfl rfl ?_
  refine j_cpi (pc' := 110) rfl rfl rfl j_a3 j_a53 (fun σ12 => ?_)
  refine j_aload_n (pc' := 111) rfl rfl rfl ?_
  refine j_gfr (pc' := 114) (x := 4) rfl rfl j_a1 rfl rfl ?_
  refine j_iconst (pc' := 115) (x := (0 : Int32)) rfl rfl rfl ?_
  refine j_aload_n (pc' := 116) rfl rfl rfl ?_
  refine j_gfr (pc' := 119) (x := 54) rfl rfl j_a51 rfl rfl ?_
  refine j_iconst (pc' := 120) (x := (0 : Int32)) rfl rfl rfl ?_
  refine j_bipush (pc' := 122) (x := (20 : Int32)) rfl rfl rfl ?_
  refine j_cpi (pc' := 125) rfl rfl rfl j_a4 j_a54 (fun σ13 => ?_)
  refine j_aload_n (pc' := 126) rfl rfl rfl ?_
  refine j_gfr (pc' := 129) (x := 55) rfl rfl j_a51 rfl rfl ?_
  refine j_aload_n (pc' := 130) rfl rfl rfl ?_
  refine j_gfr (pc' := 133) (x := 5) rfl rfl j_a1 rfl rfl ?_
  refine j_callRv (pc' := 136) (ai := 30) (vs := [.ref 55, .ref 5]) (rest := []) rfl rfl (fun _ _ => rfl) (c_X3_copy_55_5  σ13) (j_dd rfl hd) rfl (fun σ14 => ?_)
  exact j_ret rfl rfl rfl (fun _ h => h)

theorem c_X3_copy_63_5 (σ : j_G) : j_K true 0 30 [.ref 63, .ref 5] σ (f_X3_copy 5 63 6 64 7 65 8 66 σ) j_Rv := by
  refine j_mkK (M := M_cX3_copy) (L := [some (.ref 63), some (.ref 5)]) (m := 0) t_30 rfl (j_rcvO j_a63 rfl) rfl (fun d hd τ => ?_)
  unfold f_X3_copy
  refine j_aload_n (pc' := 1) rfl rfl rfl ?_
  refine j_aload_n (pc' := 2) rfl rfl rfl ?_
  refine j_gfi (pc' := 5) rfl rfl j_a5 rfl ?_
  refine j_pfi (pc' := 8) rfl rfl j_a63 rfl rfl (fun σ1 => ?_)
  refine j_aload_n (pc' := 9) rfl rfl rfl ?_
  refine j_aload_n (pc' := 10) rfl rfl rfl ?_
  refine j_gfi (pc' := 13) rfl rfl j_a5 rfl ?_
  refine j_pfi (pc' := 16) rfl rfl j_a63 rfl rfl (fun σ2 => ?_)
  refine j_aload_n (pc' := 17) rfl rfl rfl ?_
  refine j_gfr (pc' := 20) (x := 6) rfl rfl j_a5 rfl rfl ?_
  refine j_iconst (pc' := 21) (x := (0 : Int32)) rfl rfl rfl ?_
  refine j_aload_n (pc' := 22) rfl rfl rfl ?_
  refine j_gfr (pc' := 25) (x := 64) rfl rfl j_a63 rfl rfl ?_
  refine j_iconst (pc' := 26) (x := (0 : Int32)) rfl rfl rfl ?_
  refine j_bipush (pc' := 28) (x := (24 : Int32)) rfl rfl rfl ?_
  refine j_cpi (pc' := 31) rfl rfl rfl j_a6 j_a64 (fun σ3 => ?_)
  refine j_aload_n (pc' := 32) rfl rfl rfl ?_
  refine j_gfr (pc' := 35) (x := 7) rfl rfl j_a5 rfl rfl ?_
  refine j_iconst (pc' := 36) (x := (0 : Int32)) rfl rfl rfl ?_
  refine j_aload_n (pc' := 37) rfl rfl rfl ?_
  refine j_gfr (pc' := 40) (x := 65) rfl rfl j_a63 rfl rfl ?_
  refine j_iconst (pc' := 41) (x := (0 : Int32)) rfl rfl rfl ?_
  refine j_bipush (pc' := 43) (x := (24 : Int32)) rfl rfl rfl ?_
  refine j_cpi (pc' := 46) rfl rfl rfl j_a7 j_a65 (fun σ4 => ?_)
  refine j_aload_n (pc' := 47) rfl rfl rfl ?_
  refine j_gfr (pc' := 50) (x := 8) rfl rfl j_a5 rfl rfl ?_
  refine j_iconst (pc' := 51) (x := (0 : Int32)) rfl rfl rfl ?_
  refine j_aload_n (pc' := 52) rfl rfl rfl ?_
  refine j_gfr (pc' := 55) (x := 66) rfl rfl j_a63 rfl rfl ?_
  refine j_iconst (pc' := 56) (x := (0 : Int32)) rfl rfl rfl ?_
  refine j_bipush (pc' := 58) (x := (24 : Int32)) rfl rfl rfl ?_
  refine j_cpi (pc' := 61) rfl rfl rfl j_a8 j_a66 (fun σ5 => ?_)
  exact j_ret rfl rfl rfl (fun _ h => h)

theorem c_X2_copy_59_1 (σ : j_G) : j_K true 1 10 [.ref 59, .ref 1] σ (f_X2_copy 1 59 2 60 3 61 4 62 5 63 6 64 7 65 8 66 σ) j_Rv := by
  refine j_mkK (M := M_cX2_copy) (L := [some (.ref 59), some (.ref 1)]) (m := 0) t_10 rfl (j_rcvO j_a59 rfl) rfl (fun d hd τ => ?_)
  unfold f_X2_copy
  refine j_aload_n (pc' := 1) rfl rfl rfl ?_
  refine j_aload_n (pc' := 2) rfl rfl rfl ?_
  refine j_gfi (pc' := 5) rfl rfl j_a1 rfl ?_
  refine j_pfi (pc' := 8) rfl rfl j_a59 rfl rfl (fun σ1 => ?_)
  refine j_aload_n (pc' := 9) rfl rfl rfl ?_
  refine j_aload_n (pc' := 10) rfl rfl rfl ?_
  refine j_gfi (pc' := 13) rfl rfl j_a1 rfl ?_
  refine j_pfi (pc' := 16) rfl rfl j_a59 rfl rfl (fun σ2 => ?_)
  refine j_aload_n (pc' := 17) rfl rfl rfl ?_
  refine j_aload_n (pc' := 18) rfl rfl rfl ?_
  refine j_gfi (pc' := 21) rfl rfl j_a1 rfl ?_
  refine j_pfi (pc' := 24) rfl rfl j_a59 rfl rfl (fun σ3 => ?_)
  refine j_aload_n (pc' := 25) rfl rfl rfl ?_
  refine j_aload_n (pc' := 26) rfl rfl rfl ?_
  refine j_gfi (pc' := 29) rfl rfl j_a1 rfl ?_
  refine j_pfi (pc' := 32) rfl rfl j_a59 rfl rfl (fun σ4 => ?_)
  refine j_aload_n (pc' := 33) rfl rfl rfl ?_
  refine j_aload_n (pc' := 34) rfl rfl rfl ?_
  refine j_gfi (pc' := 37) rfl rfl j_a1 rfl ?_
  refine j_pfi (pc' := 40) rfl rfl j_a59 rfl rfl (fun σ5 => ?_)
  refine j_aload_n (pc' := 41) rfl rfl rfl ?_
  refine j_aload_n (pc' := 42) rfl rfl rfl ?_
  refine j_gfi (pc' := 45) rfl rfl j_a1 rfl ?_
  refine j_pfi (pc' := 48) rfl rfl j_a59 rfl rfl (fun σ6 => ?_)
  refine j_aload_n (pc' := 49) rfl rfl rfl ?_
  refine j_aload_n (pc' := 50) rfl rfl rfl ?_
  refine j_gfi (pc' := 53) rfl rfl j_a1 rfl ?_
  refine j_pfi (pc' := 56) rfl rfl j_a59 rfl rfl (fun σ7 => ?_)
  refine j_aload_n (pc' := 57) rfl rfl rfl ?_
  refine j_aload_n (pc' := 58) rfl rfl rfl ?_
  refine j_gfi (pc' := 61) rfl rfl j_a1 rfl ?_
  refine j_pfi (pc' := 64) rfl rfl j_a59 rfl rfl (fun σ8 => ?_)
  refine j_aload_n (pc' := 65) rfl rfl rfl ?_
  refine j_aload_n (pc' := 66) rfl rfl rfl ?_
  refine j_gfi (pc' := 69) rfl rfl j_a1 rfl ?_
  refine j_pfi (pc' := 72) rfl rfl j_a59 rfl rfl (fun σ9 => ?_)
  refine j_aload_n (pc' := 73) rfl rfl rfl ?_
  refine j_aload_n (pc' := 74) rfl rfl rfl ?_
  refine j_gfi (pc' := 77) rfl rfl j_a1 rfl ?_
  refine j_pfi (pc' := 80) rfl rfl j_a59 rfl rfl (fun σ10 => ?_)
  refine j_aload_n (pc' := 81) rfl rfl rfl ?_
  refine j_gfr (pc' := 84) (x := 2) rfl rfl j_a1 rfl rfl ?_
  refine j_iconst (pc' := 85) (x := (0 : Int32)) rfl rfl rfl ?_
  refine j_aload_n (pc' := 86) rfl rfl rfl ?_
  refine j_gfr (pc' := 89) (x := 60) rfl rfl j_a59 rfl rfl ?_
  refine j_iconst (pc' := 90) (x := (0 : Int32)) rfl rfl rfl ?_
  refine j_bipush (pc' := 92) (x := (6 : Int32)) rfl rfl rfl ?_
  refine j_cpi (pc' := 95) rfl rfl rfl j_a2 j_a60 (fun σ11 => ?_)
  refine j_aload_n (pc' := 96) rfl rfl rfl ?_
  refine j_gfr (pc' := 99) (x := 3) rfl rfl j_a1 rfl rfl ?_
  refine j_iconst (pc' := 100) (x := (0 : Int32)) rfl rfl rfl ?_
  refine j_aload_n (pc' := 101) rfl rfl rfl ?_
  refine j_gfr (pc' := 104) (x := 61) rfl rfl j_a59 rfl rfl ?_
  refine j_iconst (pc' := 105) (x := (0 : Int32)) rfl rfl rfl ?_
  refine j_bipush (pc' := 107) (x := (6 : Int32)) rfl rfl rfl ?_
  refine j_cpi (pc' := 110) rfl rfl rfl j_a3 j_a61 (fun σ12 => ?_)
  refine j_aload_n (pc' := 111) rfl rfl rfl ?_
  refine j_gfr (pc' := 114) (x := 4) rfl rfl j_a1 rfl rfl ?_
  refine j_iconst (pc' := 115) (x := (0 : Int32)) rfl rfl rfl ?_
  refine j_aload_n (pc' := 116) rfl rfl rfl ?_
  refine j_gfr (pc' := 119) (x := 62) rfl rfl j_a59 rfl rfl ?_
  refine j_iconst (pc' := 120) (x := (0 : Int32)) rfl rfl rfl ?_
  refine j_bipush (pc' := 122) (x := (20 : Int32)) rfl rfl rfl ?_
  refine j_cpi (pc' := 125) rfl rfl rfl j_a4 j_a62 (fun σ13 => ?_)
  refine j_aload_n (pc' := 126) rfl rfl rfl ?_
  refine j_gfr (pc' := 129) (x := 63) rfl rfl j_a59 rfl rfl ?_
  refine j_aload_n (pc' := 130) rfl rfl rfl ?_
  refine j_gfr (pc' := 133) (x := 5) rfl rfl j_a1 rfl rfl ?_
  refine j_callRv (pc' := 136) (ai := 30) (vs := [.ref 63, .ref 5]) (rest := []) rfl rfl (fun _ _ => rfl) (c_X3_copy_63_5  σ13) (j_dd rfl hd) rfl (fun σ14 => ?_)
  exact j_ret rfl rfl rfl (fun _ h => h)

noncomputable def f_X11_image (l1 : Int32) (σ : j_G) : Option (Int32 × j_G) :=
  if (l1 < 0) ∨ (¬ l1 < (3 : Int32)) then (some ((-2 : Int32), σ)) else (if l1 = 0 then (j_b1 (f_X2_copy 1 43 2 44 3 45 4 46 5 47 6 48 7 49 8 50 σ) fun σ1 =>
  j_lt (j_si σ1 43 0 (1 : Int32)) fun σ2 =>
  some ((0 : Int32), σ2)) else
  if l1 = 1 then (j_b1 (f_X2_copy 1 51 2 52 3 53 4 54 5 55 6 56 7 57 8 58 σ) fun σ3 =>
  j_lt (j_si σ3 51 0 (1 : Int32)) fun σ4 =>
  some ((0 : Int32), σ4)) else
  if l1 = 2 then (j_b1 (f_X2_copy 1 59 2 60 3 61 4 62 5 63 6 64 7 65 8 66 σ) fun σ5 =>
  j_lt (j_si σ5 59 0 (1 : Int32)) fun σ6 =>
  some ((0 : Int32), σ6)) else
  none)
theorem c_X11_image (l1 : Int32) (σ : j_G) : j_K true 2 177 [.ref 0, .int l1] σ (f_X11_image l1 σ) j_Ri := by
  refine j_mkK (M := M_cX11_image) (L := [some (.ref 0), some (.int l1)]) (m := 0) t_177 rfl (j_rcvO j_a0 rfl) rfl (fun d hd τ => ?_)
  unfold f_X11_image
  refine j_iload_n (pc' := 1) rfl rfl rfl ?_
  refine j_two (pT := 9) (pF := 12) (L1 := [some (.ref 0), some (.int l1)]) (st1 := []) (fun o kT kF => ?_) (fun h4 => ?_) (fun h4 => ?_)
  · refine j_iflt (t := 9) (pc' := 4) rfl rfl rfl (fun h5 => ?_) (fun h5 => ?_)
    · exact kT (Or.inl h5)
    · refine j_iload_n (pc' := 5) rfl rfl rfl ?_
      refine j_iconst (pc' := 6) (x := (3 : Int32)) rfl rfl rfl ?_
      refine j_iclt (t := 12) (pc' := 9) rfl rfl rfl (fun h6 => ?_) (fun h6 => ?_)
      · exact kF (fun z => z.elim h5 (fun z => z h6))
      · exact kT (Or.inr (h6))
  · refine j_bipush (pc' := 11) (x := (-2 : Int32)) rfl rfl rfl ?_
    exact j_ret rfl rfl rfl (fun _ h => h)
  · refine j_aload_n (pc' := 13) rfl rfl rfl ?_
    refine j_gfr (pc' := 16) (x := 9) rfl rfl j_a0 rfl rfl ?_
    refine j_iload_n (pc' := 17) rfl rfl rfl ?_
    refine j_spl (k := (0 : Int32)) (fun h1 => ?_) (fun h1 => ?_)
    · subst h1
      refine j_aald (pc' := 18) (r := 43) rfl rfl j_a9 (by decide) rfl ?_
      refine j_aload_n (pc' := 19) rfl rfl rfl ?_
      refine j_gfr (pc' := 22) (x := 1) rfl rfl j_a0 rfl rfl ?_
      refine j_callRv (pc' := 25) (ai := 10) (vs := [.ref 43, .ref 1]) (rest := []) rfl rfl (fun _ _ => rfl) (c_X2_copy_43_1  σ) (j_dd rfl hd) rfl (fun σ1 => ?_)
      refine j_aload_n (pc' := 26) rfl rfl rfl ?_
      refine j_gfr (pc' := 29) (x := 9) rfl rfl j_a0 rfl rfl ?_
      refine j_iload_n (pc' := 30) rfl rfl rfl ?_
      refine j_aald (pc' := 31) (r := 43) rfl rfl j_a9 (by decide) rfl ?_
      refine j_iconst (pc' := 32) (x := (1 : Int32)) rfl rfl rfl ?_
      refine j_pfi (pc' := 35) rfl rfl j_a43 rfl rfl (fun σ2 => ?_)
      refine j_iconst (pc' := 36) (x := (0 : Int32)) rfl rfl rfl ?_
      exact j_ret rfl rfl rfl (fun _ h => h)
    refine j_spl (k := (1 : Int32)) (fun h2 => ?_) (fun h2 => ?_)
    · subst h2
      refine j_aald (pc' := 18) (r := 51) rfl rfl j_a9 (by decide) rfl ?_
      refine j_aload_n (pc' := 19) rfl rfl rfl ?_
      refine j_gfr (pc' := 22) (x := 1) rfl rfl j_a0 rfl rfl ?_
      refine j_callRv (pc' := 25) (ai := 10) (vs := [.ref 51, .ref 1]) (rest := []) rfl rfl (fun _ _ => rfl) (c_X2_copy_51_1  σ) (j_dd rfl hd) rfl (fun σ3 => ?_)
      refine j_aload_n (pc' := 26) rfl rfl rfl ?_
      refine j_gfr (pc' := 29) (x := 9) rfl rfl j_a0 rfl rfl ?_
      refine j_iload_n (pc' := 30) rfl rfl rfl ?_
      refine j_aald (pc' := 31) (r := 51) rfl rfl j_a9 (by decide) rfl ?_
      refine j_iconst (pc' := 32) (x := (1 : Int32)) rfl rfl rfl ?_
      refine j_pfi (pc' := 35) rfl rfl j_a51 rfl rfl (fun σ4 => ?_)
      refine j_iconst (pc' := 36) (x := (0 : Int32)) rfl rfl rfl ?_
      exact j_ret rfl rfl rfl (fun _ h => h)
    refine j_spl (k := (2 : Int32)) (fun h3 => ?_) (fun h3 => ?_)
    · subst h3
      refine j_aald (pc' := 18) (r := 59) rfl rfl j_a9 (by decide) rfl ?_
      refine j_aload_n (pc' := 19) rfl rfl rfl ?_
      refine j_gfr (pc' := 22) (x := 1) rfl rfl j_a0 rfl rfl ?_
      refine j_callRv (pc' := 25) (ai := 10) (vs := [.ref 59, .ref 1]) (rest := []) rfl rfl (fun _ _ => rfl) (c_X2_copy_59_1  σ) (j_dd rfl hd) rfl (fun σ5 => ?_)
      refine j_aload_n (pc' := 26) rfl rfl rfl ?_
      refine j_gfr (pc' := 29) (x := 9) rfl rfl j_a0 rfl rfl ?_
      refine j_iload_n (pc' := 30) rfl rfl rfl ?_
      refine j_aald (pc' := 31) (r := 59) rfl rfl j_a9 (by decide) rfl ?_
      refine j_iconst (pc' := 32) (x := (1 : Int32)) rfl rfl rfl ?_
      refine j_pfi (pc' := 35) rfl rfl j_a59 rfl rfl (fun σ6 => ?_)
      refine j_iconst (pc' := 36) (x := (0 : Int32)) rfl rfl rfl ?_
      exact j_ret rfl rfl rfl (fun _ h => h)
    exact j_none

noncomputable def p_X12_image_17 (l1 : Int32) : Nat → Int32 → j_G → Option j_G
  | 0, _, _ => none
  | n + 1, l2, σ =>
    if l2 < (116 : Int32) then (j_ix l2 116 (
    j_ix (((116 : Int32) * l1) + l2) 348 (
    j_lt (j_si σ 77 ((((116 : Int32) * l1) + l2)).toNatClampNeg (σ.1 76 (l2).toNatClampNeg)) fun σ1 =>
    p_X12_image_17 l1 n (l2 + (1 : Int32)) σ1))) else (some σ)

noncomputable def f_X12_image (l1 : Int32) (σ : j_G) : Option (Int32 × j_G) :=
  if (f_X12_in (l1).toInt64 (0 : Int64) (2 : Int64)) = 0 then (some ((-2 : Int32), σ)) else (j_b1 (p_X12_image_17 l1 j_F (0 : Int32) σ) fun σ1 =>
  j_ix l1 3 (
  j_lt (j_si σ1 78 (l1).toNatClampNeg (vp_nar .boolean (1 : Int32))) fun σ2 =>
  some ((0 : Int32), σ2)))
theorem l_X12_image_17 {d : Nat} (hd : 1 ≤ d) (τ : j_G) (l1 : Int32) : ∀ (n : Nat) (l2 : Int32) (σ : j_G), j_J false τ M_cX12_image d 17 [some (.ref 75), some (.int l1), some (.int l2)] [] σ (p_X12_image_17 l1 n l2 σ) (fun r Q => j_Tr false τ M_cX12_image d 46 [some (.ref 75), some (.int l1), none] [] r Q) := by
  intro n
  induction n with
  | zero => intro l2 σ; exact j_none
  | succ n ih =>
    intro l2 σ
    unfold p_X12_image_17
    refine j_iload_n (pc' := 18) rfl rfl rfl ?_
    refine j_bipush (pc' := 20) (x := (116 : Int32)) rfl rfl rfl ?_
    refine j_two (pT := 23) (pF := 46) (L1 := [some (.ref 75), some (.int l1), some (.int l2)]) (st1 := []) (fun o kT kF => ?_) (fun h1 => ?_) (fun h1 => ?_)
    · refine j_icge (t := 46) (pc' := 23) rfl rfl rfl (fun h2 => ?_) (fun h2 => ?_)
      · exact kF h2
      · exact kT h2
    · refine j_aload_n (pc' := 24) rfl rfl rfl ?_
      refine j_gfr (pc' := 27) (x := 77) rfl rfl j_a75 rfl rfl ?_
      refine j_bipush (pc' := 29) (x := (116 : Int32)) rfl rfl rfl ?_
      refine j_iload_n (pc' := 30) rfl rfl rfl ?_
      refine j_imul (pc' := 31) rfl rfl ?_
      refine j_iload_n (pc' := 32) rfl rfl rfl ?_
      refine j_iadd (pc' := 33) rfl rfl ?_
      refine j_aload_n (pc' := 34) rfl rfl rfl ?_
      refine j_gfr (pc' := 37) (x := 76) rfl rfl j_a75 rfl rfl ?_
      refine j_iload_n (pc' := 38) rfl rfl rfl ?_
      refine j_iald (pc' := 39) rfl rfl j_a76 ?_
      refine j_iast (pc' := 40) rfl rfl j_a77 (fun σ1 => ?_)
      refine j_iincx (pc' := 43) (y := (1 : Int32)) (L' := [some (.ref 75), some (.int l1), some (.int (l2 + (1 : Int32)))]) rfl rfl rfl rfl rfl ?_
      refine j_goto (t := 17) rfl rfl ?_
      exact ih (l2 + (1 : Int32)) σ1
    · refine j_wk [true, true, false] (L' := [some (.ref 75), some (.int l1), none]) rfl ?_
      exact j_end (fun _ h => h)

theorem c_X12_image (l1 : Int32) (σ : j_G) : j_K false 1 197 [.ref 75, .int l1] σ (f_X12_image l1 σ) j_Ri := by
  refine j_mkK (M := M_cX12_image) (L := [some (.ref 75), some (.int l1), none]) (m := 1) t_197 rfl (j_rcvO j_a75 rfl) rfl (fun d hd τ => ?_)
  unfold f_X12_image
  refine j_iload_n (pc' := 1) rfl rfl rfl ?_
  refine j_i2l (pc' := 2) rfl rfl ?_
  refine j_lconst (pc' := 3) (x := (0 : Int64)) rfl rfl rfl ?_
  refine j_ldc2_w (pc' := 6) (x := (2 : Int64)) rfl rfl rfl ?_
  refine j_callTi (pc' := 9) (ai := 196) (vs := [.long (l1).toInt64, .long (0 : Int64), .long (2 : Int64)]) (rest := []) rfl rfl (fun _ _ => rfl) (c_X12_in (l1).toInt64 (0 : Int64) (2 : Int64) σ) (j_dd rfl hd) rfl ?_
  refine j_two (pT := 12) (pF := 15) (L1 := [some (.ref 75), some (.int l1), none]) (st1 := []) (fun o kT kF => ?_) (fun h1 => ?_) (fun h1 => ?_)
  · refine j_ifne (t := 15) (pc' := 12) rfl rfl rfl (fun h2 => ?_) (fun h2 => ?_)
    · exact kF h2
    · exact kT h2
  · refine j_bipush (pc' := 14) (x := (-2 : Int32)) rfl rfl rfl ?_
    exact j_ret rfl rfl rfl (fun _ h => h)
  · refine j_iconst (pc' := 16) (x := (0 : Int32)) rfl rfl rfl ?_
    refine j_istore_n (pc' := 17) (L' := [some (.ref 75), some (.int l1), some (.int (0 : Int32))]) rfl rfl rfl ?_
    refine j_q1 (l_X12_image_17 hd τ l1 j_F (0 : Int32) σ) (fun σ1 => ?_)
    show j_J false τ M_cX12_image d 46 [some (.ref 75), some (.int l1), none] [] σ1 _ _
    refine j_aload_n (pc' := 47) rfl rfl rfl ?_
    refine j_gfr (pc' := 50) (x := 78) rfl rfl j_a75 rfl rfl ?_
    refine j_iload_n (pc' := 51) rfl rfl rfl ?_
    refine j_iconst (pc' := 52) (x := (1 : Int32)) rfl rfl rfl ?_
    refine j_bastz (pc' := 53) rfl rfl j_a78 (fun σ2 => ?_)
    refine j_iconst (pc' := 54) (x := (0 : Int32)) rfl rfl rfl ?_
    exact j_ret rfl rfl rfl (fun _ h => h)

theorem c_X3_copy_5_47 (σ : j_G) : j_K true 0 30 [.ref 5, .ref 47] σ (f_X3_copy 47 5 48 6 49 7 50 8 σ) j_Rv := by
  refine j_mkK (M := M_cX3_copy) (L := [some (.ref 5), some (.ref 47)]) (m := 0) t_30 rfl (j_rcvO j_a5 rfl) rfl (fun d hd τ => ?_)
  unfold f_X3_copy
  refine j_aload_n (pc' := 1) rfl rfl rfl ?_
  refine j_aload_n (pc' := 2) rfl rfl rfl ?_
  refine j_gfi (pc' := 5) rfl rfl j_a47 rfl ?_
  refine j_pfi (pc' := 8) rfl rfl j_a5 rfl rfl (fun σ1 => ?_)
  refine j_aload_n (pc' := 9) rfl rfl rfl ?_
  refine j_aload_n (pc' := 10) rfl rfl rfl ?_
  refine j_gfi (pc' := 13) rfl rfl j_a47 rfl ?_
  refine j_pfi (pc' := 16) rfl rfl j_a5 rfl rfl (fun σ2 => ?_)
  refine j_aload_n (pc' := 17) rfl rfl rfl ?_
  refine j_gfr (pc' := 20) (x := 48) rfl rfl j_a47 rfl rfl ?_
  refine j_iconst (pc' := 21) (x := (0 : Int32)) rfl rfl rfl ?_
  refine j_aload_n (pc' := 22) rfl rfl rfl ?_
  refine j_gfr (pc' := 25) (x := 6) rfl rfl j_a5 rfl rfl ?_
  refine j_iconst (pc' := 26) (x := (0 : Int32)) rfl rfl rfl ?_
  refine j_bipush (pc' := 28) (x := (24 : Int32)) rfl rfl rfl ?_
  refine j_cpi (pc' := 31) rfl rfl rfl j_a48 j_a6 (fun σ3 => ?_)
  refine j_aload_n (pc' := 32) rfl rfl rfl ?_
  refine j_gfr (pc' := 35) (x := 49) rfl rfl j_a47 rfl rfl ?_
  refine j_iconst (pc' := 36) (x := (0 : Int32)) rfl rfl rfl ?_
  refine j_aload_n (pc' := 37) rfl rfl rfl ?_
  refine j_gfr (pc' := 40) (x := 7) rfl rfl j_a5 rfl rfl ?_
  refine j_iconst (pc' := 41) (x := (0 : Int32)) rfl rfl rfl ?_
  refine j_bipush (pc' := 43) (x := (24 : Int32)) rfl rfl rfl ?_
  refine j_cpi (pc' := 46) rfl rfl rfl j_a49 j_a7 (fun σ4 => ?_)
  refine j_aload_n (pc' := 47) rfl rfl rfl ?_
  refine j_gfr (pc' := 50) (x := 50) rfl rfl j_a47 rfl rfl ?_
  refine j_iconst (pc' := 51) (x := (0 : Int32)) rfl rfl rfl ?_
  refine j_aload_n (pc' := 52) rfl rfl rfl ?_
  refine j_gfr (pc' := 55) (x := 8) rfl rfl j_a5 rfl rfl ?_
  refine j_iconst (pc' := 56) (x := (0 : Int32)) rfl rfl rfl ?_
  refine j_bipush (pc' := 58) (x := (24 : Int32)) rfl rfl rfl ?_
  refine j_cpi (pc' := 61) rfl rfl rfl j_a50 j_a8 (fun σ5 => ?_)
  exact j_ret rfl rfl rfl (fun _ h => h)

theorem c_X2_copy_1_43 (σ : j_G) : j_K true 1 10 [.ref 1, .ref 43] σ (f_X2_copy 43 1 44 2 45 3 46 4 47 5 48 6 49 7 50 8 σ) j_Rv := by
  refine j_mkK (M := M_cX2_copy) (L := [some (.ref 1), some (.ref 43)]) (m := 0) t_10 rfl (j_rcvO j_a1 rfl) rfl (fun d hd τ => ?_)
  unfold f_X2_copy
  refine j_aload_n (pc' := 1) rfl rfl rfl ?_
  refine j_aload_n (pc' := 2) rfl rfl rfl ?_
  refine j_gfi (pc' := 5) rfl rfl j_a43 rfl ?_
  refine j_pfi (pc' := 8) rfl rfl j_a1 rfl rfl (fun σ1 => ?_)
  refine j_aload_n (pc' := 9) rfl rfl rfl ?_
  refine j_aload_n (pc' := 10) rfl rfl rfl ?_
  refine j_gfi (pc' := 13) rfl rfl j_a43 rfl ?_
  refine j_pfi (pc' := 16) rfl rfl j_a1 rfl rfl (fun σ2 => ?_)
  refine j_aload_n (pc' := 17) rfl rfl rfl ?_
  refine j_aload_n (pc' := 18) rfl rfl rfl ?_
  refine j_gfi (pc' := 21) rfl rfl j_a43 rfl ?_
  refine j_pfi (pc' := 24) rfl rfl j_a1 rfl rfl (fun σ3 => ?_)
  refine j_aload_n (pc' := 25) rfl rfl rfl ?_
  refine j_aload_n (pc' := 26) rfl rfl rfl ?_
  refine j_gfi (pc' := 29) rfl rfl j_a43 rfl ?_
  refine j_pfi (pc' := 32) rfl rfl j_a1 rfl rfl (fun σ4 => ?_)
  refine j_aload_n (pc' := 33) rfl rfl rfl ?_
  refine j_aload_n (pc' := 34) rfl rfl rfl ?_
  refine j_gfi (pc' := 37) rfl rfl j_a43 rfl ?_
  refine j_pfi (pc' := 40) rfl rfl j_a1 rfl rfl (fun σ5 => ?_)
  refine j_aload_n (pc' := 41) rfl rfl rfl ?_
  refine j_aload_n (pc' := 42) rfl rfl rfl ?_
  refine j_gfi (pc' := 45) rfl rfl j_a43 rfl ?_
  refine j_pfi (pc' := 48) rfl rfl j_a1 rfl rfl (fun σ6 => ?_)
  refine j_aload_n (pc' := 49) rfl rfl rfl ?_
  refine j_aload_n (pc' := 50) rfl rfl rfl ?_
  refine j_gfi (pc' := 53) rfl rfl j_a43 rfl ?_
  refine j_pfi (pc' := 56) rfl rfl j_a1 rfl rfl (fun σ7 => ?_)
  refine j_aload_n (pc' := 57) rfl rfl rfl ?_
  refine j_aload_n (pc' := 58) rfl rfl rfl ?_
  refine j_gfi (pc' := 61) rfl rfl j_a43 rfl ?_
  refine j_pfi (pc' := 64) rfl rfl j_a1 rfl rfl (fun σ8 => ?_)
  refine j_aload_n (pc' := 65) rfl rfl rfl ?_
  refine j_aload_n (pc' := 66) rfl rfl rfl ?_
  refine j_gfi (pc' := 69) rfl rfl j_a43 rfl ?_
  refine j_pfi (pc' := 72) rfl rfl j_a1 rfl rfl (fun σ9 => ?_)
  refine j_aload_n (pc' := 73) rfl rfl rfl ?_
  refine j_aload_n (pc' := 74) rfl rfl rfl ?_
  refine j_gfi (pc' := 77) rfl rfl j_a43 rfl ?_
  refine j_pfi (pc' := 80) rfl rfl j_a1 rfl rfl (fun σ10 => ?_)
  refine j_aload_n (pc' := 81) rfl rfl rfl ?_
  refine j_gfr (pc' := 84) (x := 44) rfl rfl j_a43 rfl rfl ?_
  refine j_iconst (pc' := 85) (x := (0 : Int32)) rfl rfl rfl ?_
  refine j_aload_n (pc' := 86) rfl rfl rfl ?_
  refine j_gfr (pc' := 89) (x := 2) rfl rfl j_a1 rfl rfl ?_
  refine j_iconst (pc' := 90) (x := (0 : Int32)) rfl rfl rfl ?_
  refine j_bipush (pc' := 92) (x := (6 : Int32)) rfl rfl rfl ?_
  refine j_cpi (pc' := 95) rfl rfl rfl j_a44 j_a2 (fun σ11 => ?_)
  refine j_aload_n (pc' := 96) rfl rfl rfl ?_
  refine j_gfr (pc' := 99) (x := 45) rfl rfl j_a43 rfl rfl ?_
  refine j_iconst (pc' := 100) (x := (0 : Int32)) rfl rfl rfl ?_
  refine j_aload_n (pc' := 101) rfl rfl rfl ?_
  refine j_gfr (pc' := 104) (x := 3) rfl rfl j_a1 rfl rfl ?_
  refine j_iconst (pc' := 105) (x := (0 : Int32)) rfl rfl rfl ?_
  refine j_bipush (pc' := 107) (x := (6 : Int32)) rfl rfl rfl ?_
  refine j_cpi (pc' := 110) rfl rfl rfl j_a45 j_a3 (fun σ12 => ?_)
  refine j_aload_n (pc' := 111) rfl rfl rfl ?_
  refine j_gfr (pc' := 114) (x := 46) rfl rfl j_a43 rfl rfl ?_
  refine j_iconst (pc' := 115) (x := (0 : Int32)) rfl rfl rfl ?_
  refine j_aload_n (pc' := 116) rfl rfl rfl ?_
  refine j_gfr (pc' := 119) (x := 4) rfl rfl j_a1 rfl rfl ?_
  refine j_iconst (pc' := 120) (x := (0 : Int32)) rfl rfl rfl ?_
  refine j_bipush (pc' := 122) (x := (20 : Int32)) rfl rfl rfl ?_
  refine j_cpi (pc' := 125) rfl rfl rfl j_a46 j_a4 (fun σ13 => ?_)
  refine j_aload_n (pc' := 126) rfl rfl rfl ?_
  refine j_gfr (pc' := 129) (x := 5) rfl rfl j_a1 rfl rfl ?_
  refine j_aload_n (pc' := 130) rfl rfl rfl ?_
  refine j_gfr (pc' := 133) (x := 47) rfl rfl j_a43 rfl rfl ?_
  refine j_callRv (pc' := 136) (ai := 30) (vs := [.ref 5, .ref 47]) (rest := []) rfl rfl (fun _ _ => rfl) (c_X3_copy_5_47  σ13) (j_dd rfl hd) rfl (fun σ14 => ?_)
  exact j_ret rfl rfl rfl (fun _ h => h)

theorem c_X3_copy_5_55 (σ : j_G) : j_K true 0 30 [.ref 5, .ref 55] σ (f_X3_copy 55 5 56 6 57 7 58 8 σ) j_Rv := by
  refine j_mkK (M := M_cX3_copy) (L := [some (.ref 5), some (.ref 55)]) (m := 0) t_30 rfl (j_rcvO j_a5 rfl) rfl (fun d hd τ => ?_)
  unfold f_X3_copy
  refine j_aload_n (pc' := 1) rfl rfl rfl ?_
  refine j_aload_n (pc' := 2) rfl rfl rfl ?_
  refine j_gfi (pc' := 5) rfl rfl j_a55 rfl ?_
  refine j_pfi (pc' := 8) rfl rfl j_a5 rfl rfl (fun σ1 => ?_)
  refine j_aload_n (pc' := 9) rfl rfl rfl ?_
  refine j_aload_n (pc' := 10) rfl rfl rfl ?_
  refine j_gfi (pc' := 13) rfl rfl j_a55 rfl ?_
  refine j_pfi (pc' := 16) rfl rfl j_a5 rfl rfl (fun σ2 => ?_)
  refine j_aload_n (pc' := 17) rfl rfl rfl ?_
  refine j_gfr (pc' := 20) (x := 56) rfl rfl j_a55 rfl rfl ?_
  refine j_iconst (pc' := 21) (x := (0 : Int32)) rfl rfl rfl ?_
  refine j_aload_n (pc' := 22) rfl rfl rfl ?_
  refine j_gfr (pc' := 25) (x := 6) rfl rfl j_a5 rfl rfl ?_
  refine j_iconst (pc' := 26) (x := (0 : Int32)) rfl rfl rfl ?_
  refine j_bipush (pc' := 28) (x := (24 : Int32)) rfl rfl rfl ?_
  refine j_cpi (pc' := 31) rfl rfl rfl j_a56 j_a6 (fun σ3 => ?_)
  refine j_aload_n (pc' := 32) rfl rfl rfl ?_
  refine j_gfr (pc' := 35) (x := 57) rfl rfl j_a55 rfl rfl ?_
  refine j_iconst (pc' := 36) (x := (0 : Int32)) rfl rfl rfl ?_
  refine j_aload_n (pc' := 37) rfl rfl rfl ?_
  refine j_gfr (pc' := 40) (x := 7) rfl rfl j_a5 rfl rfl ?_
  refine j_iconst (pc' := 41) (x := (0 : Int32)) rfl rfl rfl ?_
  refine j_bipush (pc' := 43) (x := (24 : Int32)) rfl rfl rfl ?_
  refine j_cpi (pc' := 46) rfl rfl rfl j_a57 j_a7 (fun σ4 => ?_)
  refine j_aload_n (pc' := 47) rfl rfl rfl ?_
  refine j_gfr (pc' := 50) (x := 58) rfl rfl j_a55 rfl rfl ?_
  refine j_iconst (pc' := 51) (x := (0 : Int32)) rfl rfl rfl ?_
  refine j_aload_n (pc' := 52) rfl rfl rfl ?_
  refine j_gfr (pc' := 55) (x := 8) rfl rfl j_a5 rfl rfl ?_
  refine j_iconst (pc' := 56) (x := (0 : Int32)) rfl rfl rfl ?_
  refine j_bipush (pc' := 58) (x := (24 : Int32)) rfl rfl rfl ?_
  refine j_cpi (pc' := 61) rfl rfl rfl j_a58 j_a8 (fun σ5 => ?_)
  exact j_ret rfl rfl rfl (fun _ h => h)

theorem c_X2_copy_1_51 (σ : j_G) : j_K true 1 10 [.ref 1, .ref 51] σ (f_X2_copy 51 1 52 2 53 3 54 4 55 5 56 6 57 7 58 8 σ) j_Rv := by
  refine j_mkK (M := M_cX2_copy) (L := [some (.ref 1), some (.ref 51)]) (m := 0) t_10 rfl (j_rcvO j_a1 rfl) rfl (fun d hd τ => ?_)
  unfold f_X2_copy
  refine j_aload_n (pc' := 1) rfl rfl rfl ?_
  refine j_aload_n (pc' := 2) rfl rfl rfl ?_
  refine j_gfi (pc' := 5) rfl rfl j_a51 rfl ?_
  refine j_pfi (pc' := 8) rfl rfl j_a1 rfl rfl (fun σ1 => ?_)
  refine j_aload_n (pc' := 9) rfl rfl rfl ?_
  refine j_aload_n (pc' := 10) rfl rfl rfl ?_
  refine j_gfi (pc' := 13) rfl rfl j_a51 rfl ?_
  refine j_pfi (pc' := 16) rfl rfl j_a1 rfl rfl (fun σ2 => ?_)
  refine j_aload_n (pc' := 17) rfl rfl rfl ?_
  refine j_aload_n (pc' := 18) rfl rfl rfl ?_
  refine j_gfi (pc' := 21) rfl rfl j_a51 rfl ?_
  refine j_pfi (pc' := 24) rfl rfl j_a1 rfl rfl (fun σ3 => ?_)
  refine j_aload_n (pc' := 25) rfl rfl rfl ?_
  refine j_aload_n (pc' := 26) rfl rfl rfl ?_
  refine j_gfi (pc' := 29) rfl rfl j_a51 rfl ?_
  refine j_pfi (pc' := 32) rfl rfl j_a1 rfl rfl (fun σ4 => ?_)
  refine j_aload_n (pc' := 33) rfl rfl rfl ?_
  refine j_aload_n (pc' := 34) rfl rfl rfl ?_
  refine j_gfi (pc' := 37) rfl rfl j_a51 rfl ?_
  refine j_pfi (pc' := 40) rfl rfl j_a1 rfl rfl (fun σ5 => ?_)
  refine j_aload_n (pc' := 41) rfl rfl rfl ?_
  refine j_aload_n (pc' := 42) rfl rfl rfl ?_
  refine j_gfi (pc' := 45) rfl rfl j_a51 rfl ?_
  refine j_pfi (pc' := 48) rfl rfl j_a1 rfl rfl (fun σ6 => ?_)
  refine j_aload_n (pc' := 49) rfl rfl rfl ?_
  refine j_aload_n (pc' := 50) rfl rfl rfl ?_
  refine j_gfi (pc' := 53) rfl rfl j_a51 rfl ?_
  refine j_pfi (pc' := 56) rfl rfl j_a1 rfl rfl (fun σ7 => ?_)
  refine j_aload_n (pc' := 57) rfl rfl rfl ?_
  refine j_aload_n (pc' := 58) rfl rfl rfl ?_
  refine j_gfi (pc' := 61) rfl rfl j_a51 rfl ?_
  refine j_pfi (pc' := 64) rfl rfl j_a1 rfl rfl (fun σ8 => ?_)
  refine j_aload_n (pc' := 65) rfl rfl rfl ?_
  refine j_aload_n (pc' := 66) rfl rfl rfl ?_
  refine j_gfi (pc' := 69) rfl rfl j_a51 rfl ?_
  refine j_pfi (pc' := 72) rfl rfl j_a1 rfl rfl (fun σ9 => ?_)
  refine j_aload_n (pc' := 73) rfl rfl rfl ?_
  refine j_aload_n (pc' := 74) rfl rfl rfl ?_
  refine j_gfi (pc' := 77) rfl rfl j_a51 rfl ?_
  refine j_pfi (pc' := 80) rfl rfl j_a1 rfl rfl (fun σ10 => ?_)
  refine j_aload_n (pc' := 81) rfl rfl rfl ?_
  refine j_gfr (pc' := 84) (x := 52) rfl rfl j_a51 rfl rfl ?_
  refine j_iconst (pc' := 85) (x := (0 : Int32)) rfl rfl rfl ?_
  refine j_aload_n (pc' := 86) rfl rfl rfl ?_
  refine j_gfr (pc' := 89) (x := 2) rfl rfl j_a1 rfl rfl ?_
  refine j_iconst (pc' := 90) (x := (0 : Int32)) rfl rfl rfl ?_
  refine j_bipush (pc' := 92) (x := (6 : Int32)) rfl rfl rfl ?_
  refine j_cpi (pc' := 95) rfl rfl rfl j_a52 j_a2 (fun σ11 => ?_)
  refine j_aload_n (pc' := 96) rfl rfl rfl ?_
  refine j_gfr (pc' := 99) (x := 53) rfl rfl j_a51 rfl rfl ?_
  refine j_iconst (pc' := 100) (x := (0 : Int32)) rfl rfl rfl ?_
  refine j_aload_n (pc' := 101) rfl rfl rfl ?_
  refine j_gfr (pc' := 104) (x := 3) rfl rfl j_a1 rfl rfl ?_
  refine j_iconst (pc' := 105) (x := (0 : Int32)) rfl rfl rfl ?_
  refine j_bipush (pc' := 107) (x := (6 : Int32)) rfl rfl rfl ?_
  refine j_cpi (pc' := 110) rfl rfl rfl j_a53 j_a3 (fun σ12 => ?_)
  refine j_aload_n (pc' := 111) rfl rfl rfl ?_
  refine j_gfr (pc' := 114) (x := 54) rfl rfl j_a51 rfl rfl ?_
  refine j_iconst (pc' := 115) (x := (0 : Int32)) rfl rfl rfl ?_
  refine j_aload_n (pc' := 116) rfl rfl rfl ?_
  refine j_gfr (pc' := 119) (x := 4) rfl rfl j_a1 rfl rfl ?_
  refine j_iconst (pc' := 120) (x := (0 : Int32)) rfl rfl rfl ?_
  refine j_bipush (pc' := 122) (x := (20 : Int32)) rfl rfl rfl ?_
  refine j_cpi (pc' := 125) rfl rfl rfl j_a54 j_a4 (fun σ13 => ?_)
  refine j_aload_n (pc' := 126) rfl rfl rfl ?_
  refine j_gfr (pc' := 129) (x := 5) rfl rfl j_a1 rfl rfl ?_
  refine j_aload_n (pc' := 130) rfl rfl rfl ?_
  refine j_gfr (pc' := 133) (x := 55) rfl rfl j_a51 rfl rfl ?_
  refine j_callRv (pc' := 136) (ai := 30) (vs := [.ref 5, .ref 55]) (rest := []) rfl rfl (fun _ _ => rfl) (c_X3_copy_5_55  σ13) (j_dd rfl hd) rfl (fun σ14 => ?_)
  exact j_ret rfl rfl rfl (fun _ h => h)

theorem c_X3_copy_5_63 (σ : j_G) : j_K true 0 30 [.ref 5, .ref 63] σ (f_X3_copy 63 5 64 6 65 7 66 8 σ) j_Rv := by
  refine j_mkK (M := M_cX3_copy) (L := [some (.ref 5), some (.ref 63)]) (m := 0) t_30 rfl (j_rcvO j_a5 rfl) rfl (fun d hd τ => ?_)
  unfold f_X3_copy
  refine j_aload_n (pc' := 1) rfl rfl rfl ?_
  refine j_aload_n (pc' := 2) rfl rfl rfl ?_
  refine j_gfi (pc' := 5) rfl rfl j_a63 rfl ?_
  refine j_pfi (pc' := 8) rfl rfl j_a5 rfl rfl (fun σ1 => ?_)
  refine j_aload_n (pc' := 9) rfl rfl rfl ?_
  refine j_aload_n (pc' := 10) rfl rfl rfl ?_
  refine j_gfi (pc' := 13) rfl rfl j_a63 rfl ?_
  refine j_pfi (pc' := 16) rfl rfl j_a5 rfl rfl (fun σ2 => ?_)
  refine j_aload_n (pc' := 17) rfl rfl rfl ?_
  refine j_gfr (pc' := 20) (x := 64) rfl rfl j_a63 rfl rfl ?_
  refine j_iconst (pc' := 21) (x := (0 : Int32)) rfl rfl rfl ?_
  refine j_aload_n (pc' := 22) rfl rfl rfl ?_
  refine j_gfr (pc' := 25) (x := 6) rfl rfl j_a5 rfl rfl ?_
  refine j_iconst (pc' := 26) (x := (0 : Int32)) rfl rfl rfl ?_
  refine j_bipush (pc' := 28) (x := (24 : Int32)) rfl rfl rfl ?_
  refine j_cpi (pc' := 31) rfl rfl rfl j_a64 j_a6 (fun σ3 => ?_)
  refine j_aload_n (pc' := 32) rfl rfl rfl ?_
  refine j_gfr (pc' := 35) (x := 65) rfl rfl j_a63 rfl rfl ?_
  refine j_iconst (pc' := 36) (x := (0 : Int32)) rfl rfl rfl ?_
  refine j_aload_n (pc' := 37) rfl rfl rfl ?_
  refine j_gfr (pc' := 40) (x := 7) rfl rfl j_a5 rfl rfl ?_
  refine j_iconst (pc' := 41) (x := (0 : Int32)) rfl rfl rfl ?_
  refine j_bipush (pc' := 43) (x := (24 : Int32)) rfl rfl rfl ?_
  refine j_cpi (pc' := 46) rfl rfl rfl j_a65 j_a7 (fun σ4 => ?_)
  refine j_aload_n (pc' := 47) rfl rfl rfl ?_
  refine j_gfr (pc' := 50) (x := 66) rfl rfl j_a63 rfl rfl ?_
  refine j_iconst (pc' := 51) (x := (0 : Int32)) rfl rfl rfl ?_
  refine j_aload_n (pc' := 52) rfl rfl rfl ?_
  refine j_gfr (pc' := 55) (x := 8) rfl rfl j_a5 rfl rfl ?_
  refine j_iconst (pc' := 56) (x := (0 : Int32)) rfl rfl rfl ?_
  refine j_bipush (pc' := 58) (x := (24 : Int32)) rfl rfl rfl ?_
  refine j_cpi (pc' := 61) rfl rfl rfl j_a66 j_a8 (fun σ5 => ?_)
  exact j_ret rfl rfl rfl (fun _ h => h)

theorem c_X2_copy_1_59 (σ : j_G) : j_K true 1 10 [.ref 1, .ref 59] σ (f_X2_copy 59 1 60 2 61 3 62 4 63 5 64 6 65 7 66 8 σ) j_Rv := by
  refine j_mkK (M := M_cX2_copy) (L := [some (.ref 1), some (.ref 59)]) (m := 0) t_10 rfl (j_rcvO j_a1 rfl) rfl (fun d hd τ => ?_)
  unfold f_X2_copy
  refine j_aload_n (pc' := 1) rfl rfl rfl ?_
  refine j_aload_n (pc' := 2) rfl rfl rfl ?_
  refine j_gfi (pc' := 5) rfl rfl j_a59 rfl ?_
  refine j_pfi (pc' := 8) rfl rfl j_a1 rfl rfl (fun σ1 => ?_)
  refine j_aload_n (pc' := 9) rfl rfl rfl ?_
  refine j_aload_n (pc' := 10) rfl rfl rfl ?_
  refine j_gfi (pc' := 13) rfl rfl j_a59 rfl ?_
  refine j_pfi (pc' := 16) rfl rfl j_a1 rfl rfl (fun σ2 => ?_)
  refine j_aload_n (pc' := 17) rfl rfl rfl ?_
  refine j_aload_n (pc' := 18) rfl rfl rfl ?_
  refine j_gfi (pc' := 21) rfl rfl j_a59 rfl ?_
  refine j_pfi (pc' := 24) rfl rfl j_a1 rfl rfl (fun σ3 => ?_)
  refine j_aload_n (pc' := 25) rfl rfl rfl ?_
  refine j_aload_n (pc' := 26) rfl rfl rfl ?_
  refine j_gfi (pc' := 29) rfl rfl j_a59 rfl ?_
  refine j_pfi (pc' := 32) rfl rfl j_a1 rfl rfl (fun σ4 => ?_)
  refine j_aload_n (pc' := 33) rfl rfl rfl ?_
  refine j_aload_n (pc' := 34) rfl rfl rfl ?_
  refine j_gfi (pc' := 37) rfl rfl j_a59 rfl ?_
  refine j_pfi (pc' := 40) rfl rfl j_a1 rfl rfl (fun σ5 => ?_)
  refine j_aload_n (pc' := 41) rfl rfl rfl ?_
  refine j_aload_n (pc' := 42) rfl rfl rfl ?_
  refine j_gfi (pc' := 45) rfl rfl j_a59 rfl ?_
  refine j_pfi (pc' := 48) rfl rfl j_a1 rfl rfl (fun σ6 => ?_)
  refine j_aload_n (pc' := 49) rfl rfl rfl ?_
  refine j_aload_n (pc' := 50) rfl rfl rfl ?_
  refine j_gfi (pc' := 53) rfl rfl j_a59 rfl ?_
  refine j_pfi (pc' := 56) rfl rfl j_a1 rfl rfl (fun σ7 => ?_)
  refine j_aload_n (pc' := 57) rfl rfl rfl ?_
  refine j_aload_n (pc' := 58) rfl rfl rfl ?_
  refine j_gfi (pc' := 61) rfl rfl j_a59 rfl ?_
  refine j_pfi (pc' := 64) rfl rfl j_a1 rfl rfl (fun σ8 => ?_)
  refine j_aload_n (pc' := 65) rfl rfl rfl ?_
  refine j_aload_n (pc' := 66) rfl rfl rfl ?_
  refine j_gfi (pc' := 69) rfl rfl j_a59 rfl ?_
  refine j_pfi (pc' := 72) rfl rfl j_a1 rfl rfl (fun σ9 => ?_)
  refine j_aload_n (pc' := 73) rfl rfl rfl ?_
  refine j_aload_n (pc' := 74) rfl rfl rfl ?_
  refine j_gfi (pc' := 77) rfl rfl j_a59 rfl ?_
  refine j_pfi (pc' := 80) rfl rfl j_a1 rfl rfl (fun σ10 => ?_)
  refine j_aload_n (pc' := 81) rfl rfl rfl ?_
  refine j_gfr (pc' := 84) (x := 60) rfl rfl j_a59 rfl rfl ?_
  refine j_iconst (pc' := 85) (x := (0 : Int32)) rfl rfl rfl ?_
  refine j_aload_n (pc' := 86) rfl rfl rfl ?_
  refine j_gfr (pc' := 89) (x := 2) rfl rfl j_a1 rfl rfl ?_
  refine j_iconst (pc' := 90) (x := (0 : Int32)) rfl rfl rfl ?_
  refine j_bipush (pc' := 92) (x := (6 : Int32)) rfl rfl rfl ?_
  refine j_cpi (pc' := 95) rfl rfl rfl j_a60 j_a2 (fun σ11 => ?_)
  refine j_aload_n (pc' := 96) rfl rfl rfl ?_
  refine j_gfr (pc' := 99) (x := 61) rfl rfl j_a59 rfl rfl ?_
  refine j_iconst (pc' := 100) (x := (0 : Int32)) rfl rfl rfl ?_
  refine j_aload_n (pc' := 101) rfl rfl rfl ?_
  refine j_gfr (pc' := 104) (x := 3) rfl rfl j_a1 rfl rfl ?_
  refine j_iconst (pc' := 105) (x := (0 : Int32)) rfl rfl rfl ?_
  refine j_bipush (pc' := 107) (x := (6 : Int32)) rfl rfl rfl ?_
  refine j_cpi (pc' := 110) rfl rfl rfl j_a61 j_a3 (fun σ12 => ?_)
  refine j_aload_n (pc' := 111) rfl rfl rfl ?_
  refine j_gfr (pc' := 114) (x := 62) rfl rfl j_a59 rfl rfl ?_
  refine j_iconst (pc' := 115) (x := (0 : Int32)) rfl rfl rfl ?_
  refine j_aload_n (pc' := 116) rfl rfl rfl ?_
  refine j_gfr (pc' := 119) (x := 4) rfl rfl j_a1 rfl rfl ?_
  refine j_iconst (pc' := 120) (x := (0 : Int32)) rfl rfl rfl ?_
  refine j_bipush (pc' := 122) (x := (20 : Int32)) rfl rfl rfl ?_
  refine j_cpi (pc' := 125) rfl rfl rfl j_a62 j_a4 (fun σ13 => ?_)
  refine j_aload_n (pc' := 126) rfl rfl rfl ?_
  refine j_gfr (pc' := 129) (x := 5) rfl rfl j_a1 rfl rfl ?_
  refine j_aload_n (pc' := 130) rfl rfl rfl ?_
  refine j_gfr (pc' := 133) (x := 63) rfl rfl j_a59 rfl rfl ?_
  refine j_callRv (pc' := 136) (ai := 30) (vs := [.ref 5, .ref 63]) (rest := []) rfl rfl (fun _ _ => rfl) (c_X3_copy_5_63  σ13) (j_dd rfl hd) rfl (fun σ14 => ?_)
  exact j_ret rfl rfl rfl (fun _ h => h)

noncomputable def f_X11_back (l1 : Int32) (σ : j_G) : Option (Int32 × j_G) :=
  if (l1 < 0) ∨ (¬ l1 < (3 : Int32)) then (some ((-2 : Int32), σ)) else (if l1 = 0 then (if (σ.1 43 0) = 0 then (some ((-6 : Int32), σ)) else (j_b1 (f_X2_copy 43 1 44 2 45 3 46 4 47 5 48 6 49 7 50 8 σ) fun σ1 =>
  some ((0 : Int32), σ1))) else
  if l1 = 1 then (if (σ.1 51 0) = 0 then (some ((-6 : Int32), σ)) else (j_b1 (f_X2_copy 51 1 52 2 53 3 54 4 55 5 56 6 57 7 58 8 σ) fun σ2 =>
  some ((0 : Int32), σ2))) else
  if l1 = 2 then (if (σ.1 59 0) = 0 then (some ((-6 : Int32), σ)) else (j_b1 (f_X2_copy 59 1 60 2 61 3 62 4 63 5 64 6 65 7 66 8 σ) fun σ3 =>
  some ((0 : Int32), σ3))) else
  none)
theorem c_X11_back (l1 : Int32) (σ : j_G) : j_K true 2 178 [.ref 0, .int l1] σ (f_X11_back l1 σ) j_Ri := by
  refine j_mkK (M := M_cX11_back) (L := [some (.ref 0), some (.int l1)]) (m := 0) t_178 rfl (j_rcvO j_a0 rfl) rfl (fun d hd τ => ?_)
  unfold f_X11_back
  refine j_iload_n (pc' := 1) rfl rfl rfl ?_
  refine j_two (pT := 9) (pF := 12) (L1 := [some (.ref 0), some (.int l1)]) (st1 := []) (fun o kT kF => ?_) (fun h10 => ?_) (fun h10 => ?_)
  · refine j_iflt (t := 9) (pc' := 4) rfl rfl rfl (fun h11 => ?_) (fun h11 => ?_)
    · exact kT (Or.inl h11)
    · refine j_iload_n (pc' := 5) rfl rfl rfl ?_
      refine j_iconst (pc' := 6) (x := (3 : Int32)) rfl rfl rfl ?_
      refine j_iclt (t := 12) (pc' := 9) rfl rfl rfl (fun h12 => ?_) (fun h12 => ?_)
      · exact kF (fun z => z.elim h11 (fun z => z h12))
      · exact kT (Or.inr (h12))
  · refine j_bipush (pc' := 11) (x := (-2 : Int32)) rfl rfl rfl ?_
    exact j_ret rfl rfl rfl (fun _ h => h)
  · refine j_aload_n (pc' := 13) rfl rfl rfl ?_
    refine j_gfr (pc' := 16) (x := 9) rfl rfl j_a0 rfl rfl ?_
    refine j_iload_n (pc' := 17) rfl rfl rfl ?_
    refine j_spl (k := (0 : Int32)) (fun h1 => ?_) (fun h1 => ?_)
    · subst h1
      refine j_aald (pc' := 18) (r := 43) rfl rfl j_a9 (by decide) rfl ?_
      refine j_gfi (pc' := 21) rfl rfl j_a43 rfl ?_
      refine j_two (pT := 24) (pF := 27) (L1 := [some (.ref 0), some (.int (0 : Int32))]) (st1 := []) (fun o kT kF => ?_) (fun h2 => ?_) (fun h2 => ?_)
      · refine j_ifne (t := 27) (pc' := 24) rfl rfl rfl (fun h3 => ?_) (fun h3 => ?_)
        · exact kF h3
        · exact kT h3
      · refine j_bipush (pc' := 26) (x := (-6 : Int32)) rfl rfl rfl ?_
        exact j_ret rfl rfl rfl (fun _ h => h)
      · refine j_aload_n (pc' := 28) rfl rfl rfl ?_
        refine j_gfr (pc' := 31) (x := 1) rfl rfl j_a0 rfl rfl ?_
        refine j_aload_n (pc' := 32) rfl rfl rfl ?_
        refine j_gfr (pc' := 35) (x := 9) rfl rfl j_a0 rfl rfl ?_
        refine j_iload_n (pc' := 36) rfl rfl rfl ?_
        refine j_aald (pc' := 37) (r := 43) rfl rfl j_a9 (by decide) rfl ?_
        refine j_callRv (pc' := 40) (ai := 10) (vs := [.ref 1, .ref 43]) (rest := []) rfl rfl (fun _ _ => rfl) (c_X2_copy_1_43  σ) (j_dd rfl hd) rfl (fun σ1 => ?_)
        refine j_iconst (pc' := 41) (x := (0 : Int32)) rfl rfl rfl ?_
        exact j_ret rfl rfl rfl (fun _ h => h)
    refine j_spl (k := (1 : Int32)) (fun h4 => ?_) (fun h4 => ?_)
    · subst h4
      refine j_aald (pc' := 18) (r := 51) rfl rfl j_a9 (by decide) rfl ?_
      refine j_gfi (pc' := 21) rfl rfl j_a51 rfl ?_
      refine j_two (pT := 24) (pF := 27) (L1 := [some (.ref 0), some (.int (1 : Int32))]) (st1 := []) (fun o kT kF => ?_) (fun h5 => ?_) (fun h5 => ?_)
      · refine j_ifne (t := 27) (pc' := 24) rfl rfl rfl (fun h6 => ?_) (fun h6 => ?_)
        · exact kF h6
        · exact kT h6
      · refine j_bipush (pc' := 26) (x := (-6 : Int32)) rfl rfl rfl ?_
        exact j_ret rfl rfl rfl (fun _ h => h)
      · refine j_aload_n (pc' := 28) rfl rfl rfl ?_
        refine j_gfr (pc' := 31) (x := 1) rfl rfl j_a0 rfl rfl ?_
        refine j_aload_n (pc' := 32) rfl rfl rfl ?_
        refine j_gfr (pc' := 35) (x := 9) rfl rfl j_a0 rfl rfl ?_
        refine j_iload_n (pc' := 36) rfl rfl rfl ?_
        refine j_aald (pc' := 37) (r := 51) rfl rfl j_a9 (by decide) rfl ?_
        refine j_callRv (pc' := 40) (ai := 10) (vs := [.ref 1, .ref 51]) (rest := []) rfl rfl (fun _ _ => rfl) (c_X2_copy_1_51  σ) (j_dd rfl hd) rfl (fun σ2 => ?_)
        refine j_iconst (pc' := 41) (x := (0 : Int32)) rfl rfl rfl ?_
        exact j_ret rfl rfl rfl (fun _ h => h)
    refine j_spl (k := (2 : Int32)) (fun h7 => ?_) (fun h7 => ?_)
    · subst h7
      refine j_aald (pc' := 18) (r := 59) rfl rfl j_a9 (by decide) rfl ?_
      refine j_gfi (pc' := 21) rfl rfl j_a59 rfl ?_
      refine j_two (pT := 24) (pF := 27) (L1 := [some (.ref 0), some (.int (2 : Int32))]) (st1 := []) (fun o kT kF => ?_) (fun h8 => ?_) (fun h8 => ?_)
      · refine j_ifne (t := 27) (pc' := 24) rfl rfl rfl (fun h9 => ?_) (fun h9 => ?_)
        · exact kF h9
        · exact kT h9
      · refine j_bipush (pc' := 26) (x := (-6 : Int32)) rfl rfl rfl ?_
        exact j_ret rfl rfl rfl (fun _ h => h)
      · refine j_aload_n (pc' := 28) rfl rfl rfl ?_
        refine j_gfr (pc' := 31) (x := 1) rfl rfl j_a0 rfl rfl ?_
        refine j_aload_n (pc' := 32) rfl rfl rfl ?_
        refine j_gfr (pc' := 35) (x := 9) rfl rfl j_a0 rfl rfl ?_
        refine j_iload_n (pc' := 36) rfl rfl rfl ?_
        refine j_aald (pc' := 37) (r := 59) rfl rfl j_a9 (by decide) rfl ?_
        refine j_callRv (pc' := 40) (ai := 10) (vs := [.ref 1, .ref 59]) (rest := []) rfl rfl (fun _ _ => rfl) (c_X2_copy_1_59  σ) (j_dd rfl hd) rfl (fun σ3 => ?_)
        refine j_iconst (pc' := 41) (x := (0 : Int32)) rfl rfl rfl ?_
        exact j_ret rfl rfl rfl (fun _ h => h)
    exact j_none

noncomputable def p_X12_back_29 (l1 : Int32) : Nat → Int32 → j_G → Option j_G
  | 0, _, _ => none
  | n + 1, l2, σ =>
    if l2 < (116 : Int32) then (j_ix (((116 : Int32) * l1) + l2) 348 (
    j_ix l2 116 (
    j_lt (j_si σ 76 (l2).toNatClampNeg (σ.1 77 ((((116 : Int32) * l1) + l2)).toNatClampNeg)) fun σ1 =>
    p_X12_back_29 l1 n (l2 + (1 : Int32)) σ1))) else (some σ)

noncomputable def f_X12_back (l1 : Int32) (σ : j_G) : Option (Int32 × j_G) :=
  if (f_X12_in (l1).toInt64 (0 : Int64) (2 : Int64)) = 0 then (some ((-2 : Int32), σ)) else (j_ix l1 3 (
  if (σ.1 78 (l1).toNatClampNeg) = 0 then (some ((-6 : Int32), σ)) else (j_b1 (p_X12_back_29 l1 j_F (0 : Int32) σ) fun σ1 =>
  some ((0 : Int32), σ1))))
theorem l_X12_back_29 {d : Nat} (hd : 1 ≤ d) (τ : j_G) (l1 : Int32) : ∀ (n : Nat) (l2 : Int32) (σ : j_G), j_J false τ M_cX12_back d 29 [some (.ref 75), some (.int l1), some (.int l2)] [] σ (p_X12_back_29 l1 n l2 σ) (fun r Q => j_Tr false τ M_cX12_back d 58 [none, none, none] [] r Q) := by
  intro n
  induction n with
  | zero => intro l2 σ; exact j_none
  | succ n ih =>
    intro l2 σ
    unfold p_X12_back_29
    refine j_iload_n (pc' := 30) rfl rfl rfl ?_
    refine j_bipush (pc' := 32) (x := (116 : Int32)) rfl rfl rfl ?_
    refine j_two (pT := 35) (pF := 58) (L1 := [some (.ref 75), some (.int l1), some (.int l2)]) (st1 := []) (fun o kT kF => ?_) (fun h1 => ?_) (fun h1 => ?_)
    · refine j_icge (t := 58) (pc' := 35) rfl rfl rfl (fun h2 => ?_) (fun h2 => ?_)
      · exact kF h2
      · exact kT h2
    · refine j_aload_n (pc' := 36) rfl rfl rfl ?_
      refine j_gfr (pc' := 39) (x := 76) rfl rfl j_a75 rfl rfl ?_
      refine j_iload_n (pc' := 40) rfl rfl rfl ?_
      refine j_aload_n (pc' := 41) rfl rfl rfl ?_
      refine j_gfr (pc' := 44) (x := 77) rfl rfl j_a75 rfl rfl ?_
      refine j_bipush (pc' := 46) (x := (116 : Int32)) rfl rfl rfl ?_
      refine j_iload_n (pc' := 47) rfl rfl rfl ?_
      refine j_imul (pc' := 48) rfl rfl ?_
      refine j_iload_n (pc' := 49) rfl rfl rfl ?_
      refine j_iadd (pc' := 50) rfl rfl ?_
      refine j_iald (pc' := 51) rfl rfl j_a77 ?_
      refine j_iast (pc' := 52) rfl rfl j_a76 (fun σ1 => ?_)
      refine j_iincx (pc' := 55) (y := (1 : Int32)) (L' := [some (.ref 75), some (.int l1), some (.int (l2 + (1 : Int32)))]) rfl rfl rfl rfl rfl ?_
      refine j_goto (t := 29) rfl rfl ?_
      exact ih (l2 + (1 : Int32)) σ1
    · refine j_wk [false, false, false] (L' := [none, none, none]) rfl ?_
      exact j_end (fun _ h => h)

theorem c_X12_back (l1 : Int32) (σ : j_G) : j_K false 1 198 [.ref 75, .int l1] σ (f_X12_back l1 σ) j_Ri := by
  refine j_mkK (M := M_cX12_back) (L := [some (.ref 75), some (.int l1), none]) (m := 1) t_198 rfl (j_rcvO j_a75 rfl) rfl (fun d hd τ => ?_)
  unfold f_X12_back
  refine j_iload_n (pc' := 1) rfl rfl rfl ?_
  refine j_i2l (pc' := 2) rfl rfl ?_
  refine j_lconst (pc' := 3) (x := (0 : Int64)) rfl rfl rfl ?_
  refine j_ldc2_w (pc' := 6) (x := (2 : Int64)) rfl rfl rfl ?_
  refine j_callTi (pc' := 9) (ai := 196) (vs := [.long (l1).toInt64, .long (0 : Int64), .long (2 : Int64)]) (rest := []) rfl rfl (fun _ _ => rfl) (c_X12_in (l1).toInt64 (0 : Int64) (2 : Int64) σ) (j_dd rfl hd) rfl ?_
  refine j_two (pT := 12) (pF := 15) (L1 := [some (.ref 75), some (.int l1), none]) (st1 := []) (fun o kT kF => ?_) (fun h3 => ?_) (fun h3 => ?_)
  · refine j_ifne (t := 15) (pc' := 12) rfl rfl rfl (fun h4 => ?_) (fun h4 => ?_)
    · exact kF h4
    · exact kT h4
  · refine j_bipush (pc' := 14) (x := (-2 : Int32)) rfl rfl rfl ?_
    exact j_ret rfl rfl rfl (fun _ h => h)
  · refine j_aload_n (pc' := 16) rfl rfl rfl ?_
    refine j_gfr (pc' := 19) (x := 78) rfl rfl j_a75 rfl rfl ?_
    refine j_iload_n (pc' := 20) rfl rfl rfl ?_
    refine j_baldz (pc' := 21) rfl rfl j_a78 ?_
    refine j_two (pT := 24) (pF := 27) (L1 := [some (.ref 75), some (.int l1), none]) (st1 := []) (fun o kT kF => ?_) (fun h1 => ?_) (fun h1 => ?_)
    · refine j_ifne (t := 27) (pc' := 24) rfl rfl rfl (fun h2 => ?_) (fun h2 => ?_)
      · exact kF h2
      · exact kT h2
    · refine j_bipush (pc' := 26) (x := (-6 : Int32)) rfl rfl rfl ?_
      exact j_ret rfl rfl rfl (fun _ h => h)
    · refine j_iconst (pc' := 28) (x := (0 : Int32)) rfl rfl rfl ?_
      refine j_istore_n (pc' := 29) (L' := [some (.ref 75), some (.int l1), some (.int (0 : Int32))]) rfl rfl rfl ?_
      refine j_q1 (l_X12_back_29 hd τ l1 j_F (0 : Int32) σ) (fun σ1 => ?_)
      show j_J false τ M_cX12_back d 58 [none, none, none] [] σ1 _ _
      refine j_iconst (pc' := 59) (x := (0 : Int32)) rfl rfl rfl ?_
      exact j_ret rfl rfl rfl (fun _ h => h)

noncomputable def p_X8_make_23 (a0_2 : Nat) : Nat → Int32 → j_G → Option j_G
  | 0, _, _ => none
  | n + 1, l3, σ =>
    if l3 < (60 : Int32) then (j_ix l3 60 (
    j_lt (j_sl σ a0_2 (l3).toNatClampNeg (0 : Int64)) fun σ1 =>
    p_X8_make_23 a0_2 n (l3 + (1 : Int32)) σ1)) else (some σ)

noncomputable def f_X8_make (a0 : Nat) (a0_2 : Nat) (l1 : Int32) (l2 : Int32) (σ : j_G) : Option j_G :=
  if (l2 < 0) ∨ ((60 : Int32) < l2) then (some σ) else (j_lt (j_si σ a0 1 l1) fun σ1 =>
  j_lt (j_si σ1 a0 0 l2) fun σ2 =>
  j_b1 (p_X8_make_23 a0_2 j_F (0 : Int32) σ2) fun σ3 =>
  some σ3)
theorem l_X8_make_23_67 {d : Nat} (hd : 0 ≤ d) (τ : j_G) : ∀ (n : Nat) (l3 : Int32) (σ : j_G), j_J true τ M_cX8_make d 23 [some (.ref 67), none, none, some (.int l3)] [] σ (p_X8_make_23 68 n l3 σ) (fun r Q => j_Tr true τ M_cX8_make d 42 [none, none, none, none] [] r Q) := by
  intro n
  induction n with
  | zero => intro l3 σ; exact j_none
  | succ n ih =>
    intro l3 σ
    unfold p_X8_make_23
    refine j_iload_n (pc' := 24) rfl rfl rfl ?_
    refine j_bipush (pc' := 26) (x := (60 : Int32)) rfl rfl rfl ?_
    refine j_two (pT := 29) (pF := 42) (L1 := [some (.ref 67), none, none, some (.int l3)]) (st1 := []) (fun o kT kF => ?_) (fun h1 => ?_) (fun h1 => ?_)
    · refine j_icge (t := 42) (pc' := 29) rfl rfl rfl (fun h2 => ?_) (fun h2 => ?_)
      · exact kF h2
      · exact kT h2
    · refine j_aload_n (pc' := 30) rfl rfl rfl ?_
      refine j_gfr (pc' := 33) (x := 68) rfl rfl j_a67 rfl rfl ?_
      refine j_iload_n (pc' := 34) rfl rfl rfl ?_
      refine j_lconst (pc' := 35) (x := (0 : Int64)) rfl rfl rfl ?_
      refine j_last (pc' := 36) rfl rfl j_a68 (fun σ1 => ?_)
      refine j_iincx (pc' := 39) (y := (1 : Int32)) (L' := [some (.ref 67), none, none, some (.int (l3 + (1 : Int32)))]) rfl rfl rfl rfl rfl ?_
      refine j_goto (t := 23) rfl rfl ?_
      exact ih (l3 + (1 : Int32)) σ1
    · refine j_wk [false, true, true, false] (L' := [none, none, none, none]) rfl ?_
      exact j_end (fun _ h => h)

theorem c_X8_make_67 (l1 : Int32) (l2 : Int32) (σ : j_G) : j_K true 0 92 [.ref 67, .int l1, .int l2] σ (f_X8_make 67 68 l1 l2 σ) j_Rv := by
  refine j_mkK (M := M_cX8_make) (L := [some (.ref 67), some (.int l1), some (.int l2), none]) (m := 1) t_92 rfl (j_rcvO j_a67 rfl) rfl (fun d hd τ => ?_)
  unfold f_X8_make
  refine j_iload_n (pc' := 1) rfl rfl rfl ?_
  refine j_two (pT := 10) (pF := 11) (L1 := [some (.ref 67), some (.int l1), some (.int l2), none]) (st1 := []) (fun o kT kF => ?_) (fun h1 => ?_) (fun h1 => ?_)
  · refine j_iflt (t := 10) (pc' := 4) rfl rfl rfl (fun h2 => ?_) (fun h2 => ?_)
    · exact kT (Or.inl h2)
    · refine j_iload_n (pc' := 5) rfl rfl rfl ?_
      refine j_bipush (pc' := 7) (x := (60 : Int32)) rfl rfl rfl ?_
      refine j_icle (t := 11) (pc' := 10) rfl rfl rfl (fun h3 => ?_) (fun h3 => ?_)
      · exact kF (fun z => z.elim h2 (h3))
      · exact kT (Or.inr (h3))
  · exact j_ret rfl rfl rfl (fun _ h => h)
  · refine j_aload_n (pc' := 12) rfl rfl rfl ?_
    refine j_iload_n (pc' := 13) rfl rfl rfl ?_
    refine j_pfi (pc' := 16) rfl rfl j_a67 rfl rfl (fun σ1 => ?_)
    refine j_aload_n (pc' := 17) rfl rfl rfl ?_
    refine j_iload_n (pc' := 18) rfl rfl rfl ?_
    refine j_pfi (pc' := 21) rfl rfl j_a67 rfl rfl (fun σ2 => ?_)
    refine j_iconst (pc' := 22) (x := (0 : Int32)) rfl rfl rfl ?_
    refine j_istore_n (pc' := 23) (L' := [some (.ref 67), some (.int l1), some (.int l2), some (.int (0 : Int32))]) rfl rfl rfl ?_
    refine j_wk [true, false, false, true] (L' := [some (.ref 67), none, none, some (.int (0 : Int32))]) rfl ?_
    refine j_q1 (l_X8_make_23_67 hd τ j_F (0 : Int32) σ2) (fun σ3 => ?_)
    show j_J true τ M_cX8_make d 42 [none, none, none, none] [] σ3 _ _
    exact j_ret rfl rfl rfl (fun _ h => h)

theorem l_X8_make_23_69 {d : Nat} (hd : 0 ≤ d) (τ : j_G) : ∀ (n : Nat) (l3 : Int32) (σ : j_G), j_J true τ M_cX8_make d 23 [some (.ref 69), none, none, some (.int l3)] [] σ (p_X8_make_23 70 n l3 σ) (fun r Q => j_Tr true τ M_cX8_make d 42 [none, none, none, none] [] r Q) := by
  intro n
  induction n with
  | zero => intro l3 σ; exact j_none
  | succ n ih =>
    intro l3 σ
    unfold p_X8_make_23
    refine j_iload_n (pc' := 24) rfl rfl rfl ?_
    refine j_bipush (pc' := 26) (x := (60 : Int32)) rfl rfl rfl ?_
    refine j_two (pT := 29) (pF := 42) (L1 := [some (.ref 69), none, none, some (.int l3)]) (st1 := []) (fun o kT kF => ?_) (fun h1 => ?_) (fun h1 => ?_)
    · refine j_icge (t := 42) (pc' := 29) rfl rfl rfl (fun h2 => ?_) (fun h2 => ?_)
      · exact kF h2
      · exact kT h2
    · refine j_aload_n (pc' := 30) rfl rfl rfl ?_
      refine j_gfr (pc' := 33) (x := 70) rfl rfl j_a69 rfl rfl ?_
      refine j_iload_n (pc' := 34) rfl rfl rfl ?_
      refine j_lconst (pc' := 35) (x := (0 : Int64)) rfl rfl rfl ?_
      refine j_last (pc' := 36) rfl rfl j_a70 (fun σ1 => ?_)
      refine j_iincx (pc' := 39) (y := (1 : Int32)) (L' := [some (.ref 69), none, none, some (.int (l3 + (1 : Int32)))]) rfl rfl rfl rfl rfl ?_
      refine j_goto (t := 23) rfl rfl ?_
      exact ih (l3 + (1 : Int32)) σ1
    · refine j_wk [false, true, true, false] (L' := [none, none, none, none]) rfl ?_
      exact j_end (fun _ h => h)

theorem c_X8_make_69 (l1 : Int32) (l2 : Int32) (σ : j_G) : j_K true 0 92 [.ref 69, .int l1, .int l2] σ (f_X8_make 69 70 l1 l2 σ) j_Rv := by
  refine j_mkK (M := M_cX8_make) (L := [some (.ref 69), some (.int l1), some (.int l2), none]) (m := 1) t_92 rfl (j_rcvO j_a69 rfl) rfl (fun d hd τ => ?_)
  unfold f_X8_make
  refine j_iload_n (pc' := 1) rfl rfl rfl ?_
  refine j_two (pT := 10) (pF := 11) (L1 := [some (.ref 69), some (.int l1), some (.int l2), none]) (st1 := []) (fun o kT kF => ?_) (fun h1 => ?_) (fun h1 => ?_)
  · refine j_iflt (t := 10) (pc' := 4) rfl rfl rfl (fun h2 => ?_) (fun h2 => ?_)
    · exact kT (Or.inl h2)
    · refine j_iload_n (pc' := 5) rfl rfl rfl ?_
      refine j_bipush (pc' := 7) (x := (60 : Int32)) rfl rfl rfl ?_
      refine j_icle (t := 11) (pc' := 10) rfl rfl rfl (fun h3 => ?_) (fun h3 => ?_)
      · exact kF (fun z => z.elim h2 (h3))
      · exact kT (Or.inr (h3))
  · exact j_ret rfl rfl rfl (fun _ h => h)
  · refine j_aload_n (pc' := 12) rfl rfl rfl ?_
    refine j_iload_n (pc' := 13) rfl rfl rfl ?_
    refine j_pfi (pc' := 16) rfl rfl j_a69 rfl rfl (fun σ1 => ?_)
    refine j_aload_n (pc' := 17) rfl rfl rfl ?_
    refine j_iload_n (pc' := 18) rfl rfl rfl ?_
    refine j_pfi (pc' := 21) rfl rfl j_a69 rfl rfl (fun σ2 => ?_)
    refine j_iconst (pc' := 22) (x := (0 : Int32)) rfl rfl rfl ?_
    refine j_istore_n (pc' := 23) (L' := [some (.ref 69), some (.int l1), some (.int l2), some (.int (0 : Int32))]) rfl rfl rfl ?_
    refine j_wk [true, false, false, true] (L' := [some (.ref 69), none, none, some (.int (0 : Int32))]) rfl ?_
    refine j_q1 (l_X8_make_23_69 hd τ j_F (0 : Int32) σ2) (fun σ3 => ?_)
    show j_J true τ M_cX8_make d 42 [none, none, none, none] [] σ3 _ _
    exact j_ret rfl rfl rfl (fun _ h => h)

theorem l_X8_make_23_71 {d : Nat} (hd : 0 ≤ d) (τ : j_G) : ∀ (n : Nat) (l3 : Int32) (σ : j_G), j_J true τ M_cX8_make d 23 [some (.ref 71), none, none, some (.int l3)] [] σ (p_X8_make_23 72 n l3 σ) (fun r Q => j_Tr true τ M_cX8_make d 42 [none, none, none, none] [] r Q) := by
  intro n
  induction n with
  | zero => intro l3 σ; exact j_none
  | succ n ih =>
    intro l3 σ
    unfold p_X8_make_23
    refine j_iload_n (pc' := 24) rfl rfl rfl ?_
    refine j_bipush (pc' := 26) (x := (60 : Int32)) rfl rfl rfl ?_
    refine j_two (pT := 29) (pF := 42) (L1 := [some (.ref 71), none, none, some (.int l3)]) (st1 := []) (fun o kT kF => ?_) (fun h1 => ?_) (fun h1 => ?_)
    · refine j_icge (t := 42) (pc' := 29) rfl rfl rfl (fun h2 => ?_) (fun h2 => ?_)
      · exact kF h2
      · exact kT h2
    · refine j_aload_n (pc' := 30) rfl rfl rfl ?_
      refine j_gfr (pc' := 33) (x := 72) rfl rfl j_a71 rfl rfl ?_
      refine j_iload_n (pc' := 34) rfl rfl rfl ?_
      refine j_lconst (pc' := 35) (x := (0 : Int64)) rfl rfl rfl ?_
      refine j_last (pc' := 36) rfl rfl j_a72 (fun σ1 => ?_)
      refine j_iincx (pc' := 39) (y := (1 : Int32)) (L' := [some (.ref 71), none, none, some (.int (l3 + (1 : Int32)))]) rfl rfl rfl rfl rfl ?_
      refine j_goto (t := 23) rfl rfl ?_
      exact ih (l3 + (1 : Int32)) σ1
    · refine j_wk [false, true, true, false] (L' := [none, none, none, none]) rfl ?_
      exact j_end (fun _ h => h)

theorem c_X8_make_71 (l1 : Int32) (l2 : Int32) (σ : j_G) : j_K true 0 92 [.ref 71, .int l1, .int l2] σ (f_X8_make 71 72 l1 l2 σ) j_Rv := by
  refine j_mkK (M := M_cX8_make) (L := [some (.ref 71), some (.int l1), some (.int l2), none]) (m := 1) t_92 rfl (j_rcvO j_a71 rfl) rfl (fun d hd τ => ?_)
  unfold f_X8_make
  refine j_iload_n (pc' := 1) rfl rfl rfl ?_
  refine j_two (pT := 10) (pF := 11) (L1 := [some (.ref 71), some (.int l1), some (.int l2), none]) (st1 := []) (fun o kT kF => ?_) (fun h1 => ?_) (fun h1 => ?_)
  · refine j_iflt (t := 10) (pc' := 4) rfl rfl rfl (fun h2 => ?_) (fun h2 => ?_)
    · exact kT (Or.inl h2)
    · refine j_iload_n (pc' := 5) rfl rfl rfl ?_
      refine j_bipush (pc' := 7) (x := (60 : Int32)) rfl rfl rfl ?_
      refine j_icle (t := 11) (pc' := 10) rfl rfl rfl (fun h3 => ?_) (fun h3 => ?_)
      · exact kF (fun z => z.elim h2 (h3))
      · exact kT (Or.inr (h3))
  · exact j_ret rfl rfl rfl (fun _ h => h)
  · refine j_aload_n (pc' := 12) rfl rfl rfl ?_
    refine j_iload_n (pc' := 13) rfl rfl rfl ?_
    refine j_pfi (pc' := 16) rfl rfl j_a71 rfl rfl (fun σ1 => ?_)
    refine j_aload_n (pc' := 17) rfl rfl rfl ?_
    refine j_iload_n (pc' := 18) rfl rfl rfl ?_
    refine j_pfi (pc' := 21) rfl rfl j_a71 rfl rfl (fun σ2 => ?_)
    refine j_iconst (pc' := 22) (x := (0 : Int32)) rfl rfl rfl ?_
    refine j_istore_n (pc' := 23) (L' := [some (.ref 71), some (.int l1), some (.int l2), some (.int (0 : Int32))]) rfl rfl rfl ?_
    refine j_wk [true, false, false, true] (L' := [some (.ref 71), none, none, some (.int (0 : Int32))]) rfl ?_
    refine j_q1 (l_X8_make_23_71 hd τ j_F (0 : Int32) σ2) (fun σ3 => ?_)
    show j_J true τ M_cX8_make d 42 [none, none, none, none] [] σ3 _ _
    exact j_ret rfl rfl rfl (fun _ h => h)

theorem l_X8_make_23_73 {d : Nat} (hd : 0 ≤ d) (τ : j_G) : ∀ (n : Nat) (l3 : Int32) (σ : j_G), j_J true τ M_cX8_make d 23 [some (.ref 73), none, none, some (.int l3)] [] σ (p_X8_make_23 74 n l3 σ) (fun r Q => j_Tr true τ M_cX8_make d 42 [none, none, none, none] [] r Q) := by
  intro n
  induction n with
  | zero => intro l3 σ; exact j_none
  | succ n ih =>
    intro l3 σ
    unfold p_X8_make_23
    refine j_iload_n (pc' := 24) rfl rfl rfl ?_
    refine j_bipush (pc' := 26) (x := (60 : Int32)) rfl rfl rfl ?_
    refine j_two (pT := 29) (pF := 42) (L1 := [some (.ref 73), none, none, some (.int l3)]) (st1 := []) (fun o kT kF => ?_) (fun h1 => ?_) (fun h1 => ?_)
    · refine j_icge (t := 42) (pc' := 29) rfl rfl rfl (fun h2 => ?_) (fun h2 => ?_)
      · exact kF h2
      · exact kT h2
    · refine j_aload_n (pc' := 30) rfl rfl rfl ?_
      refine j_gfr (pc' := 33) (x := 74) rfl rfl j_a73 rfl rfl ?_
      refine j_iload_n (pc' := 34) rfl rfl rfl ?_
      refine j_lconst (pc' := 35) (x := (0 : Int64)) rfl rfl rfl ?_
      refine j_last (pc' := 36) rfl rfl j_a74 (fun σ1 => ?_)
      refine j_iincx (pc' := 39) (y := (1 : Int32)) (L' := [some (.ref 73), none, none, some (.int (l3 + (1 : Int32)))]) rfl rfl rfl rfl rfl ?_
      refine j_goto (t := 23) rfl rfl ?_
      exact ih (l3 + (1 : Int32)) σ1
    · refine j_wk [false, true, true, false] (L' := [none, none, none, none]) rfl ?_
      exact j_end (fun _ h => h)

theorem c_X8_make_73 (l1 : Int32) (l2 : Int32) (σ : j_G) : j_K true 0 92 [.ref 73, .int l1, .int l2] σ (f_X8_make 73 74 l1 l2 σ) j_Rv := by
  refine j_mkK (M := M_cX8_make) (L := [some (.ref 73), some (.int l1), some (.int l2), none]) (m := 1) t_92 rfl (j_rcvO j_a73 rfl) rfl (fun d hd τ => ?_)
  unfold f_X8_make
  refine j_iload_n (pc' := 1) rfl rfl rfl ?_
  refine j_two (pT := 10) (pF := 11) (L1 := [some (.ref 73), some (.int l1), some (.int l2), none]) (st1 := []) (fun o kT kF => ?_) (fun h1 => ?_) (fun h1 => ?_)
  · refine j_iflt (t := 10) (pc' := 4) rfl rfl rfl (fun h2 => ?_) (fun h2 => ?_)
    · exact kT (Or.inl h2)
    · refine j_iload_n (pc' := 5) rfl rfl rfl ?_
      refine j_bipush (pc' := 7) (x := (60 : Int32)) rfl rfl rfl ?_
      refine j_icle (t := 11) (pc' := 10) rfl rfl rfl (fun h3 => ?_) (fun h3 => ?_)
      · exact kF (fun z => z.elim h2 (h3))
      · exact kT (Or.inr (h3))
  · exact j_ret rfl rfl rfl (fun _ h => h)
  · refine j_aload_n (pc' := 12) rfl rfl rfl ?_
    refine j_iload_n (pc' := 13) rfl rfl rfl ?_
    refine j_pfi (pc' := 16) rfl rfl j_a73 rfl rfl (fun σ1 => ?_)
    refine j_aload_n (pc' := 17) rfl rfl rfl ?_
    refine j_iload_n (pc' := 18) rfl rfl rfl ?_
    refine j_pfi (pc' := 21) rfl rfl j_a73 rfl rfl (fun σ2 => ?_)
    refine j_iconst (pc' := 22) (x := (0 : Int32)) rfl rfl rfl ?_
    refine j_istore_n (pc' := 23) (L' := [some (.ref 73), some (.int l1), some (.int l2), some (.int (0 : Int32))]) rfl rfl rfl ?_
    refine j_wk [true, false, false, true] (L' := [some (.ref 73), none, none, some (.int (0 : Int32))]) rfl ?_
    refine j_q1 (l_X8_make_23_73 hd τ j_F (0 : Int32) σ2) (fun σ3 => ?_)
    show j_J true τ M_cX8_make d 42 [none, none, none, none] [] σ3 _ _
    exact j_ret rfl rfl rfl (fun _ h => h)

noncomputable def f_X11_row (l1 : Int32) (l2 : Int32) (l3 : Int32) (σ : j_G) : Option (Int32 × j_G) :=
  if ((f_X11_isSlot l1) = 0) ∨ ((l2 < 0) ∨ (((3 : Int32) < l2) ∨ ((60 : Int32) < l3))) then (some ((-2 : Int32), σ)) else (if l3 < 0 then (some ((-3 : Int32), σ)) else (if l1 = 0 then (j_b1 (f_X8_make 67 68 l2 l3 σ) fun σ1 =>
  some ((0 : Int32), σ1)) else
  if l1 = 1 then (j_b1 (f_X8_make 69 70 l2 l3 σ) fun σ2 =>
  some ((0 : Int32), σ2)) else
  if l1 = 2 then (j_b1 (f_X8_make 71 72 l2 l3 σ) fun σ3 =>
  some ((0 : Int32), σ3)) else
  if l1 = 3 then (j_b1 (f_X8_make 73 74 l2 l3 σ) fun σ4 =>
  some ((0 : Int32), σ4)) else
  none))
theorem c_X11_row (l1 : Int32) (l2 : Int32) (l3 : Int32) (σ : j_G) : j_K true 1 179 [.ref 0, .int l1, .int l2, .int l3] σ (f_X11_row l1 l2 l3 σ) j_Ri := by
  refine j_mkK (M := M_cX11_row) (L := [some (.ref 0), some (.int l1), some (.int l2), some (.int l3)]) (m := 0) t_179 rfl (j_rcvO j_a0 rfl) rfl (fun d hd τ => ?_)
  unfold f_X11_row
  refine j_iload_n (pc' := 1) rfl rfl rfl ?_
  refine j_callTi (pc' := 4) (ai := 182) (vs := [.int l1]) (rest := []) rfl rfl (fun _ _ => rfl) (c_X11_isSlot l1 σ) (j_dd rfl hd) rfl ?_
  refine j_two (pT := 22) (pF := 25) (L1 := [some (.ref 0), some (.int l1), some (.int l2), some (.int l3)]) (st1 := []) (fun o kT kF => ?_) (fun h7 => ?_) (fun h7 => ?_)
  · refine j_ifeq (t := 22) (pc' := 7) rfl rfl rfl (fun h8 => ?_) (fun h8 => ?_)
    · exact kT (Or.inl h8)
    · refine j_iload_n (pc' := 8) rfl rfl rfl ?_
      refine j_iflt (t := 22) (pc' := 11) rfl rfl rfl (fun h9 => ?_) (fun h9 => ?_)
      · exact kT (Or.inr (Or.inl h9))
      · refine j_iload_n (pc' := 12) rfl rfl rfl ?_
        refine j_iconst (pc' := 13) (x := (3 : Int32)) rfl rfl rfl ?_
        refine j_icgt (t := 22) (pc' := 16) rfl rfl rfl (fun h10 => ?_) (fun h10 => ?_)
        · exact kT (Or.inr (Or.inr (Or.inl h10)))
        · refine j_iload_n (pc' := 17) rfl rfl rfl ?_
          refine j_bipush (pc' := 19) (x := (60 : Int32)) rfl rfl rfl ?_
          refine j_icle (t := 25) (pc' := 22) rfl rfl rfl (fun h11 => ?_) (fun h11 => ?_)
          · exact kF (fun z => z.elim h8 (fun z => z.elim h9 (fun z => z.elim h10 (h11))))
          · exact kT (Or.inr (Or.inr (Or.inr (h11))))
  · refine j_bipush (pc' := 24) (x := (-2 : Int32)) rfl rfl rfl ?_
    exact j_ret rfl rfl rfl (fun _ h => h)
  · refine j_iload_n (pc' := 26) rfl rfl rfl ?_
    refine j_two (pT := 29) (pF := 32) (L1 := [some (.ref 0), some (.int l1), some (.int l2), some (.int l3)]) (st1 := []) (fun o kT kF => ?_) (fun h5 => ?_) (fun h5 => ?_)
    · refine j_ifge (t := 32) (pc' := 29) rfl rfl rfl (fun h6 => ?_) (fun h6 => ?_)
      · exact kF h6
      · exact kT h6
    · refine j_bipush (pc' := 31) (x := (-3 : Int32)) rfl rfl rfl ?_
      exact j_ret rfl rfl rfl (fun _ h => h)
    · refine j_aload_n (pc' := 33) rfl rfl rfl ?_
      refine j_gfr (pc' := 36) (x := 42) rfl rfl j_a0 rfl rfl ?_
      refine j_iload_n (pc' := 37) rfl rfl rfl ?_
      refine j_spl (k := (0 : Int32)) (fun h1 => ?_) (fun h1 => ?_)
      · subst h1
        refine j_aald (pc' := 38) (r := 67) rfl rfl j_a42 (by decide) rfl ?_
        refine j_iload_n (pc' := 39) rfl rfl rfl ?_
        refine j_iload_n (pc' := 40) rfl rfl rfl ?_
        refine j_callRv (pc' := 43) (ai := 92) (vs := [.ref 67, .int l2, .int l3]) (rest := []) rfl rfl (fun _ _ => rfl) (c_X8_make_67 l2 l3 σ) (j_dd rfl hd) rfl (fun σ1 => ?_)
        refine j_iconst (pc' := 44) (x := (0 : Int32)) rfl rfl rfl ?_
        exact j_ret rfl rfl rfl (fun _ h => h)
      refine j_spl (k := (1 : Int32)) (fun h2 => ?_) (fun h2 => ?_)
      · subst h2
        refine j_aald (pc' := 38) (r := 69) rfl rfl j_a42 (by decide) rfl ?_
        refine j_iload_n (pc' := 39) rfl rfl rfl ?_
        refine j_iload_n (pc' := 40) rfl rfl rfl ?_
        refine j_callRv (pc' := 43) (ai := 92) (vs := [.ref 69, .int l2, .int l3]) (rest := []) rfl rfl (fun _ _ => rfl) (c_X8_make_69 l2 l3 σ) (j_dd rfl hd) rfl (fun σ2 => ?_)
        refine j_iconst (pc' := 44) (x := (0 : Int32)) rfl rfl rfl ?_
        exact j_ret rfl rfl rfl (fun _ h => h)
      refine j_spl (k := (2 : Int32)) (fun h3 => ?_) (fun h3 => ?_)
      · subst h3
        refine j_aald (pc' := 38) (r := 71) rfl rfl j_a42 (by decide) rfl ?_
        refine j_iload_n (pc' := 39) rfl rfl rfl ?_
        refine j_iload_n (pc' := 40) rfl rfl rfl ?_
        refine j_callRv (pc' := 43) (ai := 92) (vs := [.ref 71, .int l2, .int l3]) (rest := []) rfl rfl (fun _ _ => rfl) (c_X8_make_71 l2 l3 σ) (j_dd rfl hd) rfl (fun σ3 => ?_)
        refine j_iconst (pc' := 44) (x := (0 : Int32)) rfl rfl rfl ?_
        exact j_ret rfl rfl rfl (fun _ h => h)
      refine j_spl (k := (3 : Int32)) (fun h4 => ?_) (fun h4 => ?_)
      · subst h4
        refine j_aald (pc' := 38) (r := 73) rfl rfl j_a42 (by decide) rfl ?_
        refine j_iload_n (pc' := 39) rfl rfl rfl ?_
        refine j_iload_n (pc' := 40) rfl rfl rfl ?_
        refine j_callRv (pc' := 43) (ai := 92) (vs := [.ref 73, .int l2, .int l3]) (rest := []) rfl rfl (fun _ _ => rfl) (c_X8_make_73 l2 l3 σ) (j_dd rfl hd) rfl (fun σ4 => ?_)
        refine j_iconst (pc' := 44) (x := (0 : Int32)) rfl rfl rfl ?_
        exact j_ret rfl rfl rfl (fun _ h => h)
      exact j_none

noncomputable def p_X12_row_52 (l1 : Int32) : Nat → Int32 → j_G → Option j_G
  | 0, _, _ => none
  | n + 1, l4, σ =>
    if l4 < (60 : Int32) then (j_ix (((60 : Int32) * l1) + l4) 240 (
    j_lt (j_sl σ 96 ((((60 : Int32) * l1) + l4)).toNatClampNeg (0 : Int64)) fun σ1 =>
    p_X12_row_52 l1 n (l4 + (1 : Int32)) σ1)) else (some σ)

noncomputable def f_X12_row (l1 : Int32) (l2 : Int32) (l3 : Int32) (σ : j_G) : Option (Int32 × j_G) :=
  if ((f_X12_isSlot l1) = 0) ∨ (((f_X12_in (l2).toInt64 (0 : Int64) (3 : Int64)) = 0) ∨ ((60 : Int32) < l3)) then (some ((-2 : Int32), σ)) else (if l3 < 0 then (some ((-3 : Int32), σ)) else (j_ix l1 4 (
  j_lt (j_si σ 94 (l1).toNatClampNeg l3) fun σ1 =>
  j_ix l1 4 (
  j_lt (j_si σ1 95 (l1).toNatClampNeg l2) fun σ2 =>
  j_b1 (p_X12_row_52 l1 j_F (0 : Int32) σ2) fun σ3 =>
  some ((0 : Int32), σ3)))))
theorem l_X12_row_52 {d : Nat} (hd : 2 ≤ d) (τ : j_G) (l1 : Int32) : ∀ (n : Nat) (l4 : Int32) (σ : j_G), j_J false τ M_cX12_row d 52 [some (.ref 75), some (.int l1), none, none, some (.int l4)] [] σ (p_X12_row_52 l1 n l4 σ) (fun r Q => j_Tr false τ M_cX12_row d 78 [none, none, none, none, none] [] r Q) := by
  intro n
  induction n with
  | zero => intro l4 σ; exact j_none
  | succ n ih =>
    intro l4 σ
    unfold p_X12_row_52
    refine j_iload (pc' := 54) rfl rfl rfl ?_
    refine j_bipush (pc' := 56) (x := (60 : Int32)) rfl rfl rfl ?_
    refine j_two (pT := 59) (pF := 78) (L1 := [some (.ref 75), some (.int l1), none, none, some (.int l4)]) (st1 := []) (fun o kT kF => ?_) (fun h1 => ?_) (fun h1 => ?_)
    · refine j_icge (t := 78) (pc' := 59) rfl rfl rfl (fun h2 => ?_) (fun h2 => ?_)
      · exact kF h2
      · exact kT h2
    · refine j_aload_n (pc' := 60) rfl rfl rfl ?_
      refine j_gfr (pc' := 63) (x := 96) rfl rfl j_a75 rfl rfl ?_
      refine j_bipush (pc' := 65) (x := (60 : Int32)) rfl rfl rfl ?_
      refine j_iload_n (pc' := 66) rfl rfl rfl ?_
      refine j_imul (pc' := 67) rfl rfl ?_
      refine j_iload (pc' := 69) rfl rfl rfl ?_
      refine j_iadd (pc' := 70) rfl rfl ?_
      refine j_lconst (pc' := 71) (x := (0 : Int64)) rfl rfl rfl ?_
      refine j_last (pc' := 72) rfl rfl j_a96 (fun σ1 => ?_)
      refine j_iincx (pc' := 75) (y := (1 : Int32)) (L' := [some (.ref 75), some (.int l1), none, none, some (.int (l4 + (1 : Int32)))]) rfl rfl rfl rfl rfl ?_
      refine j_goto (t := 52) rfl rfl ?_
      exact ih (l4 + (1 : Int32)) σ1
    · refine j_wk [false, false, true, true, false] (L' := [none, none, none, none, none]) rfl ?_
      exact j_end (fun _ h => h)

theorem c_X12_row (l1 : Int32) (l2 : Int32) (l3 : Int32) (σ : j_G) : j_K false 2 353 [.ref 75, .int l1, .int l2, .int l3] σ (f_X12_row l1 l2 l3 σ) j_Ri := by
  refine j_mkK (M := M_cX12_row) (L := [some (.ref 75), some (.int l1), some (.int l2), some (.int l3), none]) (m := 1) t_353 rfl (j_rcvO j_a75 rfl) rfl (fun d hd τ => ?_)
  unfold f_X12_row
  refine j_iload_n (pc' := 1) rfl rfl rfl ?_
  refine j_callTi (pc' := 4) (ai := 351) (vs := [.int l1]) (rest := []) rfl rfl (fun _ _ => rfl) (c_X12_isSlot l1 σ) (j_dd rfl hd) rfl ?_
  refine j_two (pT := 25) (pF := 28) (L1 := [some (.ref 75), some (.int l1), some (.int l2), some (.int l3), none]) (st1 := []) (fun o kT kF => ?_) (fun h3 => ?_) (fun h3 => ?_)
  · refine j_ifeq (t := 25) (pc' := 7) rfl rfl rfl (fun h4 => ?_) (fun h4 => ?_)
    · exact kT (Or.inl h4)
    · refine j_iload_n (pc' := 8) rfl rfl rfl ?_
      refine j_i2l (pc' := 9) rfl rfl ?_
      refine j_lconst (pc' := 10) (x := (0 : Int64)) rfl rfl rfl ?_
      refine j_ldc2_w (pc' := 13) (x := (3 : Int64)) rfl rfl rfl ?_
      refine j_callTi (pc' := 16) (ai := 196) (vs := [.long (l2).toInt64, .long (0 : Int64), .long (3 : Int64)]) (rest := []) rfl rfl (fun _ _ => rfl) (c_X12_in (l2).toInt64 (0 : Int64) (3 : Int64) σ) (j_dd rfl hd) rfl ?_
      refine j_ifeq (t := 25) (pc' := 19) rfl rfl rfl (fun h5 => ?_) (fun h5 => ?_)
      · exact kT (Or.inr (Or.inl h5))
      · refine j_iload_n (pc' := 20) rfl rfl rfl ?_
        refine j_bipush (pc' := 22) (x := (60 : Int32)) rfl rfl rfl ?_
        refine j_icle (t := 28) (pc' := 25) rfl rfl rfl (fun h6 => ?_) (fun h6 => ?_)
        · exact kF (fun z => z.elim h4 (fun z => z.elim h5 (h6)))
        · exact kT (Or.inr (Or.inr (h6)))
  · refine j_bipush (pc' := 27) (x := (-2 : Int32)) rfl rfl rfl ?_
    exact j_ret rfl rfl rfl (fun _ h => h)
  · refine j_iload_n (pc' := 29) rfl rfl rfl ?_
    refine j_two (pT := 32) (pF := 35) (L1 := [some (.ref 75), some (.int l1), some (.int l2), some (.int l3), none]) (st1 := []) (fun o kT kF => ?_) (fun h1 => ?_) (fun h1 => ?_)
    · refine j_ifge (t := 35) (pc' := 32) rfl rfl rfl (fun h2 => ?_) (fun h2 => ?_)
      · exact kF h2
      · exact kT h2
    · refine j_bipush (pc' := 34) (x := (-3 : Int32)) rfl rfl rfl ?_
      exact j_ret rfl rfl rfl (fun _ h => h)
    · refine j_aload_n (pc' := 36) rfl rfl rfl ?_
      refine j_gfr (pc' := 39) (x := 94) rfl rfl j_a75 rfl rfl ?_
      refine j_iload_n (pc' := 40) rfl rfl rfl ?_
      refine j_iload_n (pc' := 41) rfl rfl rfl ?_
      refine j_iast (pc' := 42) rfl rfl j_a94 (fun σ1 => ?_)
      refine j_aload_n (pc' := 43) rfl rfl rfl ?_
      refine j_gfr (pc' := 46) (x := 95) rfl rfl j_a75 rfl rfl ?_
      refine j_iload_n (pc' := 47) rfl rfl rfl ?_
      refine j_iload_n (pc' := 48) rfl rfl rfl ?_
      refine j_iast (pc' := 49) rfl rfl j_a95 (fun σ2 => ?_)
      refine j_iconst (pc' := 50) (x := (0 : Int32)) rfl rfl rfl ?_
      refine j_istore (pc' := 52) (L' := [some (.ref 75), some (.int l1), some (.int l2), some (.int l3), some (.int (0 : Int32))]) rfl rfl rfl ?_
      refine j_wk [true, true, false, false, true] (L' := [some (.ref 75), some (.int l1), none, none, some (.int (0 : Int32))]) rfl ?_
      refine j_q1 (l_X12_row_52 hd τ l1 j_F (0 : Int32) σ2) (fun σ3 => ?_)
      show j_J false τ M_cX12_row d 78 [none, none, none, none, none] [] σ3 _ _
      refine j_iconst (pc' := 79) (x := (0 : Int32)) rfl rfl rfl ?_
      exact j_ret rfl rfl rfl (fun _ h => h)

noncomputable def f_X8_put (a0 : Nat) (a0_2 : Nat) (l1 : Int32) (l2 : Int64) (σ : j_G) : Option j_G :=
  if (l1 < 0) ∨ (¬ l1 < (σ.1 a0 0)) then (some σ) else (if (σ.1 a0 1) = 0 then (j_ix l1 60 (
  j_lt (j_sl σ a0_2 (l1).toNatClampNeg (((l2).toInt32).toInt8.toInt32).toInt64) fun σ1 =>
  some σ1)) else
  if (σ.1 a0 1) = 1 then (j_ix l1 60 (
  j_lt (j_sl σ a0_2 (l1).toNatClampNeg (((l2).toInt32).toInt16.toInt32).toInt64) fun σ2 =>
  some σ2)) else
  if (σ.1 a0 1) = 2 then (j_ix l1 60 (
  j_lt (j_sl σ a0_2 (l1).toNatClampNeg ((l2).toInt32).toInt64) fun σ3 =>
  some σ3)) else
  (j_ix l1 60 (
  j_lt (j_sl σ a0_2 (l1).toNatClampNeg l2) fun σ4 =>
  some σ4)))
theorem c_X8_put_67 (l1 : Int32) (l2 : Int64) (σ : j_G) : j_K true 0 93 [.ref 67, .int l1, .long l2] σ (f_X8_put 67 68 l1 l2 σ) j_Rv := by
  refine j_mkK (M := M_cX8_put) (L := [some (.ref 67), some (.int l1), some (.long l2), none]) (m := 0) t_93 rfl (j_rcvO j_a67 rfl) rfl (fun d hd τ => ?_)
  unfold f_X8_put
  refine j_iload_n (pc' := 1) rfl rfl rfl ?_
  refine j_two (pT := 12) (pF := 13) (L1 := [some (.ref 67), some (.int l1), some (.long l2), none]) (st1 := []) (fun o kT kF => ?_) (fun h4 => ?_) (fun h4 => ?_)
  · refine j_iflt (t := 12) (pc' := 4) rfl rfl rfl (fun h5 => ?_) (fun h5 => ?_)
    · exact kT (Or.inl h5)
    · refine j_iload_n (pc' := 5) rfl rfl rfl ?_
      refine j_aload_n (pc' := 6) rfl rfl rfl ?_
      refine j_gfi (pc' := 9) rfl rfl j_a67 rfl ?_
      refine j_iclt (t := 13) (pc' := 12) rfl rfl rfl (fun h6 => ?_) (fun h6 => ?_)
      · exact kF (fun z => z.elim h5 (fun z => z h6))
      · exact kT (Or.inr (h6))
  · exact j_ret rfl rfl rfl (fun _ h => h)
  · refine j_aload_n (pc' := 14) rfl rfl rfl ?_
    refine j_gfi (pc' := 17) rfl rfl j_a67 rfl ?_
    refine j_spl (k := (0 : Int32)) (fun h1 => ?_) (fun h1 => ?_)
    · refine j_sw (t := 44) h1 rfl rfl (fun _ _ => rfl) ?_
      refine j_aload_n (pc' := 45) rfl rfl rfl ?_
      refine j_gfr (pc' := 48) (x := 68) rfl rfl j_a67 rfl rfl ?_
      refine j_iload_n (pc' := 49) rfl rfl rfl ?_
      refine j_lload_n (pc' := 50) rfl rfl rfl ?_
      refine j_l2i (pc' := 51) rfl rfl ?_
      refine j_i2b (pc' := 52) rfl rfl ?_
      refine j_i2l (pc' := 53) rfl rfl ?_
      refine j_last (pc' := 54) rfl rfl j_a68 (fun σ1 => ?_)
      refine j_goto (t := 89) rfl rfl ?_
      exact j_ret rfl rfl rfl (fun _ h => h)
    refine j_spl (k := (1 : Int32)) (fun h2 => ?_) (fun h2 => ?_)
    · refine j_sw (t := 57) h2 rfl rfl (fun _ _ => rfl) ?_
      refine j_aload_n (pc' := 58) rfl rfl rfl ?_
      refine j_gfr (pc' := 61) (x := 68) rfl rfl j_a67 rfl rfl ?_
      refine j_iload_n (pc' := 62) rfl rfl rfl ?_
      refine j_lload_n (pc' := 63) rfl rfl rfl ?_
      refine j_l2i (pc' := 64) rfl rfl ?_
      refine j_i2s (pc' := 65) rfl rfl ?_
      refine j_i2l (pc' := 66) rfl rfl ?_
      refine j_last (pc' := 67) rfl rfl j_a68 (fun σ2 => ?_)
      refine j_goto (t := 89) rfl rfl ?_
      exact j_ret rfl rfl rfl (fun _ h => h)
    refine j_spl (k := (2 : Int32)) (fun h3 => ?_) (fun h3 => ?_)
    · refine j_sw (t := 70) h3 rfl rfl (fun _ _ => rfl) ?_
      refine j_aload_n (pc' := 71) rfl rfl rfl ?_
      refine j_gfr (pc' := 74) (x := 68) rfl rfl j_a67 rfl rfl ?_
      refine j_iload_n (pc' := 75) rfl rfl rfl ?_
      refine j_lload_n (pc' := 76) rfl rfl rfl ?_
      refine j_l2i (pc' := 77) rfl rfl ?_
      refine j_i2l (pc' := 78) rfl rfl ?_
      refine j_last (pc' := 79) rfl rfl j_a68 (fun σ3 => ?_)
      refine j_goto (t := 89) rfl rfl ?_
      exact j_ret rfl rfl rfl (fun _ h => h)
    have eh1 := j_ne (0) (by decide) h1
    have eh2 := j_ne (1) (by decide) h2
    have eh3 := j_ne (2) (by decide) h3
    refine j_tsd (t := 82) rfl (by omega) rfl ?_
    refine j_aload_n (pc' := 83) rfl rfl rfl ?_
    refine j_gfr (pc' := 86) (x := 68) rfl rfl j_a67 rfl rfl ?_
    refine j_iload_n (pc' := 87) rfl rfl rfl ?_
    refine j_lload_n (pc' := 88) rfl rfl rfl ?_
    refine j_last (pc' := 89) rfl rfl j_a68 (fun σ4 => ?_)
    exact j_ret rfl rfl rfl (fun _ h => h)

theorem c_X8_put_69 (l1 : Int32) (l2 : Int64) (σ : j_G) : j_K true 0 93 [.ref 69, .int l1, .long l2] σ (f_X8_put 69 70 l1 l2 σ) j_Rv := by
  refine j_mkK (M := M_cX8_put) (L := [some (.ref 69), some (.int l1), some (.long l2), none]) (m := 0) t_93 rfl (j_rcvO j_a69 rfl) rfl (fun d hd τ => ?_)
  unfold f_X8_put
  refine j_iload_n (pc' := 1) rfl rfl rfl ?_
  refine j_two (pT := 12) (pF := 13) (L1 := [some (.ref 69), some (.int l1), some (.long l2), none]) (st1 := []) (fun o kT kF => ?_) (fun h4 => ?_) (fun h4 => ?_)
  · refine j_iflt (t := 12) (pc' := 4) rfl rfl rfl (fun h5 => ?_) (fun h5 => ?_)
    · exact kT (Or.inl h5)
    · refine j_iload_n (pc' := 5) rfl rfl rfl ?_
      refine j_aload_n (pc' := 6) rfl rfl rfl ?_
      refine j_gfi (pc' := 9) rfl rfl j_a69 rfl ?_
      refine j_iclt (t := 13) (pc' := 12) rfl rfl rfl (fun h6 => ?_) (fun h6 => ?_)
      · exact kF (fun z => z.elim h5 (fun z => z h6))
      · exact kT (Or.inr (h6))
  · exact j_ret rfl rfl rfl (fun _ h => h)
  · refine j_aload_n (pc' := 14) rfl rfl rfl ?_
    refine j_gfi (pc' := 17) rfl rfl j_a69 rfl ?_
    refine j_spl (k := (0 : Int32)) (fun h1 => ?_) (fun h1 => ?_)
    · refine j_sw (t := 44) h1 rfl rfl (fun _ _ => rfl) ?_
      refine j_aload_n (pc' := 45) rfl rfl rfl ?_
      refine j_gfr (pc' := 48) (x := 70) rfl rfl j_a69 rfl rfl ?_
      refine j_iload_n (pc' := 49) rfl rfl rfl ?_
      refine j_lload_n (pc' := 50) rfl rfl rfl ?_
      refine j_l2i (pc' := 51) rfl rfl ?_
      refine j_i2b (pc' := 52) rfl rfl ?_
      refine j_i2l (pc' := 53) rfl rfl ?_
      refine j_last (pc' := 54) rfl rfl j_a70 (fun σ1 => ?_)
      refine j_goto (t := 89) rfl rfl ?_
      exact j_ret rfl rfl rfl (fun _ h => h)
    refine j_spl (k := (1 : Int32)) (fun h2 => ?_) (fun h2 => ?_)
    · refine j_sw (t := 57) h2 rfl rfl (fun _ _ => rfl) ?_
      refine j_aload_n (pc' := 58) rfl rfl rfl ?_
      refine j_gfr (pc' := 61) (x := 70) rfl rfl j_a69 rfl rfl ?_
      refine j_iload_n (pc' := 62) rfl rfl rfl ?_
      refine j_lload_n (pc' := 63) rfl rfl rfl ?_
      refine j_l2i (pc' := 64) rfl rfl ?_
      refine j_i2s (pc' := 65) rfl rfl ?_
      refine j_i2l (pc' := 66) rfl rfl ?_
      refine j_last (pc' := 67) rfl rfl j_a70 (fun σ2 => ?_)
      refine j_goto (t := 89) rfl rfl ?_
      exact j_ret rfl rfl rfl (fun _ h => h)
    refine j_spl (k := (2 : Int32)) (fun h3 => ?_) (fun h3 => ?_)
    · refine j_sw (t := 70) h3 rfl rfl (fun _ _ => rfl) ?_
      refine j_aload_n (pc' := 71) rfl rfl rfl ?_
      refine j_gfr (pc' := 74) (x := 70) rfl rfl j_a69 rfl rfl ?_
      refine j_iload_n (pc' := 75) rfl rfl rfl ?_
      refine j_lload_n (pc' := 76) rfl rfl rfl ?_
      refine j_l2i (pc' := 77) rfl rfl ?_
      refine j_i2l (pc' := 78) rfl rfl ?_
      refine j_last (pc' := 79) rfl rfl j_a70 (fun σ3 => ?_)
      refine j_goto (t := 89) rfl rfl ?_
      exact j_ret rfl rfl rfl (fun _ h => h)
    have eh1 := j_ne (0) (by decide) h1
    have eh2 := j_ne (1) (by decide) h2
    have eh3 := j_ne (2) (by decide) h3
    refine j_tsd (t := 82) rfl (by omega) rfl ?_
    refine j_aload_n (pc' := 83) rfl rfl rfl ?_
    refine j_gfr (pc' := 86) (x := 70) rfl rfl j_a69 rfl rfl ?_
    refine j_iload_n (pc' := 87) rfl rfl rfl ?_
    refine j_lload_n (pc' := 88) rfl rfl rfl ?_
    refine j_last (pc' := 89) rfl rfl j_a70 (fun σ4 => ?_)
    exact j_ret rfl rfl rfl (fun _ h => h)

theorem c_X8_put_71 (l1 : Int32) (l2 : Int64) (σ : j_G) : j_K true 0 93 [.ref 71, .int l1, .long l2] σ (f_X8_put 71 72 l1 l2 σ) j_Rv := by
  refine j_mkK (M := M_cX8_put) (L := [some (.ref 71), some (.int l1), some (.long l2), none]) (m := 0) t_93 rfl (j_rcvO j_a71 rfl) rfl (fun d hd τ => ?_)
  unfold f_X8_put
  refine j_iload_n (pc' := 1) rfl rfl rfl ?_
  refine j_two (pT := 12) (pF := 13) (L1 := [some (.ref 71), some (.int l1), some (.long l2), none]) (st1 := []) (fun o kT kF => ?_) (fun h4 => ?_) (fun h4 => ?_)
  · refine j_iflt (t := 12) (pc' := 4) rfl rfl rfl (fun h5 => ?_) (fun h5 => ?_)
    · exact kT (Or.inl h5)
    · refine j_iload_n (pc' := 5) rfl rfl rfl ?_
      refine j_aload_n (pc' := 6) rfl rfl rfl ?_
      refine j_gfi (pc' := 9) rfl rfl j_a71 rfl ?_
      refine j_iclt (t := 13) (pc' := 12) rfl rfl rfl (fun h6 => ?_) (fun h6 => ?_)
      · exact kF (fun z => z.elim h5 (fun z => z h6))
      · exact kT (Or.inr (h6))
  · exact j_ret rfl rfl rfl (fun _ h => h)
  · refine j_aload_n (pc' := 14) rfl rfl rfl ?_
    refine j_gfi (pc' := 17) rfl rfl j_a71 rfl ?_
    refine j_spl (k := (0 : Int32)) (fun h1 => ?_) (fun h1 => ?_)
    · refine j_sw (t := 44) h1 rfl rfl (fun _ _ => rfl) ?_
      refine j_aload_n (pc' := 45) rfl rfl rfl ?_
      refine j_gfr (pc' := 48) (x := 72) rfl rfl j_a71 rfl rfl ?_
      refine j_iload_n (pc' := 49) rfl rfl rfl ?_
      refine j_lload_n (pc' := 50) rfl rfl rfl ?_
      refine j_l2i (pc' := 51) rfl rfl ?_
      refine j_i2b (pc' := 52) rfl rfl ?_
      refine j_i2l (pc' := 53) rfl rfl ?_
      refine j_last (pc' := 54) rfl rfl j_a72 (fun σ1 => ?_)
      refine j_goto (t := 89) rfl rfl ?_
      exact j_ret rfl rfl rfl (fun _ h => h)
    refine j_spl (k := (1 : Int32)) (fun h2 => ?_) (fun h2 => ?_)
    · refine j_sw (t := 57) h2 rfl rfl (fun _ _ => rfl) ?_
      refine j_aload_n (pc' := 58) rfl rfl rfl ?_
      refine j_gfr (pc' := 61) (x := 72) rfl rfl j_a71 rfl rfl ?_
      refine j_iload_n (pc' := 62) rfl rfl rfl ?_
      refine j_lload_n (pc' := 63) rfl rfl rfl ?_
      refine j_l2i (pc' := 64) rfl rfl ?_
      refine j_i2s (pc' := 65) rfl rfl ?_
      refine j_i2l (pc' := 66) rfl rfl ?_
      refine j_last (pc' := 67) rfl rfl j_a72 (fun σ2 => ?_)
      refine j_goto (t := 89) rfl rfl ?_
      exact j_ret rfl rfl rfl (fun _ h => h)
    refine j_spl (k := (2 : Int32)) (fun h3 => ?_) (fun h3 => ?_)
    · refine j_sw (t := 70) h3 rfl rfl (fun _ _ => rfl) ?_
      refine j_aload_n (pc' := 71) rfl rfl rfl ?_
      refine j_gfr (pc' := 74) (x := 72) rfl rfl j_a71 rfl rfl ?_
      refine j_iload_n (pc' := 75) rfl rfl rfl ?_
      refine j_lload_n (pc' := 76) rfl rfl rfl ?_
      refine j_l2i (pc' := 77) rfl rfl ?_
      refine j_i2l (pc' := 78) rfl rfl ?_
      refine j_last (pc' := 79) rfl rfl j_a72 (fun σ3 => ?_)
      refine j_goto (t := 89) rfl rfl ?_
      exact j_ret rfl rfl rfl (fun _ h => h)
    have eh1 := j_ne (0) (by decide) h1
    have eh2 := j_ne (1) (by decide) h2
    have eh3 := j_ne (2) (by decide) h3
    refine j_tsd (t := 82) rfl (by omega) rfl ?_
    refine j_aload_n (pc' := 83) rfl rfl rfl ?_
    refine j_gfr (pc' := 86) (x := 72) rfl rfl j_a71 rfl rfl ?_
    refine j_iload_n (pc' := 87) rfl rfl rfl ?_
    refine j_lload_n (pc' := 88) rfl rfl rfl ?_
    refine j_last (pc' := 89) rfl rfl j_a72 (fun σ4 => ?_)
    exact j_ret rfl rfl rfl (fun _ h => h)

theorem c_X8_put_73 (l1 : Int32) (l2 : Int64) (σ : j_G) : j_K true 0 93 [.ref 73, .int l1, .long l2] σ (f_X8_put 73 74 l1 l2 σ) j_Rv := by
  refine j_mkK (M := M_cX8_put) (L := [some (.ref 73), some (.int l1), some (.long l2), none]) (m := 0) t_93 rfl (j_rcvO j_a73 rfl) rfl (fun d hd τ => ?_)
  unfold f_X8_put
  refine j_iload_n (pc' := 1) rfl rfl rfl ?_
  refine j_two (pT := 12) (pF := 13) (L1 := [some (.ref 73), some (.int l1), some (.long l2), none]) (st1 := []) (fun o kT kF => ?_) (fun h4 => ?_) (fun h4 => ?_)
  · refine j_iflt (t := 12) (pc' := 4) rfl rfl rfl (fun h5 => ?_) (fun h5 => ?_)
    · exact kT (Or.inl h5)
    · refine j_iload_n (pc' := 5) rfl rfl rfl ?_
      refine j_aload_n (pc' := 6) rfl rfl rfl ?_
      refine j_gfi (pc' := 9) rfl rfl j_a73 rfl ?_
      refine j_iclt (t := 13) (pc' := 12) rfl rfl rfl (fun h6 => ?_) (fun h6 => ?_)
      · exact kF (fun z => z.elim h5 (fun z => z h6))
      · exact kT (Or.inr (h6))
  · exact j_ret rfl rfl rfl (fun _ h => h)
  · refine j_aload_n (pc' := 14) rfl rfl rfl ?_
    refine j_gfi (pc' := 17) rfl rfl j_a73 rfl ?_
    refine j_spl (k := (0 : Int32)) (fun h1 => ?_) (fun h1 => ?_)
    · refine j_sw (t := 44) h1 rfl rfl (fun _ _ => rfl) ?_
      refine j_aload_n (pc' := 45) rfl rfl rfl ?_
      refine j_gfr (pc' := 48) (x := 74) rfl rfl j_a73 rfl rfl ?_
      refine j_iload_n (pc' := 49) rfl rfl rfl ?_
      refine j_lload_n (pc' := 50) rfl rfl rfl ?_
      refine j_l2i (pc' := 51) rfl rfl ?_
      refine j_i2b (pc' := 52) rfl rfl ?_
      refine j_i2l (pc' := 53) rfl rfl ?_
      refine j_last (pc' := 54) rfl rfl j_a74 (fun σ1 => ?_)
      refine j_goto (t := 89) rfl rfl ?_
      exact j_ret rfl rfl rfl (fun _ h => h)
    refine j_spl (k := (1 : Int32)) (fun h2 => ?_) (fun h2 => ?_)
    · refine j_sw (t := 57) h2 rfl rfl (fun _ _ => rfl) ?_
      refine j_aload_n (pc' := 58) rfl rfl rfl ?_
      refine j_gfr (pc' := 61) (x := 74) rfl rfl j_a73 rfl rfl ?_
      refine j_iload_n (pc' := 62) rfl rfl rfl ?_
      refine j_lload_n (pc' := 63) rfl rfl rfl ?_
      refine j_l2i (pc' := 64) rfl rfl ?_
      refine j_i2s (pc' := 65) rfl rfl ?_
      refine j_i2l (pc' := 66) rfl rfl ?_
      refine j_last (pc' := 67) rfl rfl j_a74 (fun σ2 => ?_)
      refine j_goto (t := 89) rfl rfl ?_
      exact j_ret rfl rfl rfl (fun _ h => h)
    refine j_spl (k := (2 : Int32)) (fun h3 => ?_) (fun h3 => ?_)
    · refine j_sw (t := 70) h3 rfl rfl (fun _ _ => rfl) ?_
      refine j_aload_n (pc' := 71) rfl rfl rfl ?_
      refine j_gfr (pc' := 74) (x := 74) rfl rfl j_a73 rfl rfl ?_
      refine j_iload_n (pc' := 75) rfl rfl rfl ?_
      refine j_lload_n (pc' := 76) rfl rfl rfl ?_
      refine j_l2i (pc' := 77) rfl rfl ?_
      refine j_i2l (pc' := 78) rfl rfl ?_
      refine j_last (pc' := 79) rfl rfl j_a74 (fun σ3 => ?_)
      refine j_goto (t := 89) rfl rfl ?_
      exact j_ret rfl rfl rfl (fun _ h => h)
    have eh1 := j_ne (0) (by decide) h1
    have eh2 := j_ne (1) (by decide) h2
    have eh3 := j_ne (2) (by decide) h3
    refine j_tsd (t := 82) rfl (by omega) rfl ?_
    refine j_aload_n (pc' := 83) rfl rfl rfl ?_
    refine j_gfr (pc' := 86) (x := 74) rfl rfl j_a73 rfl rfl ?_
    refine j_iload_n (pc' := 87) rfl rfl rfl ?_
    refine j_lload_n (pc' := 88) rfl rfl rfl ?_
    refine j_last (pc' := 89) rfl rfl j_a74 (fun σ4 => ?_)
    exact j_ret rfl rfl rfl (fun _ h => h)

noncomputable def f_X11_write (l1 : Int32) (l2 : Int32) (l3 : Int64) (σ : j_G) : Option (Int32 × j_G) :=
  if (f_X11_isSlot l1) = 0 then (some ((-2 : Int32), σ)) else (if l1 = 0 then (if (f_X8_isMade 67 σ) = 0 then (some ((-6 : Int32), σ)) else (if ¬ l2 < 0 then (if ¬ l2 < (σ.1 67 0) then (some ((-7 : Int32), σ)) else (j_b1 (f_X8_put 67 68 l2 l3 σ) fun σ1 =>
  some ((0 : Int32), σ1))) else (some ((-7 : Int32), σ)))) else
  if l1 = 1 then (if (f_X8_isMade 69 σ) = 0 then (some ((-6 : Int32), σ)) else (if ¬ l2 < 0 then (if ¬ l2 < (σ.1 69 0) then (some ((-7 : Int32), σ)) else (j_b1 (f_X8_put 69 70 l2 l3 σ) fun σ2 =>
  some ((0 : Int32), σ2))) else (some ((-7 : Int32), σ)))) else
  if l1 = 2 then (if (f_X8_isMade 71 σ) = 0 then (some ((-6 : Int32), σ)) else (if ¬ l2 < 0 then (if ¬ l2 < (σ.1 71 0) then (some ((-7 : Int32), σ)) else (j_b1 (f_X8_put 71 72 l2 l3 σ) fun σ3 =>
  some ((0 : Int32), σ3))) else (some ((-7 : Int32), σ)))) else
  if l1 = 3 then (if (f_X8_isMade 73 σ) = 0 then (some ((-6 : Int32), σ)) else (if ¬ l2 < 0 then (if ¬ l2 < (σ.1 73 0) then (some ((-7 : Int32), σ)) else (j_b1 (f_X8_put 73 74 l2 l3 σ) fun σ4 =>
  some ((0 : Int32), σ4))) else (some ((-7 : Int32), σ)))) else
  none)
theorem c_X11_write (l1 : Int32) (l2 : Int32) (l3 : Int64) (σ : j_G) : j_K true 1 180 [.ref 0, .int l1, .int l2, .long l3] σ (f_X11_write l1 l2 l3 σ) j_Ri := by
  refine j_mkK (M := M_cX11_write) (L := [some (.ref 0), some (.int l1), some (.int l2), some (.long l3), none]) (m := 0) t_180 rfl (j_rcvO j_a0 rfl) rfl (fun d hd τ => ?_)
  unfold f_X11_write
  refine j_iload_n (pc' := 1) rfl rfl rfl ?_
  refine j_callTi (pc' := 4) (ai := 182) (vs := [.int l1]) (rest := []) rfl rfl (fun _ _ => rfl) (c_X11_isSlot l1 σ) (j_dd rfl hd) rfl ?_
  refine j_two (pT := 7) (pF := 10) (L1 := [some (.ref 0), some (.int l1), some (.int l2), some (.long l3), none]) (st1 := []) (fun o kT kF => ?_) (fun h29 => ?_) (fun h29 => ?_)
  · refine j_ifne (t := 10) (pc' := 7) rfl rfl rfl (fun h30 => ?_) (fun h30 => ?_)
    · exact kF h30
    · exact kT h30
  · refine j_bipush (pc' := 9) (x := (-2 : Int32)) rfl rfl rfl ?_
    exact j_ret rfl rfl rfl (fun _ h => h)
  · refine j_aload_n (pc' := 11) rfl rfl rfl ?_
    refine j_gfr (pc' := 14) (x := 42) rfl rfl j_a0 rfl rfl ?_
    refine j_iload_n (pc' := 15) rfl rfl rfl ?_
    refine j_spl (k := (0 : Int32)) (fun h1 => ?_) (fun h1 => ?_)
    · subst h1
      refine j_aald (pc' := 16) (r := 67) rfl rfl j_a42 (by decide) rfl ?_
      refine j_callTi (pc' := 19) (ai := 91) (vs := [.ref 67]) (rest := []) rfl rfl (fun _ _ => rfl) (c_X8_isMade_67  σ) (j_dd rfl hd) rfl ?_
      refine j_two (pT := 22) (pF := 25) (L1 := [some (.ref 0), some (.int (0 : Int32)), some (.int l2), some (.long l3), none]) (st1 := []) (fun o kT kF => ?_) (fun h6 => ?_) (fun h6 => ?_)
      · refine j_ifne (t := 25) (pc' := 22) rfl rfl rfl (fun h7 => ?_) (fun h7 => ?_)
        · exact kF h7
        · exact kT h7
      · refine j_bipush (pc' := 24) (x := (-6 : Int32)) rfl rfl rfl ?_
        exact j_ret rfl rfl rfl (fun _ h => h)
      · refine j_iload_n (pc' := 26) rfl rfl rfl ?_
        refine j_two (pT := 29) (pF := 42) (L1 := [some (.ref 0), some (.int (0 : Int32)), some (.int l2), some (.long l3), none]) (st1 := []) (fun o kT kF => ?_) (fun h4 => ?_) (fun h4 => ?_)
        · refine j_iflt (t := 42) (pc' := 29) rfl rfl rfl (fun h5 => ?_) (fun h5 => ?_)
          · exact kF (fun z => z h5)
          · exact kT h5
        · refine j_iload_n (pc' := 30) rfl rfl rfl ?_
          refine j_aload_n (pc' := 31) rfl rfl rfl ?_
          refine j_gfr (pc' := 34) (x := 42) rfl rfl j_a0 rfl rfl ?_
          refine j_iload_n (pc' := 35) rfl rfl rfl ?_
          refine j_aald (pc' := 36) (r := 67) rfl rfl j_a42 (by decide) rfl ?_
          refine j_gfi (pc' := 39) rfl rfl j_a67 rfl ?_
          refine j_two (pT := 42) (pF := 45) (L1 := [some (.ref 0), some (.int (0 : Int32)), some (.int l2), some (.long l3), none]) (st1 := []) (fun o kT kF => ?_) (fun h2 => ?_) (fun h2 => ?_)
          · refine j_iclt (t := 45) (pc' := 42) rfl rfl rfl (fun h3 => ?_) (fun h3 => ?_)
            · exact kF (fun z => z h3)
            · exact kT h3
          · refine j_bipush (pc' := 44) (x := (-7 : Int32)) rfl rfl rfl ?_
            exact j_ret rfl rfl rfl (fun _ h => h)
          · refine j_aload_n (pc' := 46) rfl rfl rfl ?_
            refine j_gfr (pc' := 49) (x := 42) rfl rfl j_a0 rfl rfl ?_
            refine j_iload_n (pc' := 50) rfl rfl rfl ?_
            refine j_aald (pc' := 51) (r := 67) rfl rfl j_a42 (by decide) rfl ?_
            refine j_iload_n (pc' := 52) rfl rfl rfl ?_
            refine j_lload_n (pc' := 53) rfl rfl rfl ?_
            refine j_callRv (pc' := 56) (ai := 93) (vs := [.ref 67, .int l2, .long l3]) (rest := []) rfl rfl (fun _ _ => rfl) (c_X8_put_67 l2 l3 σ) (j_dd rfl hd) rfl (fun σ1 => ?_)
            refine j_iconst (pc' := 57) (x := (0 : Int32)) rfl rfl rfl ?_
            exact j_ret rfl rfl rfl (fun _ h => h)
        · refine j_bipush (pc' := 44) (x := (-7 : Int32)) rfl rfl rfl ?_
          exact j_ret rfl rfl rfl (fun _ h => h)
    refine j_spl (k := (1 : Int32)) (fun h8 => ?_) (fun h8 => ?_)
    · subst h8
      refine j_aald (pc' := 16) (r := 69) rfl rfl j_a42 (by decide) rfl ?_
      refine j_callTi (pc' := 19) (ai := 91) (vs := [.ref 69]) (rest := []) rfl rfl (fun _ _ => rfl) (c_X8_isMade_69  σ) (j_dd rfl hd) rfl ?_
      refine j_two (pT := 22) (pF := 25) (L1 := [some (.ref 0), some (.int (1 : Int32)), some (.int l2), some (.long l3), none]) (st1 := []) (fun o kT kF => ?_) (fun h13 => ?_) (fun h13 => ?_)
      · refine j_ifne (t := 25) (pc' := 22) rfl rfl rfl (fun h14 => ?_) (fun h14 => ?_)
        · exact kF h14
        · exact kT h14
      · refine j_bipush (pc' := 24) (x := (-6 : Int32)) rfl rfl rfl ?_
        exact j_ret rfl rfl rfl (fun _ h => h)
      · refine j_iload_n (pc' := 26) rfl rfl rfl ?_
        refine j_two (pT := 29) (pF := 42) (L1 := [some (.ref 0), some (.int (1 : Int32)), some (.int l2), some (.long l3), none]) (st1 := []) (fun o kT kF => ?_) (fun h11 => ?_) (fun h11 => ?_)
        · refine j_iflt (t := 42) (pc' := 29) rfl rfl rfl (fun h12 => ?_) (fun h12 => ?_)
          · exact kF (fun z => z h12)
          · exact kT h12
        · refine j_iload_n (pc' := 30) rfl rfl rfl ?_
          refine j_aload_n (pc' := 31) rfl rfl rfl ?_
          refine j_gfr (pc' := 34) (x := 42) rfl rfl j_a0 rfl rfl ?_
          refine j_iload_n (pc' := 35) rfl rfl rfl ?_
          refine j_aald (pc' := 36) (r := 69) rfl rfl j_a42 (by decide) rfl ?_
          refine j_gfi (pc' := 39) rfl rfl j_a69 rfl ?_
          refine j_two (pT := 42) (pF := 45) (L1 := [some (.ref 0), some (.int (1 : Int32)), some (.int l2), some (.long l3), none]) (st1 := []) (fun o kT kF => ?_) (fun h9 => ?_) (fun h9 => ?_)
          · refine j_iclt (t := 45) (pc' := 42) rfl rfl rfl (fun h10 => ?_) (fun h10 => ?_)
            · exact kF (fun z => z h10)
            · exact kT h10
          · refine j_bipush (pc' := 44) (x := (-7 : Int32)) rfl rfl rfl ?_
            exact j_ret rfl rfl rfl (fun _ h => h)
          · refine j_aload_n (pc' := 46) rfl rfl rfl ?_
            refine j_gfr (pc' := 49) (x := 42) rfl rfl j_a0 rfl rfl ?_
            refine j_iload_n (pc' := 50) rfl rfl rfl ?_
            refine j_aald (pc' := 51) (r := 69) rfl rfl j_a42 (by decide) rfl ?_
            refine j_iload_n (pc' := 52) rfl rfl rfl ?_
            refine j_lload_n (pc' := 53) rfl rfl rfl ?_
            refine j_callRv (pc' := 56) (ai := 93) (vs := [.ref 69, .int l2, .long l3]) (rest := []) rfl rfl (fun _ _ => rfl) (c_X8_put_69 l2 l3 σ) (j_dd rfl hd) rfl (fun σ2 => ?_)
            refine j_iconst (pc' := 57) (x := (0 : Int32)) rfl rfl rfl ?_
            exact j_ret rfl rfl rfl (fun _ h => h)
        · refine j_bipush (pc' := 44) (x := (-7 : Int32)) rfl rfl rfl ?_
          exact j_ret rfl rfl rfl (fun _ h => h)
    refine j_spl (k := (2 : Int32)) (fun h15 => ?_) (fun h15 => ?_)
    · subst h15
      refine j_aald (pc' := 16) (r := 71) rfl rfl j_a42 (by decide) rfl ?_
      refine j_callTi (pc' := 19) (ai := 91) (vs := [.ref 71]) (rest := []) rfl rfl (fun _ _ => rfl) (c_X8_isMade_71  σ) (j_dd rfl hd) rfl ?_
      refine j_two (pT := 22) (pF := 25) (L1 := [some (.ref 0), some (.int (2 : Int32)), some (.int l2), some (.long l3), none]) (st1 := []) (fun o kT kF => ?_) (fun h20 => ?_) (fun h20 => ?_)
      · refine j_ifne (t := 25) (pc' := 22) rfl rfl rfl (fun h21 => ?_) (fun h21 => ?_)
        · exact kF h21
        · exact kT h21
      · refine j_bipush (pc' := 24) (x := (-6 : Int32)) rfl rfl rfl ?_
        exact j_ret rfl rfl rfl (fun _ h => h)
      · refine j_iload_n (pc' := 26) rfl rfl rfl ?_
        refine j_two (pT := 29) (pF := 42) (L1 := [some (.ref 0), some (.int (2 : Int32)), some (.int l2), some (.long l3), none]) (st1 := []) (fun o kT kF => ?_) (fun h18 => ?_) (fun h18 => ?_)
        · refine j_iflt (t := 42) (pc' := 29) rfl rfl rfl (fun h19 => ?_) (fun h19 => ?_)
          · exact kF (fun z => z h19)
          · exact kT h19
        · refine j_iload_n (pc' := 30) rfl rfl rfl ?_
          refine j_aload_n (pc' := 31) rfl rfl rfl ?_
          refine j_gfr (pc' := 34) (x := 42) rfl rfl j_a0 rfl rfl ?_
          refine j_iload_n (pc' := 35) rfl rfl rfl ?_
          refine j_aald (pc' := 36) (r := 71) rfl rfl j_a42 (by decide) rfl ?_
          refine j_gfi (pc' := 39) rfl rfl j_a71 rfl ?_
          refine j_two (pT := 42) (pF := 45) (L1 := [some (.ref 0), some (.int (2 : Int32)), some (.int l2), some (.long l3), none]) (st1 := []) (fun o kT kF => ?_) (fun h16 => ?_) (fun h16 => ?_)
          · refine j_iclt (t := 45) (pc' := 42) rfl rfl rfl (fun h17 => ?_) (fun h17 => ?_)
            · exact kF (fun z => z h17)
            · exact kT h17
          · refine j_bipush (pc' := 44) (x := (-7 : Int32)) rfl rfl rfl ?_
            exact j_ret rfl rfl rfl (fun _ h => h)
          · refine j_aload_n (pc' := 46) rfl rfl rfl ?_
            refine j_gfr (pc' := 49) (x := 42) rfl rfl j_a0 rfl rfl ?_
            refine j_iload_n (pc' := 50) rfl rfl rfl ?_
            refine j_aald (pc' := 51) (r := 71) rfl rfl j_a42 (by decide) rfl ?_
            refine j_iload_n (pc' := 52) rfl rfl rfl ?_
            refine j_lload_n (pc' := 53) rfl rfl rfl ?_
            refine j_callRv (pc' := 56) (ai := 93) (vs := [.ref 71, .int l2, .long l3]) (rest := []) rfl rfl (fun _ _ => rfl) (c_X8_put_71 l2 l3 σ) (j_dd rfl hd) rfl (fun σ3 => ?_)
            refine j_iconst (pc' := 57) (x := (0 : Int32)) rfl rfl rfl ?_
            exact j_ret rfl rfl rfl (fun _ h => h)
        · refine j_bipush (pc' := 44) (x := (-7 : Int32)) rfl rfl rfl ?_
          exact j_ret rfl rfl rfl (fun _ h => h)
    refine j_spl (k := (3 : Int32)) (fun h22 => ?_) (fun h22 => ?_)
    · subst h22
      refine j_aald (pc' := 16) (r := 73) rfl rfl j_a42 (by decide) rfl ?_
      refine j_callTi (pc' := 19) (ai := 91) (vs := [.ref 73]) (rest := []) rfl rfl (fun _ _ => rfl) (c_X8_isMade_73  σ) (j_dd rfl hd) rfl ?_
      refine j_two (pT := 22) (pF := 25) (L1 := [some (.ref 0), some (.int (3 : Int32)), some (.int l2), some (.long l3), none]) (st1 := []) (fun o kT kF => ?_) (fun h27 => ?_) (fun h27 => ?_)
      · refine j_ifne (t := 25) (pc' := 22) rfl rfl rfl (fun h28 => ?_) (fun h28 => ?_)
        · exact kF h28
        · exact kT h28
      · refine j_bipush (pc' := 24) (x := (-6 : Int32)) rfl rfl rfl ?_
        exact j_ret rfl rfl rfl (fun _ h => h)
      · refine j_iload_n (pc' := 26) rfl rfl rfl ?_
        refine j_two (pT := 29) (pF := 42) (L1 := [some (.ref 0), some (.int (3 : Int32)), some (.int l2), some (.long l3), none]) (st1 := []) (fun o kT kF => ?_) (fun h25 => ?_) (fun h25 => ?_)
        · refine j_iflt (t := 42) (pc' := 29) rfl rfl rfl (fun h26 => ?_) (fun h26 => ?_)
          · exact kF (fun z => z h26)
          · exact kT h26
        · refine j_iload_n (pc' := 30) rfl rfl rfl ?_
          refine j_aload_n (pc' := 31) rfl rfl rfl ?_
          refine j_gfr (pc' := 34) (x := 42) rfl rfl j_a0 rfl rfl ?_
          refine j_iload_n (pc' := 35) rfl rfl rfl ?_
          refine j_aald (pc' := 36) (r := 73) rfl rfl j_a42 (by decide) rfl ?_
          refine j_gfi (pc' := 39) rfl rfl j_a73 rfl ?_
          refine j_two (pT := 42) (pF := 45) (L1 := [some (.ref 0), some (.int (3 : Int32)), some (.int l2), some (.long l3), none]) (st1 := []) (fun o kT kF => ?_) (fun h23 => ?_) (fun h23 => ?_)
          · refine j_iclt (t := 45) (pc' := 42) rfl rfl rfl (fun h24 => ?_) (fun h24 => ?_)
            · exact kF (fun z => z h24)
            · exact kT h24
          · refine j_bipush (pc' := 44) (x := (-7 : Int32)) rfl rfl rfl ?_
            exact j_ret rfl rfl rfl (fun _ h => h)
          · refine j_aload_n (pc' := 46) rfl rfl rfl ?_
            refine j_gfr (pc' := 49) (x := 42) rfl rfl j_a0 rfl rfl ?_
            refine j_iload_n (pc' := 50) rfl rfl rfl ?_
            refine j_aald (pc' := 51) (r := 73) rfl rfl j_a42 (by decide) rfl ?_
            refine j_iload_n (pc' := 52) rfl rfl rfl ?_
            refine j_lload_n (pc' := 53) rfl rfl rfl ?_
            refine j_callRv (pc' := 56) (ai := 93) (vs := [.ref 73, .int l2, .long l3]) (rest := []) rfl rfl (fun _ _ => rfl) (c_X8_put_73 l2 l3 σ) (j_dd rfl hd) rfl (fun σ4 => ?_)
            refine j_iconst (pc' := 57) (x := (0 : Int32)) rfl rfl rfl ?_
            exact j_ret rfl rfl rfl (fun _ h => h)
        · refine j_bipush (pc' := 44) (x := (-7 : Int32)) rfl rfl rfl ?_
          exact j_ret rfl rfl rfl (fun _ h => h)
    exact j_none

noncomputable def f_X12_cut (l0 : Int64) (l2 : Int32) : Int64 :=
  j_lt ((64 : Int32) - ((8 : Int32) <<< (l2 &&& 31))) fun v1 =>
  ((l0 <<< ((v1).toInt64 &&& 63)) >>> ((v1).toInt64 &&& 63))
theorem c_X12_cut (l0 : Int64) (l2 : Int32) (σ : j_G) : j_K false 0 352 [.long l0, .int l2] σ (some (f_X12_cut l0 l2)) (j_Pl σ) := by
  refine j_mkK (M := M_cX12_cut) (L := [some (.long l0), none, some (.int l2), none]) (m := 1) t_352 rfl (j_rcvS rfl) rfl (fun d hd τ => ?_)
  unfold f_X12_cut
  refine j_bipush (pc' := 2) (x := (64 : Int32)) rfl rfl rfl ?_
  refine j_bipush (pc' := 4) (x := (8 : Int32)) rfl rfl rfl ?_
  refine j_iload_n (pc' := 5) rfl rfl rfl ?_
  refine j_ishl (pc' := 6) rfl rfl ?_
  refine j_isub (pc' := 7) rfl rfl ?_
  refine j_letiT (fun v1 => ?_)
  refine j_istore_n (pc' := 8) (L' := [some (.long l0), none, some (.int l2), some (.int v1)]) rfl rfl rfl ?_
  refine j_lload_n (pc' := 9) rfl rfl rfl ?_
  refine j_iload_n (pc' := 10) rfl rfl rfl ?_
  refine j_lshl (pc' := 11) rfl rfl ?_
  refine j_iload_n (pc' := 12) rfl rfl rfl ?_
  refine j_lshr (pc' := 13) rfl rfl ?_
  exact j_ret rfl rfl rfl (fun _ h => h)

noncomputable def f_X12_write (l1 : Int32) (l2 : Int32) (l3 : Int64) (σ : j_G) : Option (Int32 × j_G) :=
  if (f_X12_isSlot l1) = 0 then (some ((-2 : Int32), σ)) else (j_ix l1 4 (
  if (σ.1 94 (l1).toNatClampNeg) = (-1 : Int32) then (some ((-6 : Int32), σ)) else (j_ix l1 4 (
  if (f_X12_in (l2).toInt64 (0 : Int64) (((σ.1 94 (l1).toNatClampNeg) - (1 : Int32))).toInt64) = 0 then (some ((-7 : Int32), σ)) else (j_ix l1 4 (
  j_ix (((60 : Int32) * l1) + l2) 240 (
  j_lt (j_sl σ 96 ((((60 : Int32) * l1) + l2)).toNatClampNeg (f_X12_cut l3 (σ.1 95 (l1).toNatClampNeg))) fun σ1 =>
  some ((0 : Int32), σ1))))))))
theorem c_X12_write (l1 : Int32) (l2 : Int32) (l3 : Int64) (σ : j_G) : j_K false 2 354 [.ref 75, .int l1, .int l2, .long l3] σ (f_X12_write l1 l2 l3 σ) j_Ri := by
  refine j_mkK (M := M_cX12_write) (L := [some (.ref 75), some (.int l1), some (.int l2), some (.long l3), none]) (m := 0) t_354 rfl (j_rcvO j_a75 rfl) rfl (fun d hd τ => ?_)
  unfold f_X12_write
  refine j_iload_n (pc' := 1) rfl rfl rfl ?_
  refine j_callTi (pc' := 4) (ai := 351) (vs := [.int l1]) (rest := []) rfl rfl (fun _ _ => rfl) (c_X12_isSlot l1 σ) (j_dd rfl hd) rfl ?_
  refine j_two (pT := 7) (pF := 10) (L1 := [some (.ref 75), some (.int l1), some (.int l2), some (.long l3), none]) (st1 := []) (fun o kT kF => ?_) (fun h5 => ?_) (fun h5 => ?_)
  · refine j_ifne (t := 10) (pc' := 7) rfl rfl rfl (fun h6 => ?_) (fun h6 => ?_)
    · exact kF h6
    · exact kT h6
  · refine j_bipush (pc' := 9) (x := (-2 : Int32)) rfl rfl rfl ?_
    exact j_ret rfl rfl rfl (fun _ h => h)
  · refine j_aload_n (pc' := 11) rfl rfl rfl ?_
    refine j_gfr (pc' := 14) (x := 94) rfl rfl j_a75 rfl rfl ?_
    refine j_iload_n (pc' := 15) rfl rfl rfl ?_
    refine j_iald (pc' := 16) rfl rfl j_a94 ?_
    refine j_iconst (pc' := 17) (x := (-1 : Int32)) rfl rfl rfl ?_
    refine j_two (pT := 20) (pF := 23) (L1 := [some (.ref 75), some (.int l1), some (.int l2), some (.long l3), none]) (st1 := []) (fun o kT kF => ?_) (fun h3 => ?_) (fun h3 => ?_)
    · refine j_icne (t := 23) (pc' := 20) rfl rfl rfl (fun h4 => ?_) (fun h4 => ?_)
      · exact kF h4
      · exact kT h4
    · refine j_bipush (pc' := 22) (x := (-6 : Int32)) rfl rfl rfl ?_
      exact j_ret rfl rfl rfl (fun _ h => h)
    · refine j_iload_n (pc' := 24) rfl rfl rfl ?_
      refine j_i2l (pc' := 25) rfl rfl ?_
      refine j_lconst (pc' := 26) (x := (0 : Int64)) rfl rfl rfl ?_
      refine j_aload_n (pc' := 27) rfl rfl rfl ?_
      refine j_gfr (pc' := 30) (x := 94) rfl rfl j_a75 rfl rfl ?_
      refine j_iload_n (pc' := 31) rfl rfl rfl ?_
      refine j_iald (pc' := 32) rfl rfl j_a94 ?_
      refine j_iconst (pc' := 33) (x := (1 : Int32)) rfl rfl rfl ?_
      refine j_isub (pc' := 34) rfl rfl ?_
      refine j_i2l (pc' := 35) rfl rfl ?_
      refine j_callTi (pc' := 38) (ai := 196) (vs := [.long (l2).toInt64, .long (0 : Int64), .long (((σ.1 94 (l1).toNatClampNeg) - (1 : Int32))).toInt64]) (rest := []) rfl rfl (fun _ _ => rfl) (c_X12_in (l2).toInt64 (0 : Int64) (((σ.1 94 (l1).toNatClampNeg) - (1 : Int32))).toInt64 σ) (j_dd rfl hd) rfl ?_
      refine j_two (pT := 41) (pF := 44) (L1 := [some (.ref 75), some (.int l1), some (.int l2), some (.long l3), none]) (st1 := []) (fun o kT kF => ?_) (fun h1 => ?_) (fun h1 => ?_)
      · refine j_ifne (t := 44) (pc' := 41) rfl rfl rfl (fun h2 => ?_) (fun h2 => ?_)
        · exact kF h2
        · exact kT h2
      · refine j_bipush (pc' := 43) (x := (-7 : Int32)) rfl rfl rfl ?_
        exact j_ret rfl rfl rfl (fun _ h => h)
      · refine j_aload_n (pc' := 45) rfl rfl rfl ?_
        refine j_gfr (pc' := 48) (x := 96) rfl rfl j_a75 rfl rfl ?_
        refine j_bipush (pc' := 50) (x := (60 : Int32)) rfl rfl rfl ?_
        refine j_iload_n (pc' := 51) rfl rfl rfl ?_
        refine j_imul (pc' := 52) rfl rfl ?_
        refine j_iload_n (pc' := 53) rfl rfl rfl ?_
        refine j_iadd (pc' := 54) rfl rfl ?_
        refine j_lload_n (pc' := 55) rfl rfl rfl ?_
        refine j_aload_n (pc' := 56) rfl rfl rfl ?_
        refine j_gfr (pc' := 59) (x := 95) rfl rfl j_a75 rfl rfl ?_
        refine j_iload_n (pc' := 60) rfl rfl rfl ?_
        refine j_iald (pc' := 61) rfl rfl j_a95 ?_
        refine j_callTl (pc' := 64) (ai := 352) (vs := [.long l3, .int (σ.1 95 (l1).toNatClampNeg)]) (rest := [.int (((60 : Int32) * l1) + l2), .ref 96]) rfl rfl (fun _ _ => rfl) (c_X12_cut l3 (σ.1 95 (l1).toNatClampNeg) σ) (j_dd rfl hd) rfl ?_
        refine j_last (pc' := 65) rfl rfl j_a96 (fun σ1 => ?_)
        refine j_iconst (pc' := 66) (x := (0 : Int32)) rfl rfl rfl ?_
        exact j_ret rfl rfl rfl (fun _ h => h)

noncomputable def f_X8_hasPart (a0 : Nat) (l1 : Int32) (l2 : Int32) (σ : j_G) : Int32 :=
  if (¬ l1 < 0) ∧ ((¬ l2 < 0) ∧ ((¬ (σ.1 a0 0) < l1) ∧ (¬ ((σ.1 a0 0) - l1) < l2))) then ((1 : Int32)) else ((0 : Int32))

theorem b_X8_hasPart (a0 : Nat) (l1 : Int32) (l2 : Int32) (σ : j_G) : f_X8_hasPart a0 l1 l2 σ = 0 ∨ f_X8_hasPart a0 l1 l2 σ = 1 := by
  unfold f_X8_hasPart
  repeat' split
  all_goals first | exact Or.inl rfl | exact Or.inr rfl
theorem c_X8_hasPart_67 (l1 : Int32) (l2 : Int32) (σ : j_G) : j_K true 0 94 [.ref 67, .int l1, .int l2] σ (some (f_X8_hasPart 67 l1 l2 σ)) (j_Pi σ) := by
  refine j_mkK (M := M_cX8_hasPart) (L := [some (.ref 67), some (.int l1), some (.int l2)]) (m := 0) t_94 rfl (j_rcvO j_a67 rfl) rfl (fun d hd τ => ?_)
  unfold f_X8_hasPart
  refine j_iload_n (pc' := 1) rfl rfl rfl ?_
  refine j_twoT (pT := 26) (pF := 30) (L1 := [some (.ref 67), some (.int l1), some (.int l2)]) (st1 := []) (fun o kT kF => ?_) (fun h1 => ?_) (fun h1 => ?_)
  · refine j_iflt (t := 30) (pc' := 4) rfl rfl rfl (fun h2 => ?_) (fun h2 => ?_)
    · exact kF (fun z => z.1 h2)
    · refine j_iload_n (pc' := 5) rfl rfl rfl ?_
      refine j_iflt (t := 30) (pc' := 8) rfl rfl rfl (fun h3 => ?_) (fun h3 => ?_)
      · exact kF (fun z => (fun z => z.1 h3) z.2)
      · refine j_iload_n (pc' := 9) rfl rfl rfl ?_
        refine j_aload_n (pc' := 10) rfl rfl rfl ?_
        refine j_gfi (pc' := 13) rfl rfl j_a67 rfl ?_
        refine j_icgt (t := 30) (pc' := 16) rfl rfl rfl (fun h4 => ?_) (fun h4 => ?_)
        · exact kF (fun z => (fun z => (fun z => z.1 h4) z.2) z.2)
        · refine j_iload_n (pc' := 17) rfl rfl rfl ?_
          refine j_aload_n (pc' := 18) rfl rfl rfl ?_
          refine j_gfi (pc' := 21) rfl rfl j_a67 rfl ?_
          refine j_iload_n (pc' := 22) rfl rfl rfl ?_
          refine j_isub (pc' := 23) rfl rfl ?_
          refine j_icgt (t := 30) (pc' := 26) rfl rfl rfl (fun h5 => ?_) (fun h5 => ?_)
          · exact kF (fun z => (fun z => (fun z => (fun z => z h5) z.2) z.2) z.2)
          · exact kT (⟨h2, ⟨h3, ⟨h4, h5⟩⟩⟩)
  · refine j_iconst (pc' := 27) (x := (1 : Int32)) rfl rfl rfl ?_
    refine j_goto (t := 31) rfl rfl ?_
    exact j_ret rfl rfl rfl (fun _ h => h)
  · refine j_iconst (pc' := 31) (x := (0 : Int32)) rfl rfl rfl ?_
    exact j_ret rfl rfl rfl (fun _ h => h)

theorem c_X8_hasPart_69 (l1 : Int32) (l2 : Int32) (σ : j_G) : j_K true 0 94 [.ref 69, .int l1, .int l2] σ (some (f_X8_hasPart 69 l1 l2 σ)) (j_Pi σ) := by
  refine j_mkK (M := M_cX8_hasPart) (L := [some (.ref 69), some (.int l1), some (.int l2)]) (m := 0) t_94 rfl (j_rcvO j_a69 rfl) rfl (fun d hd τ => ?_)
  unfold f_X8_hasPart
  refine j_iload_n (pc' := 1) rfl rfl rfl ?_
  refine j_twoT (pT := 26) (pF := 30) (L1 := [some (.ref 69), some (.int l1), some (.int l2)]) (st1 := []) (fun o kT kF => ?_) (fun h1 => ?_) (fun h1 => ?_)
  · refine j_iflt (t := 30) (pc' := 4) rfl rfl rfl (fun h2 => ?_) (fun h2 => ?_)
    · exact kF (fun z => z.1 h2)
    · refine j_iload_n (pc' := 5) rfl rfl rfl ?_
      refine j_iflt (t := 30) (pc' := 8) rfl rfl rfl (fun h3 => ?_) (fun h3 => ?_)
      · exact kF (fun z => (fun z => z.1 h3) z.2)
      · refine j_iload_n (pc' := 9) rfl rfl rfl ?_
        refine j_aload_n (pc' := 10) rfl rfl rfl ?_
        refine j_gfi (pc' := 13) rfl rfl j_a69 rfl ?_
        refine j_icgt (t := 30) (pc' := 16) rfl rfl rfl (fun h4 => ?_) (fun h4 => ?_)
        · exact kF (fun z => (fun z => (fun z => z.1 h4) z.2) z.2)
        · refine j_iload_n (pc' := 17) rfl rfl rfl ?_
          refine j_aload_n (pc' := 18) rfl rfl rfl ?_
          refine j_gfi (pc' := 21) rfl rfl j_a69 rfl ?_
          refine j_iload_n (pc' := 22) rfl rfl rfl ?_
          refine j_isub (pc' := 23) rfl rfl ?_
          refine j_icgt (t := 30) (pc' := 26) rfl rfl rfl (fun h5 => ?_) (fun h5 => ?_)
          · exact kF (fun z => (fun z => (fun z => (fun z => z h5) z.2) z.2) z.2)
          · exact kT (⟨h2, ⟨h3, ⟨h4, h5⟩⟩⟩)
  · refine j_iconst (pc' := 27) (x := (1 : Int32)) rfl rfl rfl ?_
    refine j_goto (t := 31) rfl rfl ?_
    exact j_ret rfl rfl rfl (fun _ h => h)
  · refine j_iconst (pc' := 31) (x := (0 : Int32)) rfl rfl rfl ?_
    exact j_ret rfl rfl rfl (fun _ h => h)

theorem c_X8_hasPart_71 (l1 : Int32) (l2 : Int32) (σ : j_G) : j_K true 0 94 [.ref 71, .int l1, .int l2] σ (some (f_X8_hasPart 71 l1 l2 σ)) (j_Pi σ) := by
  refine j_mkK (M := M_cX8_hasPart) (L := [some (.ref 71), some (.int l1), some (.int l2)]) (m := 0) t_94 rfl (j_rcvO j_a71 rfl) rfl (fun d hd τ => ?_)
  unfold f_X8_hasPart
  refine j_iload_n (pc' := 1) rfl rfl rfl ?_
  refine j_twoT (pT := 26) (pF := 30) (L1 := [some (.ref 71), some (.int l1), some (.int l2)]) (st1 := []) (fun o kT kF => ?_) (fun h1 => ?_) (fun h1 => ?_)
  · refine j_iflt (t := 30) (pc' := 4) rfl rfl rfl (fun h2 => ?_) (fun h2 => ?_)
    · exact kF (fun z => z.1 h2)
    · refine j_iload_n (pc' := 5) rfl rfl rfl ?_
      refine j_iflt (t := 30) (pc' := 8) rfl rfl rfl (fun h3 => ?_) (fun h3 => ?_)
      · exact kF (fun z => (fun z => z.1 h3) z.2)
      · refine j_iload_n (pc' := 9) rfl rfl rfl ?_
        refine j_aload_n (pc' := 10) rfl rfl rfl ?_
        refine j_gfi (pc' := 13) rfl rfl j_a71 rfl ?_
        refine j_icgt (t := 30) (pc' := 16) rfl rfl rfl (fun h4 => ?_) (fun h4 => ?_)
        · exact kF (fun z => (fun z => (fun z => z.1 h4) z.2) z.2)
        · refine j_iload_n (pc' := 17) rfl rfl rfl ?_
          refine j_aload_n (pc' := 18) rfl rfl rfl ?_
          refine j_gfi (pc' := 21) rfl rfl j_a71 rfl ?_
          refine j_iload_n (pc' := 22) rfl rfl rfl ?_
          refine j_isub (pc' := 23) rfl rfl ?_
          refine j_icgt (t := 30) (pc' := 26) rfl rfl rfl (fun h5 => ?_) (fun h5 => ?_)
          · exact kF (fun z => (fun z => (fun z => (fun z => z h5) z.2) z.2) z.2)
          · exact kT (⟨h2, ⟨h3, ⟨h4, h5⟩⟩⟩)
  · refine j_iconst (pc' := 27) (x := (1 : Int32)) rfl rfl rfl ?_
    refine j_goto (t := 31) rfl rfl ?_
    exact j_ret rfl rfl rfl (fun _ h => h)
  · refine j_iconst (pc' := 31) (x := (0 : Int32)) rfl rfl rfl ?_
    exact j_ret rfl rfl rfl (fun _ h => h)

theorem c_X8_hasPart_73 (l1 : Int32) (l2 : Int32) (σ : j_G) : j_K true 0 94 [.ref 73, .int l1, .int l2] σ (some (f_X8_hasPart 73 l1 l2 σ)) (j_Pi σ) := by
  refine j_mkK (M := M_cX8_hasPart) (L := [some (.ref 73), some (.int l1), some (.int l2)]) (m := 0) t_94 rfl (j_rcvO j_a73 rfl) rfl (fun d hd τ => ?_)
  unfold f_X8_hasPart
  refine j_iload_n (pc' := 1) rfl rfl rfl ?_
  refine j_twoT (pT := 26) (pF := 30) (L1 := [some (.ref 73), some (.int l1), some (.int l2)]) (st1 := []) (fun o kT kF => ?_) (fun h1 => ?_) (fun h1 => ?_)
  · refine j_iflt (t := 30) (pc' := 4) rfl rfl rfl (fun h2 => ?_) (fun h2 => ?_)
    · exact kF (fun z => z.1 h2)
    · refine j_iload_n (pc' := 5) rfl rfl rfl ?_
      refine j_iflt (t := 30) (pc' := 8) rfl rfl rfl (fun h3 => ?_) (fun h3 => ?_)
      · exact kF (fun z => (fun z => z.1 h3) z.2)
      · refine j_iload_n (pc' := 9) rfl rfl rfl ?_
        refine j_aload_n (pc' := 10) rfl rfl rfl ?_
        refine j_gfi (pc' := 13) rfl rfl j_a73 rfl ?_
        refine j_icgt (t := 30) (pc' := 16) rfl rfl rfl (fun h4 => ?_) (fun h4 => ?_)
        · exact kF (fun z => (fun z => (fun z => z.1 h4) z.2) z.2)
        · refine j_iload_n (pc' := 17) rfl rfl rfl ?_
          refine j_aload_n (pc' := 18) rfl rfl rfl ?_
          refine j_gfi (pc' := 21) rfl rfl j_a73 rfl ?_
          refine j_iload_n (pc' := 22) rfl rfl rfl ?_
          refine j_isub (pc' := 23) rfl rfl ?_
          refine j_icgt (t := 30) (pc' := 26) rfl rfl rfl (fun h5 => ?_) (fun h5 => ?_)
          · exact kF (fun z => (fun z => (fun z => (fun z => z h5) z.2) z.2) z.2)
          · exact kT (⟨h2, ⟨h3, ⟨h4, h5⟩⟩⟩)
  · refine j_iconst (pc' := 27) (x := (1 : Int32)) rfl rfl rfl ?_
    refine j_goto (t := 31) rfl rfl ?_
    exact j_ret rfl rfl rfl (fun _ h => h)
  · refine j_iconst (pc' := 31) (x := (0 : Int32)) rfl rfl rfl ?_
    exact j_ret rfl rfl rfl (fun _ h => h)

noncomputable def f_X11_paste (l1 : Int32) (l2 : Int32) (l3 : Int32) (l4 : Int32) (l5 : Int32) (σ : j_G) : Option (Int32 × j_G) :=
  if ((f_X11_isSlot l1) = 0) ∨ ((f_X11_isSlot l3) = 0) then (some ((-2 : Int32), σ)) else (if l1 = 0 then (if l3 = 0 then (if ((f_X8_isMade 67 σ) = 0) ∨ ((f_X8_isMade 67 σ) = 0) then (some ((-6 : Int32), σ)) else (if ¬ (σ.1 67 1) = (σ.1 67 1) then (some ((-8 : Int32), σ)) else (if ((f_X8_hasPart 67 l2 l5 σ) = 0) ∨ ((f_X8_hasPart 67 l4 l5 σ) = 0) then (some ((-7 : Int32), σ)) else (j_cg l2 l4 l5 60 60 (
  j_lt (j_cl σ 68 (l2).toNatClampNeg 68 (l4).toNatClampNeg (l5).toNatClampNeg) fun σ1 =>
  some ((0 : Int32), σ1)))))) else
  if l3 = 1 then (if ((f_X8_isMade 67 σ) = 0) ∨ ((f_X8_isMade 69 σ) = 0) then (some ((-6 : Int32), σ)) else (if ¬ (σ.1 67 1) = (σ.1 69 1) then (some ((-8 : Int32), σ)) else (if ((f_X8_hasPart 67 l2 l5 σ) = 0) ∨ ((f_X8_hasPart 69 l4 l5 σ) = 0) then (some ((-7 : Int32), σ)) else (j_cg l2 l4 l5 60 60 (
  j_lt (j_cl σ 68 (l2).toNatClampNeg 70 (l4).toNatClampNeg (l5).toNatClampNeg) fun σ2 =>
  some ((0 : Int32), σ2)))))) else
  if l3 = 2 then (if ((f_X8_isMade 67 σ) = 0) ∨ ((f_X8_isMade 71 σ) = 0) then (some ((-6 : Int32), σ)) else (if ¬ (σ.1 67 1) = (σ.1 71 1) then (some ((-8 : Int32), σ)) else (if ((f_X8_hasPart 67 l2 l5 σ) = 0) ∨ ((f_X8_hasPart 71 l4 l5 σ) = 0) then (some ((-7 : Int32), σ)) else (j_cg l2 l4 l5 60 60 (
  j_lt (j_cl σ 68 (l2).toNatClampNeg 72 (l4).toNatClampNeg (l5).toNatClampNeg) fun σ3 =>
  some ((0 : Int32), σ3)))))) else
  if l3 = 3 then (if ((f_X8_isMade 67 σ) = 0) ∨ ((f_X8_isMade 73 σ) = 0) then (some ((-6 : Int32), σ)) else (if ¬ (σ.1 67 1) = (σ.1 73 1) then (some ((-8 : Int32), σ)) else (if ((f_X8_hasPart 67 l2 l5 σ) = 0) ∨ ((f_X8_hasPart 73 l4 l5 σ) = 0) then (some ((-7 : Int32), σ)) else (j_cg l2 l4 l5 60 60 (
  j_lt (j_cl σ 68 (l2).toNatClampNeg 74 (l4).toNatClampNeg (l5).toNatClampNeg) fun σ4 =>
  some ((0 : Int32), σ4)))))) else
  none) else
  if l1 = 1 then (if l3 = 0 then (if ((f_X8_isMade 69 σ) = 0) ∨ ((f_X8_isMade 67 σ) = 0) then (some ((-6 : Int32), σ)) else (if ¬ (σ.1 69 1) = (σ.1 67 1) then (some ((-8 : Int32), σ)) else (if ((f_X8_hasPart 69 l2 l5 σ) = 0) ∨ ((f_X8_hasPart 67 l4 l5 σ) = 0) then (some ((-7 : Int32), σ)) else (j_cg l2 l4 l5 60 60 (
  j_lt (j_cl σ 70 (l2).toNatClampNeg 68 (l4).toNatClampNeg (l5).toNatClampNeg) fun σ5 =>
  some ((0 : Int32), σ5)))))) else
  if l3 = 1 then (if ((f_X8_isMade 69 σ) = 0) ∨ ((f_X8_isMade 69 σ) = 0) then (some ((-6 : Int32), σ)) else (if ¬ (σ.1 69 1) = (σ.1 69 1) then (some ((-8 : Int32), σ)) else (if ((f_X8_hasPart 69 l2 l5 σ) = 0) ∨ ((f_X8_hasPart 69 l4 l5 σ) = 0) then (some ((-7 : Int32), σ)) else (j_cg l2 l4 l5 60 60 (
  j_lt (j_cl σ 70 (l2).toNatClampNeg 70 (l4).toNatClampNeg (l5).toNatClampNeg) fun σ6 =>
  some ((0 : Int32), σ6)))))) else
  if l3 = 2 then (if ((f_X8_isMade 69 σ) = 0) ∨ ((f_X8_isMade 71 σ) = 0) then (some ((-6 : Int32), σ)) else (if ¬ (σ.1 69 1) = (σ.1 71 1) then (some ((-8 : Int32), σ)) else (if ((f_X8_hasPart 69 l2 l5 σ) = 0) ∨ ((f_X8_hasPart 71 l4 l5 σ) = 0) then (some ((-7 : Int32), σ)) else (j_cg l2 l4 l5 60 60 (
  j_lt (j_cl σ 70 (l2).toNatClampNeg 72 (l4).toNatClampNeg (l5).toNatClampNeg) fun σ7 =>
  some ((0 : Int32), σ7)))))) else
  if l3 = 3 then (if ((f_X8_isMade 69 σ) = 0) ∨ ((f_X8_isMade 73 σ) = 0) then (some ((-6 : Int32), σ)) else (if ¬ (σ.1 69 1) = (σ.1 73 1) then (some ((-8 : Int32), σ)) else (if ((f_X8_hasPart 69 l2 l5 σ) = 0) ∨ ((f_X8_hasPart 73 l4 l5 σ) = 0) then (some ((-7 : Int32), σ)) else (j_cg l2 l4 l5 60 60 (
  j_lt (j_cl σ 70 (l2).toNatClampNeg 74 (l4).toNatClampNeg (l5).toNatClampNeg) fun σ8 =>
  some ((0 : Int32), σ8)))))) else
  none) else
  if l1 = 2 then (if l3 = 0 then (if ((f_X8_isMade 71 σ) = 0) ∨ ((f_X8_isMade 67 σ) = 0) then (some ((-6 : Int32), σ)) else (if ¬ (σ.1 71 1) = (σ.1 67 1) then (some ((-8 : Int32), σ)) else (if ((f_X8_hasPart 71 l2 l5 σ) = 0) ∨ ((f_X8_hasPart 67 l4 l5 σ) = 0) then (some ((-7 : Int32), σ)) else (j_cg l2 l4 l5 60 60 (
  j_lt (j_cl σ 72 (l2).toNatClampNeg 68 (l4).toNatClampNeg (l5).toNatClampNeg) fun σ9 =>
  some ((0 : Int32), σ9)))))) else
  if l3 = 1 then (if ((f_X8_isMade 71 σ) = 0) ∨ ((f_X8_isMade 69 σ) = 0) then (some ((-6 : Int32), σ)) else (if ¬ (σ.1 71 1) = (σ.1 69 1) then (some ((-8 : Int32), σ)) else (if ((f_X8_hasPart 71 l2 l5 σ) = 0) ∨ ((f_X8_hasPart 69 l4 l5 σ) = 0) then (some ((-7 : Int32), σ)) else (j_cg l2 l4 l5 60 60 (
  j_lt (j_cl σ 72 (l2).toNatClampNeg 70 (l4).toNatClampNeg (l5).toNatClampNeg) fun σ10 =>
  some ((0 : Int32), σ10)))))) else
  if l3 = 2 then (if ((f_X8_isMade 71 σ) = 0) ∨ ((f_X8_isMade 71 σ) = 0) then (some ((-6 : Int32), σ)) else (if ¬ (σ.1 71 1) = (σ.1 71 1) then (some ((-8 : Int32), σ)) else (if ((f_X8_hasPart 71 l2 l5 σ) = 0) ∨ ((f_X8_hasPart 71 l4 l5 σ) = 0) then (some ((-7 : Int32), σ)) else (j_cg l2 l4 l5 60 60 (
  j_lt (j_cl σ 72 (l2).toNatClampNeg 72 (l4).toNatClampNeg (l5).toNatClampNeg) fun σ11 =>
  some ((0 : Int32), σ11)))))) else
  if l3 = 3 then (if ((f_X8_isMade 71 σ) = 0) ∨ ((f_X8_isMade 73 σ) = 0) then (some ((-6 : Int32), σ)) else (if ¬ (σ.1 71 1) = (σ.1 73 1) then (some ((-8 : Int32), σ)) else (if ((f_X8_hasPart 71 l2 l5 σ) = 0) ∨ ((f_X8_hasPart 73 l4 l5 σ) = 0) then (some ((-7 : Int32), σ)) else (j_cg l2 l4 l5 60 60 (
  j_lt (j_cl σ 72 (l2).toNatClampNeg 74 (l4).toNatClampNeg (l5).toNatClampNeg) fun σ12 =>
  some ((0 : Int32), σ12)))))) else
  none) else
  if l1 = 3 then (if l3 = 0 then (if ((f_X8_isMade 73 σ) = 0) ∨ ((f_X8_isMade 67 σ) = 0) then (some ((-6 : Int32), σ)) else (if ¬ (σ.1 73 1) = (σ.1 67 1) then (some ((-8 : Int32), σ)) else (if ((f_X8_hasPart 73 l2 l5 σ) = 0) ∨ ((f_X8_hasPart 67 l4 l5 σ) = 0) then (some ((-7 : Int32), σ)) else (j_cg l2 l4 l5 60 60 (
  j_lt (j_cl σ 74 (l2).toNatClampNeg 68 (l4).toNatClampNeg (l5).toNatClampNeg) fun σ13 =>
  some ((0 : Int32), σ13)))))) else
  if l3 = 1 then (if ((f_X8_isMade 73 σ) = 0) ∨ ((f_X8_isMade 69 σ) = 0) then (some ((-6 : Int32), σ)) else (if ¬ (σ.1 73 1) = (σ.1 69 1) then (some ((-8 : Int32), σ)) else (if ((f_X8_hasPart 73 l2 l5 σ) = 0) ∨ ((f_X8_hasPart 69 l4 l5 σ) = 0) then (some ((-7 : Int32), σ)) else (j_cg l2 l4 l5 60 60 (
  j_lt (j_cl σ 74 (l2).toNatClampNeg 70 (l4).toNatClampNeg (l5).toNatClampNeg) fun σ14 =>
  some ((0 : Int32), σ14)))))) else
  if l3 = 2 then (if ((f_X8_isMade 73 σ) = 0) ∨ ((f_X8_isMade 71 σ) = 0) then (some ((-6 : Int32), σ)) else (if ¬ (σ.1 73 1) = (σ.1 71 1) then (some ((-8 : Int32), σ)) else (if ((f_X8_hasPart 73 l2 l5 σ) = 0) ∨ ((f_X8_hasPart 71 l4 l5 σ) = 0) then (some ((-7 : Int32), σ)) else (j_cg l2 l4 l5 60 60 (
  j_lt (j_cl σ 74 (l2).toNatClampNeg 72 (l4).toNatClampNeg (l5).toNatClampNeg) fun σ15 =>
  some ((0 : Int32), σ15)))))) else
  if l3 = 3 then (if ((f_X8_isMade 73 σ) = 0) ∨ ((f_X8_isMade 73 σ) = 0) then (some ((-6 : Int32), σ)) else (if ¬ (σ.1 73 1) = (σ.1 73 1) then (some ((-8 : Int32), σ)) else (if ((f_X8_hasPart 73 l2 l5 σ) = 0) ∨ ((f_X8_hasPart 73 l4 l5 σ) = 0) then (some ((-7 : Int32), σ)) else (j_cg l2 l4 l5 60 60 (
  j_lt (j_cl σ 74 (l2).toNatClampNeg 74 (l4).toNatClampNeg (l5).toNatClampNeg) fun σ16 =>
  some ((0 : Int32), σ16)))))) else
  none) else
  none)
theorem c_X11_paste (l1 : Int32) (l2 : Int32) (l3 : Int32) (l4 : Int32) (l5 : Int32) (σ : j_G) : j_K true 1 181 [.ref 0, .int l1, .int l2, .int l3, .int l4, .int l5] σ (f_X11_paste l1 l2 l3 l4 l5 σ) j_Ri := by
  refine j_mkK (M := M_cX11_paste) (L := [some (.ref 0), some (.int l1), some (.int l2), some (.int l3), some (.int l4), some (.int l5), none, none]) (m := 2) t_181 rfl (j_rcvO j_a0 rfl) rfl (fun d hd τ => ?_)
  unfold f_X11_paste
  refine j_iload_n (pc' := 1) rfl rfl rfl ?_
  refine j_callTi (pc' := 4) (ai := 182) (vs := [.int l1]) (rest := []) rfl rfl (fun _ _ => rfl) (c_X11_isSlot l1 σ) (j_dd rfl hd) rfl ?_
  refine j_two (pT := 14) (pF := 17) (L1 := [some (.ref 0), some (.int l1), some (.int l2), some (.int l3), some (.int l4), some (.int l5), none, none]) (st1 := []) (fun o kT kF => ?_) (fun h149 => ?_) (fun h149 => ?_)
  · refine j_ifeq (t := 14) (pc' := 7) rfl rfl rfl (fun h150 => ?_) (fun h150 => ?_)
    · exact kT (Or.inl h150)
    · refine j_iload_n (pc' := 8) rfl rfl rfl ?_
      refine j_callTi (pc' := 11) (ai := 182) (vs := [.int l3]) (rest := []) rfl rfl (fun _ _ => rfl) (c_X11_isSlot l3 σ) (j_dd rfl hd) rfl ?_
      refine j_ifne (t := 17) (pc' := 14) rfl rfl rfl (fun h151 => ?_) (fun h151 => ?_)
      · exact kF (fun z => z.elim h150 (h151))
      · exact kT (Or.inr (h151))
  · refine j_bipush (pc' := 16) (x := (-2 : Int32)) rfl rfl rfl ?_
    exact j_ret rfl rfl rfl (fun _ h => h)
  · refine j_aload_n (pc' := 18) rfl rfl rfl ?_
    refine j_gfr (pc' := 21) (x := 42) rfl rfl j_a0 rfl rfl ?_
    refine j_iload_n (pc' := 22) rfl rfl rfl ?_
    refine j_spl (k := (0 : Int32)) (fun h1 => ?_) (fun h1 => ?_)
    · subst h1
      refine j_aald (pc' := 23) (r := 67) rfl rfl j_a42 (by decide) rfl ?_
      refine j_astore (pc' := 25) (L' := [some (.ref 0), some (.int (0 : Int32)), some (.int l2), some (.int l3), some (.int l4), some (.int l5), some (.ref 67), none]) rfl rfl rfl ?_
      refine j_aload_n (pc' := 26) rfl rfl rfl ?_
      refine j_gfr (pc' := 29) (x := 42) rfl rfl j_a0 rfl rfl ?_
      refine j_iload_n (pc' := 30) rfl rfl rfl ?_
      refine j_spl (k := (0 : Int32)) (fun h2 => ?_) (fun h2 => ?_)
      · subst h2
        refine j_aald (pc' := 31) (r := 67) rfl rfl j_a42 (by decide) rfl ?_
        refine j_astore (pc' := 33) (L' := [some (.ref 0), some (.int (0 : Int32)), some (.int l2), some (.int (0 : Int32)), some (.int l4), some (.int l5), some (.ref 67), some (.ref 67)]) rfl rfl rfl ?_
        refine j_aload (pc' := 35) rfl rfl rfl ?_
        refine j_callTi (pc' := 38) (ai := 91) (vs := [.ref 67]) (rest := []) rfl rfl (fun _ _ => rfl) (c_X8_isMade_67  σ) (j_dd rfl hd) rfl ?_
        refine j_two (pT := 49) (pF := 52) (L1 := [some (.ref 0), some (.int (0 : Int32)), some (.int l2), some (.int (0 : Int32)), some (.int l4), some (.int l5), some (.ref 67), some (.ref 67)]) (st1 := []) (fun o kT kF => ?_) (fun h8 => ?_) (fun h8 => ?_)
        · refine j_ifeq (t := 49) (pc' := 41) rfl rfl rfl (fun h9 => ?_) (fun h9 => ?_)
          · exact kT (Or.inl h9)
          · refine j_aload (pc' := 43) rfl rfl rfl ?_
            refine j_callTi (pc' := 46) (ai := 91) (vs := [.ref 67]) (rest := []) rfl rfl (fun _ _ => rfl) (c_X8_isMade_67  σ) (j_dd rfl hd) rfl ?_
            refine j_ifne (t := 52) (pc' := 49) rfl rfl rfl (fun h10 => ?_) (fun h10 => ?_)
            · exact kF (fun z => z.elim h9 (h10))
            · exact kT (Or.inr (h10))
        · refine j_bipush (pc' := 51) (x := (-6 : Int32)) rfl rfl rfl ?_
          exact j_ret rfl rfl rfl (fun _ h => h)
        · refine j_aload (pc' := 54) rfl rfl rfl ?_
          refine j_gfi (pc' := 57) rfl rfl j_a67 rfl ?_
          refine j_aload (pc' := 59) rfl rfl rfl ?_
          refine j_gfi (pc' := 62) rfl rfl j_a67 rfl ?_
          refine j_two (pT := 65) (pF := 68) (L1 := [some (.ref 0), some (.int (0 : Int32)), some (.int l2), some (.int (0 : Int32)), some (.int l4), some (.int l5), some (.ref 67), some (.ref 67)]) (st1 := []) (fun o kT kF => ?_) (fun h6 => ?_) (fun h6 => ?_)
          · refine j_iceq (t := 68) (pc' := 65) rfl rfl rfl (fun h7 => ?_) (fun h7 => ?_)
            · exact kF (fun z => z h7)
            · exact kT h7
          · refine j_bipush (pc' := 67) (x := (-8 : Int32)) rfl rfl rfl ?_
            exact j_ret rfl rfl rfl (fun _ h => h)
          · refine j_aload (pc' := 70) rfl rfl rfl ?_
            refine j_iload_n (pc' := 71) rfl rfl rfl ?_
            refine j_iload (pc' := 73) rfl rfl rfl ?_
            refine j_callTi (pc' := 76) (ai := 94) (vs := [.ref 67, .int l2, .int l5]) (rest := []) rfl rfl (fun _ _ => rfl) (c_X8_hasPart_67 l2 l5 σ) (j_dd rfl hd) rfl ?_
            refine j_two (pT := 91) (pF := 94) (L1 := [some (.ref 0), some (.int (0 : Int32)), some (.int l2), some (.int (0 : Int32)), some (.int l4), some (.int l5), some (.ref 67), some (.ref 67)]) (st1 := []) (fun o kT kF => ?_) (fun h3 => ?_) (fun h3 => ?_)
            · refine j_ifeq (t := 91) (pc' := 79) rfl rfl rfl (fun h4 => ?_) (fun h4 => ?_)
              · exact kT (Or.inl h4)
              · refine j_aload (pc' := 81) rfl rfl rfl ?_
                refine j_iload (pc' := 83) rfl rfl rfl ?_
                refine j_iload (pc' := 85) rfl rfl rfl ?_
                refine j_callTi (pc' := 88) (ai := 94) (vs := [.ref 67, .int l4, .int l5]) (rest := []) rfl rfl (fun _ _ => rfl) (c_X8_hasPart_67 l4 l5 σ) (j_dd rfl hd) rfl ?_
                refine j_ifne (t := 94) (pc' := 91) rfl rfl rfl (fun h5 => ?_) (fun h5 => ?_)
                · exact kF (fun z => z.elim h4 (h5))
                · exact kT (Or.inr (h5))
            · refine j_bipush (pc' := 93) (x := (-7 : Int32)) rfl rfl rfl ?_
              exact j_ret rfl rfl rfl (fun _ h => h)
            · refine j_aload (pc' := 96) rfl rfl rfl ?_
              refine j_gfr (pc' := 99) (x := 68) rfl rfl j_a67 rfl rfl ?_
              refine j_iload_n (pc' := 100) rfl rfl rfl ?_
              refine j_aload (pc' := 102) rfl rfl rfl ?_
              refine j_gfr (pc' := 105) (x := 68) rfl rfl j_a67 rfl rfl ?_
              refine j_iload (pc' := 107) rfl rfl rfl ?_
              refine j_iload (pc' := 109) rfl rfl rfl ?_
              refine j_cpl (pc' := 112) rfl rfl rfl j_a68 j_a68 (fun σ1 => ?_)
              refine j_iconst (pc' := 113) (x := (0 : Int32)) rfl rfl rfl ?_
              exact j_ret rfl rfl rfl (fun _ h => h)
      refine j_spl (k := (1 : Int32)) (fun h11 => ?_) (fun h11 => ?_)
      · subst h11
        refine j_aald (pc' := 31) (r := 69) rfl rfl j_a42 (by decide) rfl ?_
        refine j_astore (pc' := 33) (L' := [some (.ref 0), some (.int (0 : Int32)), some (.int l2), some (.int (1 : Int32)), some (.int l4), some (.int l5), some (.ref 67), some (.ref 69)]) rfl rfl rfl ?_
        refine j_aload (pc' := 35) rfl rfl rfl ?_
        refine j_callTi (pc' := 38) (ai := 91) (vs := [.ref 67]) (rest := []) rfl rfl (fun _ _ => rfl) (c_X8_isMade_67  σ) (j_dd rfl hd) rfl ?_
        refine j_two (pT := 49) (pF := 52) (L1 := [some (.ref 0), some (.int (0 : Int32)), some (.int l2), some (.int (1 : Int32)), some (.int l4), some (.int l5), some (.ref 67), some (.ref 69)]) (st1 := []) (fun o kT kF => ?_) (fun h17 => ?_) (fun h17 => ?_)
        · refine j_ifeq (t := 49) (pc' := 41) rfl rfl rfl (fun h18 => ?_) (fun h18 => ?_)
          · exact kT (Or.inl h18)
          · refine j_aload (pc' := 43) rfl rfl rfl ?_
            refine j_callTi (pc' := 46) (ai := 91) (vs := [.ref 69]) (rest := []) rfl rfl (fun _ _ => rfl) (c_X8_isMade_69  σ) (j_dd rfl hd) rfl ?_
            refine j_ifne (t := 52) (pc' := 49) rfl rfl rfl (fun h19 => ?_) (fun h19 => ?_)
            · exact kF (fun z => z.elim h18 (h19))
            · exact kT (Or.inr (h19))
        · refine j_bipush (pc' := 51) (x := (-6 : Int32)) rfl rfl rfl ?_
          exact j_ret rfl rfl rfl (fun _ h => h)
        · refine j_aload (pc' := 54) rfl rfl rfl ?_
          refine j_gfi (pc' := 57) rfl rfl j_a67 rfl ?_
          refine j_aload (pc' := 59) rfl rfl rfl ?_
          refine j_gfi (pc' := 62) rfl rfl j_a69 rfl ?_
          refine j_two (pT := 65) (pF := 68) (L1 := [some (.ref 0), some (.int (0 : Int32)), some (.int l2), some (.int (1 : Int32)), some (.int l4), some (.int l5), some (.ref 67), some (.ref 69)]) (st1 := []) (fun o kT kF => ?_) (fun h15 => ?_) (fun h15 => ?_)
          · refine j_iceq (t := 68) (pc' := 65) rfl rfl rfl (fun h16 => ?_) (fun h16 => ?_)
            · exact kF (fun z => z h16)
            · exact kT h16
          · refine j_bipush (pc' := 67) (x := (-8 : Int32)) rfl rfl rfl ?_
            exact j_ret rfl rfl rfl (fun _ h => h)
          · refine j_aload (pc' := 70) rfl rfl rfl ?_
            refine j_iload_n (pc' := 71) rfl rfl rfl ?_
            refine j_iload (pc' := 73) rfl rfl rfl ?_
            refine j_callTi (pc' := 76) (ai := 94) (vs := [.ref 67, .int l2, .int l5]) (rest := []) rfl rfl (fun _ _ => rfl) (c_X8_hasPart_67 l2 l5 σ) (j_dd rfl hd) rfl ?_
            refine j_two (pT := 91) (pF := 94) (L1 := [some (.ref 0), some (.int (0 : Int32)), some (.int l2), some (.int (1 : Int32)), some (.int l4), some (.int l5), some (.ref 67), some (.ref 69)]) (st1 := []) (fun o kT kF => ?_) (fun h12 => ?_) (fun h12 => ?_)
            · refine j_ifeq (t := 91) (pc' := 79) rfl rfl rfl (fun h13 => ?_) (fun h13 => ?_)
              · exact kT (Or.inl h13)
              · refine j_aload (pc' := 81) rfl rfl rfl ?_
                refine j_iload (pc' := 83) rfl rfl rfl ?_
                refine j_iload (pc' := 85) rfl rfl rfl ?_
                refine j_callTi (pc' := 88) (ai := 94) (vs := [.ref 69, .int l4, .int l5]) (rest := []) rfl rfl (fun _ _ => rfl) (c_X8_hasPart_69 l4 l5 σ) (j_dd rfl hd) rfl ?_
                refine j_ifne (t := 94) (pc' := 91) rfl rfl rfl (fun h14 => ?_) (fun h14 => ?_)
                · exact kF (fun z => z.elim h13 (h14))
                · exact kT (Or.inr (h14))
            · refine j_bipush (pc' := 93) (x := (-7 : Int32)) rfl rfl rfl ?_
              exact j_ret rfl rfl rfl (fun _ h => h)
            · refine j_aload (pc' := 96) rfl rfl rfl ?_
              refine j_gfr (pc' := 99) (x := 68) rfl rfl j_a67 rfl rfl ?_
              refine j_iload_n (pc' := 100) rfl rfl rfl ?_
              refine j_aload (pc' := 102) rfl rfl rfl ?_
              refine j_gfr (pc' := 105) (x := 70) rfl rfl j_a69 rfl rfl ?_
              refine j_iload (pc' := 107) rfl rfl rfl ?_
              refine j_iload (pc' := 109) rfl rfl rfl ?_
              refine j_cpl (pc' := 112) rfl rfl rfl j_a68 j_a70 (fun σ2 => ?_)
              refine j_iconst (pc' := 113) (x := (0 : Int32)) rfl rfl rfl ?_
              exact j_ret rfl rfl rfl (fun _ h => h)
      refine j_spl (k := (2 : Int32)) (fun h20 => ?_) (fun h20 => ?_)
      · subst h20
        refine j_aald (pc' := 31) (r := 71) rfl rfl j_a42 (by decide) rfl ?_
        refine j_astore (pc' := 33) (L' := [some (.ref 0), some (.int (0 : Int32)), some (.int l2), some (.int (2 : Int32)), some (.int l4), some (.int l5), some (.ref 67), some (.ref 71)]) rfl rfl rfl ?_
        refine j_aload (pc' := 35) rfl rfl rfl ?_
        refine j_callTi (pc' := 38) (ai := 91) (vs := [.ref 67]) (rest := []) rfl rfl (fun _ _ => rfl) (c_X8_isMade_67  σ) (j_dd rfl hd) rfl ?_
        refine j_two (pT := 49) (pF := 52) (L1 := [some (.ref 0), some (.int (0 : Int32)), some (.int l2), some (.int (2 : Int32)), some (.int l4), some (.int l5), some (.ref 67), some (.ref 71)]) (st1 := []) (fun o kT kF => ?_) (fun h26 => ?_) (fun h26 => ?_)
        · refine j_ifeq (t := 49) (pc' := 41) rfl rfl rfl (fun h27 => ?_) (fun h27 => ?_)
          · exact kT (Or.inl h27)
          · refine j_aload (pc' := 43) rfl rfl rfl ?_
            refine j_callTi (pc' := 46) (ai := 91) (vs := [.ref 71]) (rest := []) rfl rfl (fun _ _ => rfl) (c_X8_isMade_71  σ) (j_dd rfl hd) rfl ?_
            refine j_ifne (t := 52) (pc' := 49) rfl rfl rfl (fun h28 => ?_) (fun h28 => ?_)
            · exact kF (fun z => z.elim h27 (h28))
            · exact kT (Or.inr (h28))
        · refine j_bipush (pc' := 51) (x := (-6 : Int32)) rfl rfl rfl ?_
          exact j_ret rfl rfl rfl (fun _ h => h)
        · refine j_aload (pc' := 54) rfl rfl rfl ?_
          refine j_gfi (pc' := 57) rfl rfl j_a67 rfl ?_
          refine j_aload (pc' := 59) rfl rfl rfl ?_
          refine j_gfi (pc' := 62) rfl rfl j_a71 rfl ?_
          refine j_two (pT := 65) (pF := 68) (L1 := [some (.ref 0), some (.int (0 : Int32)), some (.int l2), some (.int (2 : Int32)), some (.int l4), some (.int l5), some (.ref 67), some (.ref 71)]) (st1 := []) (fun o kT kF => ?_) (fun h24 => ?_) (fun h24 => ?_)
          · refine j_iceq (t := 68) (pc' := 65) rfl rfl rfl (fun h25 => ?_) (fun h25 => ?_)
            · exact kF (fun z => z h25)
            · exact kT h25
          · refine j_bipush (pc' := 67) (x := (-8 : Int32)) rfl rfl rfl ?_
            exact j_ret rfl rfl rfl (fun _ h => h)
          · refine j_aload (pc' := 70) rfl rfl rfl ?_
            refine j_iload_n (pc' := 71) rfl rfl rfl ?_
            refine j_iload (pc' := 73) rfl rfl rfl ?_
            refine j_callTi (pc' := 76) (ai := 94) (vs := [.ref 67, .int l2, .int l5]) (rest := []) rfl rfl (fun _ _ => rfl) (c_X8_hasPart_67 l2 l5 σ) (j_dd rfl hd) rfl ?_
            refine j_two (pT := 91) (pF := 94) (L1 := [some (.ref 0), some (.int (0 : Int32)), some (.int l2), some (.int (2 : Int32)), some (.int l4), some (.int l5), some (.ref 67), some (.ref 71)]) (st1 := []) (fun o kT kF => ?_) (fun h21 => ?_) (fun h21 => ?_)
            · refine j_ifeq (t := 91) (pc' := 79) rfl rfl rfl (fun h22 => ?_) (fun h22 => ?_)
              · exact kT (Or.inl h22)
              · refine j_aload (pc' := 81) rfl rfl rfl ?_
                refine j_iload (pc' := 83) rfl rfl rfl ?_
                refine j_iload (pc' := 85) rfl rfl rfl ?_
                refine j_callTi (pc' := 88) (ai := 94) (vs := [.ref 71, .int l4, .int l5]) (rest := []) rfl rfl (fun _ _ => rfl) (c_X8_hasPart_71 l4 l5 σ) (j_dd rfl hd) rfl ?_
                refine j_ifne (t := 94) (pc' := 91) rfl rfl rfl (fun h23 => ?_) (fun h23 => ?_)
                · exact kF (fun z => z.elim h22 (h23))
                · exact kT (Or.inr (h23))
            · refine j_bipush (pc' := 93) (x := (-7 : Int32)) rfl rfl rfl ?_
              exact j_ret rfl rfl rfl (fun _ h => h)
            · refine j_aload (pc' := 96) rfl rfl rfl ?_
              refine j_gfr (pc' := 99) (x := 68) rfl rfl j_a67 rfl rfl ?_
              refine j_iload_n (pc' := 100) rfl rfl rfl ?_
              refine j_aload (pc' := 102) rfl rfl rfl ?_
              refine j_gfr (pc' := 105) (x := 72) rfl rfl j_a71 rfl rfl ?_
              refine j_iload (pc' := 107) rfl rfl rfl ?_
              refine j_iload (pc' := 109) rfl rfl rfl ?_
              refine j_cpl (pc' := 112) rfl rfl rfl j_a68 j_a72 (fun σ3 => ?_)
              refine j_iconst (pc' := 113) (x := (0 : Int32)) rfl rfl rfl ?_
              exact j_ret rfl rfl rfl (fun _ h => h)
      refine j_spl (k := (3 : Int32)) (fun h29 => ?_) (fun h29 => ?_)
      · subst h29
        refine j_aald (pc' := 31) (r := 73) rfl rfl j_a42 (by decide) rfl ?_
        refine j_astore (pc' := 33) (L' := [some (.ref 0), some (.int (0 : Int32)), some (.int l2), some (.int (3 : Int32)), some (.int l4), some (.int l5), some (.ref 67), some (.ref 73)]) rfl rfl rfl ?_
        refine j_aload (pc' := 35) rfl rfl rfl ?_
        refine j_callTi (pc' := 38) (ai := 91) (vs := [.ref 67]) (rest := []) rfl rfl (fun _ _ => rfl) (c_X8_isMade_67  σ) (j_dd rfl hd) rfl ?_
        refine j_two (pT := 49) (pF := 52) (L1 := [some (.ref 0), some (.int (0 : Int32)), some (.int l2), some (.int (3 : Int32)), some (.int l4), some (.int l5), some (.ref 67), some (.ref 73)]) (st1 := []) (fun o kT kF => ?_) (fun h35 => ?_) (fun h35 => ?_)
        · refine j_ifeq (t := 49) (pc' := 41) rfl rfl rfl (fun h36 => ?_) (fun h36 => ?_)
          · exact kT (Or.inl h36)
          · refine j_aload (pc' := 43) rfl rfl rfl ?_
            refine j_callTi (pc' := 46) (ai := 91) (vs := [.ref 73]) (rest := []) rfl rfl (fun _ _ => rfl) (c_X8_isMade_73  σ) (j_dd rfl hd) rfl ?_
            refine j_ifne (t := 52) (pc' := 49) rfl rfl rfl (fun h37 => ?_) (fun h37 => ?_)
            · exact kF (fun z => z.elim h36 (h37))
            · exact kT (Or.inr (h37))
        · refine j_bipush (pc' := 51) (x := (-6 : Int32)) rfl rfl rfl ?_
          exact j_ret rfl rfl rfl (fun _ h => h)
        · refine j_aload (pc' := 54) rfl rfl rfl ?_
          refine j_gfi (pc' := 57) rfl rfl j_a67 rfl ?_
          refine j_aload (pc' := 59) rfl rfl rfl ?_
          refine j_gfi (pc' := 62) rfl rfl j_a73 rfl ?_
          refine j_two (pT := 65) (pF := 68) (L1 := [some (.ref 0), some (.int (0 : Int32)), some (.int l2), some (.int (3 : Int32)), some (.int l4), some (.int l5), some (.ref 67), some (.ref 73)]) (st1 := []) (fun o kT kF => ?_) (fun h33 => ?_) (fun h33 => ?_)
          · refine j_iceq (t := 68) (pc' := 65) rfl rfl rfl (fun h34 => ?_) (fun h34 => ?_)
            · exact kF (fun z => z h34)
            · exact kT h34
          · refine j_bipush (pc' := 67) (x := (-8 : Int32)) rfl rfl rfl ?_
            exact j_ret rfl rfl rfl (fun _ h => h)
          · refine j_aload (pc' := 70) rfl rfl rfl ?_
            refine j_iload_n (pc' := 71) rfl rfl rfl ?_
            refine j_iload (pc' := 73) rfl rfl rfl ?_
            refine j_callTi (pc' := 76) (ai := 94) (vs := [.ref 67, .int l2, .int l5]) (rest := []) rfl rfl (fun _ _ => rfl) (c_X8_hasPart_67 l2 l5 σ) (j_dd rfl hd) rfl ?_
            refine j_two (pT := 91) (pF := 94) (L1 := [some (.ref 0), some (.int (0 : Int32)), some (.int l2), some (.int (3 : Int32)), some (.int l4), some (.int l5), some (.ref 67), some (.ref 73)]) (st1 := []) (fun o kT kF => ?_) (fun h30 => ?_) (fun h30 => ?_)
            · refine j_ifeq (t := 91) (pc' := 79) rfl rfl rfl (fun h31 => ?_) (fun h31 => ?_)
              · exact kT (Or.inl h31)
              · refine j_aload (pc' := 81) rfl rfl rfl ?_
                refine j_iload (pc' := 83) rfl rfl rfl ?_
                refine j_iload (pc' := 85) rfl rfl rfl ?_
                refine j_callTi (pc' := 88) (ai := 94) (vs := [.ref 73, .int l4, .int l5]) (rest := []) rfl rfl (fun _ _ => rfl) (c_X8_hasPart_73 l4 l5 σ) (j_dd rfl hd) rfl ?_
                refine j_ifne (t := 94) (pc' := 91) rfl rfl rfl (fun h32 => ?_) (fun h32 => ?_)
                · exact kF (fun z => z.elim h31 (h32))
                · exact kT (Or.inr (h32))
            · refine j_bipush (pc' := 93) (x := (-7 : Int32)) rfl rfl rfl ?_
              exact j_ret rfl rfl rfl (fun _ h => h)
            · refine j_aload (pc' := 96) rfl rfl rfl ?_
              refine j_gfr (pc' := 99) (x := 68) rfl rfl j_a67 rfl rfl ?_
              refine j_iload_n (pc' := 100) rfl rfl rfl ?_
              refine j_aload (pc' := 102) rfl rfl rfl ?_
              refine j_gfr (pc' := 105) (x := 74) rfl rfl j_a73 rfl rfl ?_
              refine j_iload (pc' := 107) rfl rfl rfl ?_
              refine j_iload (pc' := 109) rfl rfl rfl ?_
              refine j_cpl (pc' := 112) rfl rfl rfl j_a68 j_a74 (fun σ4 => ?_)
              refine j_iconst (pc' := 113) (x := (0 : Int32)) rfl rfl rfl ?_
              exact j_ret rfl rfl rfl (fun _ h => h)
      exact j_none
    refine j_spl (k := (1 : Int32)) (fun h38 => ?_) (fun h38 => ?_)
    · subst h38
      refine j_aald (pc' := 23) (r := 69) rfl rfl j_a42 (by decide) rfl ?_
      refine j_astore (pc' := 25) (L' := [some (.ref 0), some (.int (1 : Int32)), some (.int l2), some (.int l3), some (.int l4), some (.int l5), some (.ref 69), none]) rfl rfl rfl ?_
      refine j_aload_n (pc' := 26) rfl rfl rfl ?_
      refine j_gfr (pc' := 29) (x := 42) rfl rfl j_a0 rfl rfl ?_
      refine j_iload_n (pc' := 30) rfl rfl rfl ?_
      refine j_spl (k := (0 : Int32)) (fun h39 => ?_) (fun h39 => ?_)
      · subst h39
        refine j_aald (pc' := 31) (r := 67) rfl rfl j_a42 (by decide) rfl ?_
        refine j_astore (pc' := 33) (L' := [some (.ref 0), some (.int (1 : Int32)), some (.int l2), some (.int (0 : Int32)), some (.int l4), some (.int l5), some (.ref 69), some (.ref 67)]) rfl rfl rfl ?_
        refine j_aload (pc' := 35) rfl rfl rfl ?_
        refine j_callTi (pc' := 38) (ai := 91) (vs := [.ref 69]) (rest := []) rfl rfl (fun _ _ => rfl) (c_X8_isMade_69  σ) (j_dd rfl hd) rfl ?_
        refine j_two (pT := 49) (pF := 52) (L1 := [some (.ref 0), some (.int (1 : Int32)), some (.int l2), some (.int (0 : Int32)), some (.int l4), some (.int l5), some (.ref 69), some (.ref 67)]) (st1 := []) (fun o kT kF => ?_) (fun h45 => ?_) (fun h45 => ?_)
        · refine j_ifeq (t := 49) (pc' := 41) rfl rfl rfl (fun h46 => ?_) (fun h46 => ?_)
          · exact kT (Or.inl h46)
          · refine j_aload (pc' := 43) rfl rfl rfl ?_
            refine j_callTi (pc' := 46) (ai := 91) (vs := [.ref 67]) (rest := []) rfl rfl (fun _ _ => rfl) (c_X8_isMade_67  σ) (j_dd rfl hd) rfl ?_
            refine j_ifne (t := 52) (pc' := 49) rfl rfl rfl (fun h47 => ?_) (fun h47 => ?_)
            · exact kF (fun z => z.elim h46 (h47))
            · exact kT (Or.inr (h47))
        · refine j_bipush (pc' := 51) (x := (-6 : Int32)) rfl rfl rfl ?_
          exact j_ret rfl rfl rfl (fun _ h => h)
        · refine j_aload (pc' := 54) rfl rfl rfl ?_
          refine j_gfi (pc' := 57) rfl rfl j_a69 rfl ?_
          refine j_aload (pc' := 59) rfl rfl rfl ?_
          refine j_gfi (pc' := 62) rfl rfl j_a67 rfl ?_
          refine j_two (pT := 65) (pF := 68) (L1 := [some (.ref 0), some (.int (1 : Int32)), some (.int l2), some (.int (0 : Int32)), some (.int l4), some (.int l5), some (.ref 69), some (.ref 67)]) (st1 := []) (fun o kT kF => ?_) (fun h43 => ?_) (fun h43 => ?_)
          · refine j_iceq (t := 68) (pc' := 65) rfl rfl rfl (fun h44 => ?_) (fun h44 => ?_)
            · exact kF (fun z => z h44)
            · exact kT h44
          · refine j_bipush (pc' := 67) (x := (-8 : Int32)) rfl rfl rfl ?_
            exact j_ret rfl rfl rfl (fun _ h => h)
          · refine j_aload (pc' := 70) rfl rfl rfl ?_
            refine j_iload_n (pc' := 71) rfl rfl rfl ?_
            refine j_iload (pc' := 73) rfl rfl rfl ?_
            refine j_callTi (pc' := 76) (ai := 94) (vs := [.ref 69, .int l2, .int l5]) (rest := []) rfl rfl (fun _ _ => rfl) (c_X8_hasPart_69 l2 l5 σ) (j_dd rfl hd) rfl ?_
            refine j_two (pT := 91) (pF := 94) (L1 := [some (.ref 0), some (.int (1 : Int32)), some (.int l2), some (.int (0 : Int32)), some (.int l4), some (.int l5), some (.ref 69), some (.ref 67)]) (st1 := []) (fun o kT kF => ?_) (fun h40 => ?_) (fun h40 => ?_)
            · refine j_ifeq (t := 91) (pc' := 79) rfl rfl rfl (fun h41 => ?_) (fun h41 => ?_)
              · exact kT (Or.inl h41)
              · refine j_aload (pc' := 81) rfl rfl rfl ?_
                refine j_iload (pc' := 83) rfl rfl rfl ?_
                refine j_iload (pc' := 85) rfl rfl rfl ?_
                refine j_callTi (pc' := 88) (ai := 94) (vs := [.ref 67, .int l4, .int l5]) (rest := []) rfl rfl (fun _ _ => rfl) (c_X8_hasPart_67 l4 l5 σ) (j_dd rfl hd) rfl ?_
                refine j_ifne (t := 94) (pc' := 91) rfl rfl rfl (fun h42 => ?_) (fun h42 => ?_)
                · exact kF (fun z => z.elim h41 (h42))
                · exact kT (Or.inr (h42))
            · refine j_bipush (pc' := 93) (x := (-7 : Int32)) rfl rfl rfl ?_
              exact j_ret rfl rfl rfl (fun _ h => h)
            · refine j_aload (pc' := 96) rfl rfl rfl ?_
              refine j_gfr (pc' := 99) (x := 70) rfl rfl j_a69 rfl rfl ?_
              refine j_iload_n (pc' := 100) rfl rfl rfl ?_
              refine j_aload (pc' := 102) rfl rfl rfl ?_
              refine j_gfr (pc' := 105) (x := 68) rfl rfl j_a67 rfl rfl ?_
              refine j_iload (pc' := 107) rfl rfl rfl ?_
              refine j_iload (pc' := 109) rfl rfl rfl ?_
              refine j_cpl (pc' := 112) rfl rfl rfl j_a70 j_a68 (fun σ5 => ?_)
              refine j_iconst (pc' := 113) (x := (0 : Int32)) rfl rfl rfl ?_
              exact j_ret rfl rfl rfl (fun _ h => h)
      refine j_spl (k := (1 : Int32)) (fun h48 => ?_) (fun h48 => ?_)
      · subst h48
        refine j_aald (pc' := 31) (r := 69) rfl rfl j_a42 (by decide) rfl ?_
        refine j_astore (pc' := 33) (L' := [some (.ref 0), some (.int (1 : Int32)), some (.int l2), some (.int (1 : Int32)), some (.int l4), some (.int l5), some (.ref 69), some (.ref 69)]) rfl rfl rfl ?_
        refine j_aload (pc' := 35) rfl rfl rfl ?_
        refine j_callTi (pc' := 38) (ai := 91) (vs := [.ref 69]) (rest := []) rfl rfl (fun _ _ => rfl) (c_X8_isMade_69  σ) (j_dd rfl hd) rfl ?_
        refine j_two (pT := 49) (pF := 52) (L1 := [some (.ref 0), some (.int (1 : Int32)), some (.int l2), some (.int (1 : Int32)), some (.int l4), some (.int l5), some (.ref 69), some (.ref 69)]) (st1 := []) (fun o kT kF => ?_) (fun h54 => ?_) (fun h54 => ?_)
        · refine j_ifeq (t := 49) (pc' := 41) rfl rfl rfl (fun h55 => ?_) (fun h55 => ?_)
          · exact kT (Or.inl h55)
          · refine j_aload (pc' := 43) rfl rfl rfl ?_
            refine j_callTi (pc' := 46) (ai := 91) (vs := [.ref 69]) (rest := []) rfl rfl (fun _ _ => rfl) (c_X8_isMade_69  σ) (j_dd rfl hd) rfl ?_
            refine j_ifne (t := 52) (pc' := 49) rfl rfl rfl (fun h56 => ?_) (fun h56 => ?_)
            · exact kF (fun z => z.elim h55 (h56))
            · exact kT (Or.inr (h56))
        · refine j_bipush (pc' := 51) (x := (-6 : Int32)) rfl rfl rfl ?_
          exact j_ret rfl rfl rfl (fun _ h => h)
        · refine j_aload (pc' := 54) rfl rfl rfl ?_
          refine j_gfi (pc' := 57) rfl rfl j_a69 rfl ?_
          refine j_aload (pc' := 59) rfl rfl rfl ?_
          refine j_gfi (pc' := 62) rfl rfl j_a69 rfl ?_
          refine j_two (pT := 65) (pF := 68) (L1 := [some (.ref 0), some (.int (1 : Int32)), some (.int l2), some (.int (1 : Int32)), some (.int l4), some (.int l5), some (.ref 69), some (.ref 69)]) (st1 := []) (fun o kT kF => ?_) (fun h52 => ?_) (fun h52 => ?_)
          · refine j_iceq (t := 68) (pc' := 65) rfl rfl rfl (fun h53 => ?_) (fun h53 => ?_)
            · exact kF (fun z => z h53)
            · exact kT h53
          · refine j_bipush (pc' := 67) (x := (-8 : Int32)) rfl rfl rfl ?_
            exact j_ret rfl rfl rfl (fun _ h => h)
          · refine j_aload (pc' := 70) rfl rfl rfl ?_
            refine j_iload_n (pc' := 71) rfl rfl rfl ?_
            refine j_iload (pc' := 73) rfl rfl rfl ?_
            refine j_callTi (pc' := 76) (ai := 94) (vs := [.ref 69, .int l2, .int l5]) (rest := []) rfl rfl (fun _ _ => rfl) (c_X8_hasPart_69 l2 l5 σ) (j_dd rfl hd) rfl ?_
            refine j_two (pT := 91) (pF := 94) (L1 := [some (.ref 0), some (.int (1 : Int32)), some (.int l2), some (.int (1 : Int32)), some (.int l4), some (.int l5), some (.ref 69), some (.ref 69)]) (st1 := []) (fun o kT kF => ?_) (fun h49 => ?_) (fun h49 => ?_)
            · refine j_ifeq (t := 91) (pc' := 79) rfl rfl rfl (fun h50 => ?_) (fun h50 => ?_)
              · exact kT (Or.inl h50)
              · refine j_aload (pc' := 81) rfl rfl rfl ?_
                refine j_iload (pc' := 83) rfl rfl rfl ?_
                refine j_iload (pc' := 85) rfl rfl rfl ?_
                refine j_callTi (pc' := 88) (ai := 94) (vs := [.ref 69, .int l4, .int l5]) (rest := []) rfl rfl (fun _ _ => rfl) (c_X8_hasPart_69 l4 l5 σ) (j_dd rfl hd) rfl ?_
                refine j_ifne (t := 94) (pc' := 91) rfl rfl rfl (fun h51 => ?_) (fun h51 => ?_)
                · exact kF (fun z => z.elim h50 (h51))
                · exact kT (Or.inr (h51))
            · refine j_bipush (pc' := 93) (x := (-7 : Int32)) rfl rfl rfl ?_
              exact j_ret rfl rfl rfl (fun _ h => h)
            · refine j_aload (pc' := 96) rfl rfl rfl ?_
              refine j_gfr (pc' := 99) (x := 70) rfl rfl j_a69 rfl rfl ?_
              refine j_iload_n (pc' := 100) rfl rfl rfl ?_
              refine j_aload (pc' := 102) rfl rfl rfl ?_
              refine j_gfr (pc' := 105) (x := 70) rfl rfl j_a69 rfl rfl ?_
              refine j_iload (pc' := 107) rfl rfl rfl ?_
              refine j_iload (pc' := 109) rfl rfl rfl ?_
              refine j_cpl (pc' := 112) rfl rfl rfl j_a70 j_a70 (fun σ6 => ?_)
              refine j_iconst (pc' := 113) (x := (0 : Int32)) rfl rfl rfl ?_
              exact j_ret rfl rfl rfl (fun _ h => h)
      refine j_spl (k := (2 : Int32)) (fun h57 => ?_) (fun h57 => ?_)
      · subst h57
        refine j_aald (pc' := 31) (r := 71) rfl rfl j_a42 (by decide) rfl ?_
        refine j_astore (pc' := 33) (L' := [some (.ref 0), some (.int (1 : Int32)), some (.int l2), some (.int (2 : Int32)), some (.int l4), some (.int l5), some (.ref 69), some (.ref 71)]) rfl rfl rfl ?_
        refine j_aload (pc' := 35) rfl rfl rfl ?_
        refine j_callTi (pc' := 38) (ai := 91) (vs := [.ref 69]) (rest := []) rfl rfl (fun _ _ => rfl) (c_X8_isMade_69  σ) (j_dd rfl hd) rfl ?_
        refine j_two (pT := 49) (pF := 52) (L1 := [some (.ref 0), some (.int (1 : Int32)), some (.int l2), some (.int (2 : Int32)), some (.int l4), some (.int l5), some (.ref 69), some (.ref 71)]) (st1 := []) (fun o kT kF => ?_) (fun h63 => ?_) (fun h63 => ?_)
        · refine j_ifeq (t := 49) (pc' := 41) rfl rfl rfl (fun h64 => ?_) (fun h64 => ?_)
          · exact kT (Or.inl h64)
          · refine j_aload (pc' := 43) rfl rfl rfl ?_
            refine j_callTi (pc' := 46) (ai := 91) (vs := [.ref 71]) (rest := []) rfl rfl (fun _ _ => rfl) (c_X8_isMade_71  σ) (j_dd rfl hd) rfl ?_
            refine j_ifne (t := 52) (pc' := 49) rfl rfl rfl (fun h65 => ?_) (fun h65 => ?_)
            · exact kF (fun z => z.elim h64 (h65))
            · exact kT (Or.inr (h65))
        · refine j_bipush (pc' := 51) (x := (-6 : Int32)) rfl rfl rfl ?_
          exact j_ret rfl rfl rfl (fun _ h => h)
        · refine j_aload (pc' := 54) rfl rfl rfl ?_
          refine j_gfi (pc' := 57) rfl rfl j_a69 rfl ?_
          refine j_aload (pc' := 59) rfl rfl rfl ?_
          refine j_gfi (pc' := 62) rfl rfl j_a71 rfl ?_
          refine j_two (pT := 65) (pF := 68) (L1 := [some (.ref 0), some (.int (1 : Int32)), some (.int l2), some (.int (2 : Int32)), some (.int l4), some (.int l5), some (.ref 69), some (.ref 71)]) (st1 := []) (fun o kT kF => ?_) (fun h61 => ?_) (fun h61 => ?_)
          · refine j_iceq (t := 68) (pc' := 65) rfl rfl rfl (fun h62 => ?_) (fun h62 => ?_)
            · exact kF (fun z => z h62)
            · exact kT h62
          · refine j_bipush (pc' := 67) (x := (-8 : Int32)) rfl rfl rfl ?_
            exact j_ret rfl rfl rfl (fun _ h => h)
          · refine j_aload (pc' := 70) rfl rfl rfl ?_
            refine j_iload_n (pc' := 71) rfl rfl rfl ?_
            refine j_iload (pc' := 73) rfl rfl rfl ?_
            refine j_callTi (pc' := 76) (ai := 94) (vs := [.ref 69, .int l2, .int l5]) (rest := []) rfl rfl (fun _ _ => rfl) (c_X8_hasPart_69 l2 l5 σ) (j_dd rfl hd) rfl ?_
            refine j_two (pT := 91) (pF := 94) (L1 := [some (.ref 0), some (.int (1 : Int32)), some (.int l2), some (.int (2 : Int32)), some (.int l4), some (.int l5), some (.ref 69), some (.ref 71)]) (st1 := []) (fun o kT kF => ?_) (fun h58 => ?_) (fun h58 => ?_)
            · refine j_ifeq (t := 91) (pc' := 79) rfl rfl rfl (fun h59 => ?_) (fun h59 => ?_)
              · exact kT (Or.inl h59)
              · refine j_aload (pc' := 81) rfl rfl rfl ?_
                refine j_iload (pc' := 83) rfl rfl rfl ?_
                refine j_iload (pc' := 85) rfl rfl rfl ?_
                refine j_callTi (pc' := 88) (ai := 94) (vs := [.ref 71, .int l4, .int l5]) (rest := []) rfl rfl (fun _ _ => rfl) (c_X8_hasPart_71 l4 l5 σ) (j_dd rfl hd) rfl ?_
                refine j_ifne (t := 94) (pc' := 91) rfl rfl rfl (fun h60 => ?_) (fun h60 => ?_)
                · exact kF (fun z => z.elim h59 (h60))
                · exact kT (Or.inr (h60))
            · refine j_bipush (pc' := 93) (x := (-7 : Int32)) rfl rfl rfl ?_
              exact j_ret rfl rfl rfl (fun _ h => h)
            · refine j_aload (pc' := 96) rfl rfl rfl ?_
              refine j_gfr (pc' := 99) (x := 70) rfl rfl j_a69 rfl rfl ?_
              refine j_iload_n (pc' := 100) rfl rfl rfl ?_
              refine j_aload (pc' := 102) rfl rfl rfl ?_
              refine j_gfr (pc' := 105) (x := 72) rfl rfl j_a71 rfl rfl ?_
              refine j_iload (pc' := 107) rfl rfl rfl ?_
              refine j_iload (pc' := 109) rfl rfl rfl ?_
              refine j_cpl (pc' := 112) rfl rfl rfl j_a70 j_a72 (fun σ7 => ?_)
              refine j_iconst (pc' := 113) (x := (0 : Int32)) rfl rfl rfl ?_
              exact j_ret rfl rfl rfl (fun _ h => h)
      refine j_spl (k := (3 : Int32)) (fun h66 => ?_) (fun h66 => ?_)
      · subst h66
        refine j_aald (pc' := 31) (r := 73) rfl rfl j_a42 (by decide) rfl ?_
        refine j_astore (pc' := 33) (L' := [some (.ref 0), some (.int (1 : Int32)), some (.int l2), some (.int (3 : Int32)), some (.int l4), some (.int l5), some (.ref 69), some (.ref 73)]) rfl rfl rfl ?_
        refine j_aload (pc' := 35) rfl rfl rfl ?_
        refine j_callTi (pc' := 38) (ai := 91) (vs := [.ref 69]) (rest := []) rfl rfl (fun _ _ => rfl) (c_X8_isMade_69  σ) (j_dd rfl hd) rfl ?_
        refine j_two (pT := 49) (pF := 52) (L1 := [some (.ref 0), some (.int (1 : Int32)), some (.int l2), some (.int (3 : Int32)), some (.int l4), some (.int l5), some (.ref 69), some (.ref 73)]) (st1 := []) (fun o kT kF => ?_) (fun h72 => ?_) (fun h72 => ?_)
        · refine j_ifeq (t := 49) (pc' := 41) rfl rfl rfl (fun h73 => ?_) (fun h73 => ?_)
          · exact kT (Or.inl h73)
          · refine j_aload (pc' := 43) rfl rfl rfl ?_
            refine j_callTi (pc' := 46) (ai := 91) (vs := [.ref 73]) (rest := []) rfl rfl (fun _ _ => rfl) (c_X8_isMade_73  σ) (j_dd rfl hd) rfl ?_
            refine j_ifne (t := 52) (pc' := 49) rfl rfl rfl (fun h74 => ?_) (fun h74 => ?_)
            · exact kF (fun z => z.elim h73 (h74))
            · exact kT (Or.inr (h74))
        · refine j_bipush (pc' := 51) (x := (-6 : Int32)) rfl rfl rfl ?_
          exact j_ret rfl rfl rfl (fun _ h => h)
        · refine j_aload (pc' := 54) rfl rfl rfl ?_
          refine j_gfi (pc' := 57) rfl rfl j_a69 rfl ?_
          refine j_aload (pc' := 59) rfl rfl rfl ?_
          refine j_gfi (pc' := 62) rfl rfl j_a73 rfl ?_
          refine j_two (pT := 65) (pF := 68) (L1 := [some (.ref 0), some (.int (1 : Int32)), some (.int l2), some (.int (3 : Int32)), some (.int l4), some (.int l5), some (.ref 69), some (.ref 73)]) (st1 := []) (fun o kT kF => ?_) (fun h70 => ?_) (fun h70 => ?_)
          · refine j_iceq (t := 68) (pc' := 65) rfl rfl rfl (fun h71 => ?_) (fun h71 => ?_)
            · exact kF (fun z => z h71)
            · exact kT h71
          · refine j_bipush (pc' := 67) (x := (-8 : Int32)) rfl rfl rfl ?_
            exact j_ret rfl rfl rfl (fun _ h => h)
          · refine j_aload (pc' := 70) rfl rfl rfl ?_
            refine j_iload_n (pc' := 71) rfl rfl rfl ?_
            refine j_iload (pc' := 73) rfl rfl rfl ?_
            refine j_callTi (pc' := 76) (ai := 94) (vs := [.ref 69, .int l2, .int l5]) (rest := []) rfl rfl (fun _ _ => rfl) (c_X8_hasPart_69 l2 l5 σ) (j_dd rfl hd) rfl ?_
            refine j_two (pT := 91) (pF := 94) (L1 := [some (.ref 0), some (.int (1 : Int32)), some (.int l2), some (.int (3 : Int32)), some (.int l4), some (.int l5), some (.ref 69), some (.ref 73)]) (st1 := []) (fun o kT kF => ?_) (fun h67 => ?_) (fun h67 => ?_)
            · refine j_ifeq (t := 91) (pc' := 79) rfl rfl rfl (fun h68 => ?_) (fun h68 => ?_)
              · exact kT (Or.inl h68)
              · refine j_aload (pc' := 81) rfl rfl rfl ?_
                refine j_iload (pc' := 83) rfl rfl rfl ?_
                refine j_iload (pc' := 85) rfl rfl rfl ?_
                refine j_callTi (pc' := 88) (ai := 94) (vs := [.ref 73, .int l4, .int l5]) (rest := []) rfl rfl (fun _ _ => rfl) (c_X8_hasPart_73 l4 l5 σ) (j_dd rfl hd) rfl ?_
                refine j_ifne (t := 94) (pc' := 91) rfl rfl rfl (fun h69 => ?_) (fun h69 => ?_)
                · exact kF (fun z => z.elim h68 (h69))
                · exact kT (Or.inr (h69))
            · refine j_bipush (pc' := 93) (x := (-7 : Int32)) rfl rfl rfl ?_
              exact j_ret rfl rfl rfl (fun _ h => h)
            · refine j_aload (pc' := 96) rfl rfl rfl ?_
              refine j_gfr (pc' := 99) (x := 70) rfl rfl j_a69 rfl rfl ?_
              refine j_iload_n (pc' := 100) rfl rfl rfl ?_
              refine j_aload (pc' := 102) rfl rfl rfl ?_
              refine j_gfr (pc' := 105) (x := 74) rfl rfl j_a73 rfl rfl ?_
              refine j_iload (pc' := 107) rfl rfl rfl ?_
              refine j_iload (pc' := 109) rfl rfl rfl ?_
              refine j_cpl (pc' := 112) rfl rfl rfl j_a70 j_a74 (fun σ8 => ?_)
              refine j_iconst (pc' := 113) (x := (0 : Int32)) rfl rfl rfl ?_
              exact j_ret rfl rfl rfl (fun _ h => h)
      exact j_none
    refine j_spl (k := (2 : Int32)) (fun h75 => ?_) (fun h75 => ?_)
    · subst h75
      refine j_aald (pc' := 23) (r := 71) rfl rfl j_a42 (by decide) rfl ?_
      refine j_astore (pc' := 25) (L' := [some (.ref 0), some (.int (2 : Int32)), some (.int l2), some (.int l3), some (.int l4), some (.int l5), some (.ref 71), none]) rfl rfl rfl ?_
      refine j_aload_n (pc' := 26) rfl rfl rfl ?_
      refine j_gfr (pc' := 29) (x := 42) rfl rfl j_a0 rfl rfl ?_
      refine j_iload_n (pc' := 30) rfl rfl rfl ?_
      refine j_spl (k := (0 : Int32)) (fun h76 => ?_) (fun h76 => ?_)
      · subst h76
        refine j_aald (pc' := 31) (r := 67) rfl rfl j_a42 (by decide) rfl ?_
        refine j_astore (pc' := 33) (L' := [some (.ref 0), some (.int (2 : Int32)), some (.int l2), some (.int (0 : Int32)), some (.int l4), some (.int l5), some (.ref 71), some (.ref 67)]) rfl rfl rfl ?_
        refine j_aload (pc' := 35) rfl rfl rfl ?_
        refine j_callTi (pc' := 38) (ai := 91) (vs := [.ref 71]) (rest := []) rfl rfl (fun _ _ => rfl) (c_X8_isMade_71  σ) (j_dd rfl hd) rfl ?_
        refine j_two (pT := 49) (pF := 52) (L1 := [some (.ref 0), some (.int (2 : Int32)), some (.int l2), some (.int (0 : Int32)), some (.int l4), some (.int l5), some (.ref 71), some (.ref 67)]) (st1 := []) (fun o kT kF => ?_) (fun h82 => ?_) (fun h82 => ?_)
        · refine j_ifeq (t := 49) (pc' := 41) rfl rfl rfl (fun h83 => ?_) (fun h83 => ?_)
          · exact kT (Or.inl h83)
          · refine j_aload (pc' := 43) rfl rfl rfl ?_
            refine j_callTi (pc' := 46) (ai := 91) (vs := [.ref 67]) (rest := []) rfl rfl (fun _ _ => rfl) (c_X8_isMade_67  σ) (j_dd rfl hd) rfl ?_
            refine j_ifne (t := 52) (pc' := 49) rfl rfl rfl (fun h84 => ?_) (fun h84 => ?_)
            · exact kF (fun z => z.elim h83 (h84))
            · exact kT (Or.inr (h84))
        · refine j_bipush (pc' := 51) (x := (-6 : Int32)) rfl rfl rfl ?_
          exact j_ret rfl rfl rfl (fun _ h => h)
        · refine j_aload (pc' := 54) rfl rfl rfl ?_
          refine j_gfi (pc' := 57) rfl rfl j_a71 rfl ?_
          refine j_aload (pc' := 59) rfl rfl rfl ?_
          refine j_gfi (pc' := 62) rfl rfl j_a67 rfl ?_
          refine j_two (pT := 65) (pF := 68) (L1 := [some (.ref 0), some (.int (2 : Int32)), some (.int l2), some (.int (0 : Int32)), some (.int l4), some (.int l5), some (.ref 71), some (.ref 67)]) (st1 := []) (fun o kT kF => ?_) (fun h80 => ?_) (fun h80 => ?_)
          · refine j_iceq (t := 68) (pc' := 65) rfl rfl rfl (fun h81 => ?_) (fun h81 => ?_)
            · exact kF (fun z => z h81)
            · exact kT h81
          · refine j_bipush (pc' := 67) (x := (-8 : Int32)) rfl rfl rfl ?_
            exact j_ret rfl rfl rfl (fun _ h => h)
          · refine j_aload (pc' := 70) rfl rfl rfl ?_
            refine j_iload_n (pc' := 71) rfl rfl rfl ?_
            refine j_iload (pc' := 73) rfl rfl rfl ?_
            refine j_callTi (pc' := 76) (ai := 94) (vs := [.ref 71, .int l2, .int l5]) (rest := []) rfl rfl (fun _ _ => rfl) (c_X8_hasPart_71 l2 l5 σ) (j_dd rfl hd) rfl ?_
            refine j_two (pT := 91) (pF := 94) (L1 := [some (.ref 0), some (.int (2 : Int32)), some (.int l2), some (.int (0 : Int32)), some (.int l4), some (.int l5), some (.ref 71), some (.ref 67)]) (st1 := []) (fun o kT kF => ?_) (fun h77 => ?_) (fun h77 => ?_)
            · refine j_ifeq (t := 91) (pc' := 79) rfl rfl rfl (fun h78 => ?_) (fun h78 => ?_)
              · exact kT (Or.inl h78)
              · refine j_aload (pc' := 81) rfl rfl rfl ?_
                refine j_iload (pc' := 83) rfl rfl rfl ?_
                refine j_iload (pc' := 85) rfl rfl rfl ?_
                refine j_callTi (pc' := 88) (ai := 94) (vs := [.ref 67, .int l4, .int l5]) (rest := []) rfl rfl (fun _ _ => rfl) (c_X8_hasPart_67 l4 l5 σ) (j_dd rfl hd) rfl ?_
                refine j_ifne (t := 94) (pc' := 91) rfl rfl rfl (fun h79 => ?_) (fun h79 => ?_)
                · exact kF (fun z => z.elim h78 (h79))
                · exact kT (Or.inr (h79))
            · refine j_bipush (pc' := 93) (x := (-7 : Int32)) rfl rfl rfl ?_
              exact j_ret rfl rfl rfl (fun _ h => h)
            · refine j_aload (pc' := 96) rfl rfl rfl ?_
              refine j_gfr (pc' := 99) (x := 72) rfl rfl j_a71 rfl rfl ?_
              refine j_iload_n (pc' := 100) rfl rfl rfl ?_
              refine j_aload (pc' := 102) rfl rfl rfl ?_
              refine j_gfr (pc' := 105) (x := 68) rfl rfl j_a67 rfl rfl ?_
              refine j_iload (pc' := 107) rfl rfl rfl ?_
              refine j_iload (pc' := 109) rfl rfl rfl ?_
              refine j_cpl (pc' := 112) rfl rfl rfl j_a72 j_a68 (fun σ9 => ?_)
              refine j_iconst (pc' := 113) (x := (0 : Int32)) rfl rfl rfl ?_
              exact j_ret rfl rfl rfl (fun _ h => h)
      refine j_spl (k := (1 : Int32)) (fun h85 => ?_) (fun h85 => ?_)
      · subst h85
        refine j_aald (pc' := 31) (r := 69) rfl rfl j_a42 (by decide) rfl ?_
        refine j_astore (pc' := 33) (L' := [some (.ref 0), some (.int (2 : Int32)), some (.int l2), some (.int (1 : Int32)), some (.int l4), some (.int l5), some (.ref 71), some (.ref 69)]) rfl rfl rfl ?_
        refine j_aload (pc' := 35) rfl rfl rfl ?_
        refine j_callTi (pc' := 38) (ai := 91) (vs := [.ref 71]) (rest := []) rfl rfl (fun _ _ => rfl) (c_X8_isMade_71  σ) (j_dd rfl hd) rfl ?_
        refine j_two (pT := 49) (pF := 52) (L1 := [some (.ref 0), some (.int (2 : Int32)), some (.int l2), some (.int (1 : Int32)), some (.int l4), some (.int l5), some (.ref 71), some (.ref 69)]) (st1 := []) (fun o kT kF => ?_) (fun h91 => ?_) (fun h91 => ?_)
        · refine j_ifeq (t := 49) (pc' := 41) rfl rfl rfl (fun h92 => ?_) (fun h92 => ?_)
          · exact kT (Or.inl h92)
          · refine j_aload (pc' := 43) rfl rfl rfl ?_
            refine j_callTi (pc' := 46) (ai := 91) (vs := [.ref 69]) (rest := []) rfl rfl (fun _ _ => rfl) (c_X8_isMade_69  σ) (j_dd rfl hd) rfl ?_
            refine j_ifne (t := 52) (pc' := 49) rfl rfl rfl (fun h93 => ?_) (fun h93 => ?_)
            · exact kF (fun z => z.elim h92 (h93))
            · exact kT (Or.inr (h93))
        · refine j_bipush (pc' := 51) (x := (-6 : Int32)) rfl rfl rfl ?_
          exact j_ret rfl rfl rfl (fun _ h => h)
        · refine j_aload (pc' := 54) rfl rfl rfl ?_
          refine j_gfi (pc' := 57) rfl rfl j_a71 rfl ?_
          refine j_aload (pc' := 59) rfl rfl rfl ?_
          refine j_gfi (pc' := 62) rfl rfl j_a69 rfl ?_
          refine j_two (pT := 65) (pF := 68) (L1 := [some (.ref 0), some (.int (2 : Int32)), some (.int l2), some (.int (1 : Int32)), some (.int l4), some (.int l5), some (.ref 71), some (.ref 69)]) (st1 := []) (fun o kT kF => ?_) (fun h89 => ?_) (fun h89 => ?_)
          · refine j_iceq (t := 68) (pc' := 65) rfl rfl rfl (fun h90 => ?_) (fun h90 => ?_)
            · exact kF (fun z => z h90)
            · exact kT h90
          · refine j_bipush (pc' := 67) (x := (-8 : Int32)) rfl rfl rfl ?_
            exact j_ret rfl rfl rfl (fun _ h => h)
          · refine j_aload (pc' := 70) rfl rfl rfl ?_
            refine j_iload_n (pc' := 71) rfl rfl rfl ?_
            refine j_iload (pc' := 73) rfl rfl rfl ?_
            refine j_callTi (pc' := 76) (ai := 94) (vs := [.ref 71, .int l2, .int l5]) (rest := []) rfl rfl (fun _ _ => rfl) (c_X8_hasPart_71 l2 l5 σ) (j_dd rfl hd) rfl ?_
            refine j_two (pT := 91) (pF := 94) (L1 := [some (.ref 0), some (.int (2 : Int32)), some (.int l2), some (.int (1 : Int32)), some (.int l4), some (.int l5), some (.ref 71), some (.ref 69)]) (st1 := []) (fun o kT kF => ?_) (fun h86 => ?_) (fun h86 => ?_)
            · refine j_ifeq (t := 91) (pc' := 79) rfl rfl rfl (fun h87 => ?_) (fun h87 => ?_)
              · exact kT (Or.inl h87)
              · refine j_aload (pc' := 81) rfl rfl rfl ?_
                refine j_iload (pc' := 83) rfl rfl rfl ?_
                refine j_iload (pc' := 85) rfl rfl rfl ?_
                refine j_callTi (pc' := 88) (ai := 94) (vs := [.ref 69, .int l4, .int l5]) (rest := []) rfl rfl (fun _ _ => rfl) (c_X8_hasPart_69 l4 l5 σ) (j_dd rfl hd) rfl ?_
                refine j_ifne (t := 94) (pc' := 91) rfl rfl rfl (fun h88 => ?_) (fun h88 => ?_)
                · exact kF (fun z => z.elim h87 (h88))
                · exact kT (Or.inr (h88))
            · refine j_bipush (pc' := 93) (x := (-7 : Int32)) rfl rfl rfl ?_
              exact j_ret rfl rfl rfl (fun _ h => h)
            · refine j_aload (pc' := 96) rfl rfl rfl ?_
              refine j_gfr (pc' := 99) (x := 72) rfl rfl j_a71 rfl rfl ?_
              refine j_iload_n (pc' := 100) rfl rfl rfl ?_
              refine j_aload (pc' := 102) rfl rfl rfl ?_
              refine j_gfr (pc' := 105) (x := 70) rfl rfl j_a69 rfl rfl ?_
              refine j_iload (pc' := 107) rfl rfl rfl ?_
              refine j_iload (pc' := 109) rfl rfl rfl ?_
              refine j_cpl (pc' := 112) rfl rfl rfl j_a72 j_a70 (fun σ10 => ?_)
              refine j_iconst (pc' := 113) (x := (0 : Int32)) rfl rfl rfl ?_
              exact j_ret rfl rfl rfl (fun _ h => h)
      refine j_spl (k := (2 : Int32)) (fun h94 => ?_) (fun h94 => ?_)
      · subst h94
        refine j_aald (pc' := 31) (r := 71) rfl rfl j_a42 (by decide) rfl ?_
        refine j_astore (pc' := 33) (L' := [some (.ref 0), some (.int (2 : Int32)), some (.int l2), some (.int (2 : Int32)), some (.int l4), some (.int l5), some (.ref 71), some (.ref 71)]) rfl rfl rfl ?_
        refine j_aload (pc' := 35) rfl rfl rfl ?_
        refine j_callTi (pc' := 38) (ai := 91) (vs := [.ref 71]) (rest := []) rfl rfl (fun _ _ => rfl) (c_X8_isMade_71  σ) (j_dd rfl hd) rfl ?_
        refine j_two (pT := 49) (pF := 52) (L1 := [some (.ref 0), some (.int (2 : Int32)), some (.int l2), some (.int (2 : Int32)), some (.int l4), some (.int l5), some (.ref 71), some (.ref 71)]) (st1 := []) (fun o kT kF => ?_) (fun h100 => ?_) (fun h100 => ?_)
        · refine j_ifeq (t := 49) (pc' := 41) rfl rfl rfl (fun h101 => ?_) (fun h101 => ?_)
          · exact kT (Or.inl h101)
          · refine j_aload (pc' := 43) rfl rfl rfl ?_
            refine j_callTi (pc' := 46) (ai := 91) (vs := [.ref 71]) (rest := []) rfl rfl (fun _ _ => rfl) (c_X8_isMade_71  σ) (j_dd rfl hd) rfl ?_
            refine j_ifne (t := 52) (pc' := 49) rfl rfl rfl (fun h102 => ?_) (fun h102 => ?_)
            · exact kF (fun z => z.elim h101 (h102))
            · exact kT (Or.inr (h102))
        · refine j_bipush (pc' := 51) (x := (-6 : Int32)) rfl rfl rfl ?_
          exact j_ret rfl rfl rfl (fun _ h => h)
        · refine j_aload (pc' := 54) rfl rfl rfl ?_
          refine j_gfi (pc' := 57) rfl rfl j_a71 rfl ?_
          refine j_aload (pc' := 59) rfl rfl rfl ?_
          refine j_gfi (pc' := 62) rfl rfl j_a71 rfl ?_
          refine j_two (pT := 65) (pF := 68) (L1 := [some (.ref 0), some (.int (2 : Int32)), some (.int l2), some (.int (2 : Int32)), some (.int l4), some (.int l5), some (.ref 71), some (.ref 71)]) (st1 := []) (fun o kT kF => ?_) (fun h98 => ?_) (fun h98 => ?_)
          · refine j_iceq (t := 68) (pc' := 65) rfl rfl rfl (fun h99 => ?_) (fun h99 => ?_)
            · exact kF (fun z => z h99)
            · exact kT h99
          · refine j_bipush (pc' := 67) (x := (-8 : Int32)) rfl rfl rfl ?_
            exact j_ret rfl rfl rfl (fun _ h => h)
          · refine j_aload (pc' := 70) rfl rfl rfl ?_
            refine j_iload_n (pc' := 71) rfl rfl rfl ?_
            refine j_iload (pc' := 73) rfl rfl rfl ?_
            refine j_callTi (pc' := 76) (ai := 94) (vs := [.ref 71, .int l2, .int l5]) (rest := []) rfl rfl (fun _ _ => rfl) (c_X8_hasPart_71 l2 l5 σ) (j_dd rfl hd) rfl ?_
            refine j_two (pT := 91) (pF := 94) (L1 := [some (.ref 0), some (.int (2 : Int32)), some (.int l2), some (.int (2 : Int32)), some (.int l4), some (.int l5), some (.ref 71), some (.ref 71)]) (st1 := []) (fun o kT kF => ?_) (fun h95 => ?_) (fun h95 => ?_)
            · refine j_ifeq (t := 91) (pc' := 79) rfl rfl rfl (fun h96 => ?_) (fun h96 => ?_)
              · exact kT (Or.inl h96)
              · refine j_aload (pc' := 81) rfl rfl rfl ?_
                refine j_iload (pc' := 83) rfl rfl rfl ?_
                refine j_iload (pc' := 85) rfl rfl rfl ?_
                refine j_callTi (pc' := 88) (ai := 94) (vs := [.ref 71, .int l4, .int l5]) (rest := []) rfl rfl (fun _ _ => rfl) (c_X8_hasPart_71 l4 l5 σ) (j_dd rfl hd) rfl ?_
                refine j_ifne (t := 94) (pc' := 91) rfl rfl rfl (fun h97 => ?_) (fun h97 => ?_)
                · exact kF (fun z => z.elim h96 (h97))
                · exact kT (Or.inr (h97))
            · refine j_bipush (pc' := 93) (x := (-7 : Int32)) rfl rfl rfl ?_
              exact j_ret rfl rfl rfl (fun _ h => h)
            · refine j_aload (pc' := 96) rfl rfl rfl ?_
              refine j_gfr (pc' := 99) (x := 72) rfl rfl j_a71 rfl rfl ?_
              refine j_iload_n (pc' := 100) rfl rfl rfl ?_
              refine j_aload (pc' := 102) rfl rfl rfl ?_
              refine j_gfr (pc' := 105) (x := 72) rfl rfl j_a71 rfl rfl ?_
              refine j_iload (pc' := 107) rfl rfl rfl ?_
              refine j_iload (pc' := 109) rfl rfl rfl ?_
              refine j_cpl (pc' := 112) rfl rfl rfl j_a72 j_a72 (fun σ11 => ?_)
              refine j_iconst (pc' := 113) (x := (0 : Int32)) rfl rfl rfl ?_
              exact j_ret rfl rfl rfl (fun _ h => h)
      refine j_spl (k := (3 : Int32)) (fun h103 => ?_) (fun h103 => ?_)
      · subst h103
        refine j_aald (pc' := 31) (r := 73) rfl rfl j_a42 (by decide) rfl ?_
        refine j_astore (pc' := 33) (L' := [some (.ref 0), some (.int (2 : Int32)), some (.int l2), some (.int (3 : Int32)), some (.int l4), some (.int l5), some (.ref 71), some (.ref 73)]) rfl rfl rfl ?_
        refine j_aload (pc' := 35) rfl rfl rfl ?_
        refine j_callTi (pc' := 38) (ai := 91) (vs := [.ref 71]) (rest := []) rfl rfl (fun _ _ => rfl) (c_X8_isMade_71  σ) (j_dd rfl hd) rfl ?_
        refine j_two (pT := 49) (pF := 52) (L1 := [some (.ref 0), some (.int (2 : Int32)), some (.int l2), some (.int (3 : Int32)), some (.int l4), some (.int l5), some (.ref 71), some (.ref 73)]) (st1 := []) (fun o kT kF => ?_) (fun h109 => ?_) (fun h109 => ?_)
        · refine j_ifeq (t := 49) (pc' := 41) rfl rfl rfl (fun h110 => ?_) (fun h110 => ?_)
          · exact kT (Or.inl h110)
          · refine j_aload (pc' := 43) rfl rfl rfl ?_
            refine j_callTi (pc' := 46) (ai := 91) (vs := [.ref 73]) (rest := []) rfl rfl (fun _ _ => rfl) (c_X8_isMade_73  σ) (j_dd rfl hd) rfl ?_
            refine j_ifne (t := 52) (pc' := 49) rfl rfl rfl (fun h111 => ?_) (fun h111 => ?_)
            · exact kF (fun z => z.elim h110 (h111))
            · exact kT (Or.inr (h111))
        · refine j_bipush (pc' := 51) (x := (-6 : Int32)) rfl rfl rfl ?_
          exact j_ret rfl rfl rfl (fun _ h => h)
        · refine j_aload (pc' := 54) rfl rfl rfl ?_
          refine j_gfi (pc' := 57) rfl rfl j_a71 rfl ?_
          refine j_aload (pc' := 59) rfl rfl rfl ?_
          refine j_gfi (pc' := 62) rfl rfl j_a73 rfl ?_
          refine j_two (pT := 65) (pF := 68) (L1 := [some (.ref 0), some (.int (2 : Int32)), some (.int l2), some (.int (3 : Int32)), some (.int l4), some (.int l5), some (.ref 71), some (.ref 73)]) (st1 := []) (fun o kT kF => ?_) (fun h107 => ?_) (fun h107 => ?_)
          · refine j_iceq (t := 68) (pc' := 65) rfl rfl rfl (fun h108 => ?_) (fun h108 => ?_)
            · exact kF (fun z => z h108)
            · exact kT h108
          · refine j_bipush (pc' := 67) (x := (-8 : Int32)) rfl rfl rfl ?_
            exact j_ret rfl rfl rfl (fun _ h => h)
          · refine j_aload (pc' := 70) rfl rfl rfl ?_
            refine j_iload_n (pc' := 71) rfl rfl rfl ?_
            refine j_iload (pc' := 73) rfl rfl rfl ?_
            refine j_callTi (pc' := 76) (ai := 94) (vs := [.ref 71, .int l2, .int l5]) (rest := []) rfl rfl (fun _ _ => rfl) (c_X8_hasPart_71 l2 l5 σ) (j_dd rfl hd) rfl ?_
            refine j_two (pT := 91) (pF := 94) (L1 := [some (.ref 0), some (.int (2 : Int32)), some (.int l2), some (.int (3 : Int32)), some (.int l4), some (.int l5), some (.ref 71), some (.ref 73)]) (st1 := []) (fun o kT kF => ?_) (fun h104 => ?_) (fun h104 => ?_)
            · refine j_ifeq (t := 91) (pc' := 79) rfl rfl rfl (fun h105 => ?_) (fun h105 => ?_)
              · exact kT (Or.inl h105)
              · refine j_aload (pc' := 81) rfl rfl rfl ?_
                refine j_iload (pc' := 83) rfl rfl rfl ?_
                refine j_iload (pc' := 85) rfl rfl rfl ?_
                refine j_callTi (pc' := 88) (ai := 94) (vs := [.ref 73, .int l4, .int l5]) (rest := []) rfl rfl (fun _ _ => rfl) (c_X8_hasPart_73 l4 l5 σ) (j_dd rfl hd) rfl ?_
                refine j_ifne (t := 94) (pc' := 91) rfl rfl rfl (fun h106 => ?_) (fun h106 => ?_)
                · exact kF (fun z => z.elim h105 (h106))
                · exact kT (Or.inr (h106))
            · refine j_bipush (pc' := 93) (x := (-7 : Int32)) rfl rfl rfl ?_
              exact j_ret rfl rfl rfl (fun _ h => h)
            · refine j_aload (pc' := 96) rfl rfl rfl ?_
              refine j_gfr (pc' := 99) (x := 72) rfl rfl j_a71 rfl rfl ?_
              refine j_iload_n (pc' := 100) rfl rfl rfl ?_
              refine j_aload (pc' := 102) rfl rfl rfl ?_
              refine j_gfr (pc' := 105) (x := 74) rfl rfl j_a73 rfl rfl ?_
              refine j_iload (pc' := 107) rfl rfl rfl ?_
              refine j_iload (pc' := 109) rfl rfl rfl ?_
              refine j_cpl (pc' := 112) rfl rfl rfl j_a72 j_a74 (fun σ12 => ?_)
              refine j_iconst (pc' := 113) (x := (0 : Int32)) rfl rfl rfl ?_
              exact j_ret rfl rfl rfl (fun _ h => h)
      exact j_none
    refine j_spl (k := (3 : Int32)) (fun h112 => ?_) (fun h112 => ?_)
    · subst h112
      refine j_aald (pc' := 23) (r := 73) rfl rfl j_a42 (by decide) rfl ?_
      refine j_astore (pc' := 25) (L' := [some (.ref 0), some (.int (3 : Int32)), some (.int l2), some (.int l3), some (.int l4), some (.int l5), some (.ref 73), none]) rfl rfl rfl ?_
      refine j_aload_n (pc' := 26) rfl rfl rfl ?_
      refine j_gfr (pc' := 29) (x := 42) rfl rfl j_a0 rfl rfl ?_
      refine j_iload_n (pc' := 30) rfl rfl rfl ?_
      refine j_spl (k := (0 : Int32)) (fun h113 => ?_) (fun h113 => ?_)
      · subst h113
        refine j_aald (pc' := 31) (r := 67) rfl rfl j_a42 (by decide) rfl ?_
        refine j_astore (pc' := 33) (L' := [some (.ref 0), some (.int (3 : Int32)), some (.int l2), some (.int (0 : Int32)), some (.int l4), some (.int l5), some (.ref 73), some (.ref 67)]) rfl rfl rfl ?_
        refine j_aload (pc' := 35) rfl rfl rfl ?_
        refine j_callTi (pc' := 38) (ai := 91) (vs := [.ref 73]) (rest := []) rfl rfl (fun _ _ => rfl) (c_X8_isMade_73  σ) (j_dd rfl hd) rfl ?_
        refine j_two (pT := 49) (pF := 52) (L1 := [some (.ref 0), some (.int (3 : Int32)), some (.int l2), some (.int (0 : Int32)), some (.int l4), some (.int l5), some (.ref 73), some (.ref 67)]) (st1 := []) (fun o kT kF => ?_) (fun h119 => ?_) (fun h119 => ?_)
        · refine j_ifeq (t := 49) (pc' := 41) rfl rfl rfl (fun h120 => ?_) (fun h120 => ?_)
          · exact kT (Or.inl h120)
          · refine j_aload (pc' := 43) rfl rfl rfl ?_
            refine j_callTi (pc' := 46) (ai := 91) (vs := [.ref 67]) (rest := []) rfl rfl (fun _ _ => rfl) (c_X8_isMade_67  σ) (j_dd rfl hd) rfl ?_
            refine j_ifne (t := 52) (pc' := 49) rfl rfl rfl (fun h121 => ?_) (fun h121 => ?_)
            · exact kF (fun z => z.elim h120 (h121))
            · exact kT (Or.inr (h121))
        · refine j_bipush (pc' := 51) (x := (-6 : Int32)) rfl rfl rfl ?_
          exact j_ret rfl rfl rfl (fun _ h => h)
        · refine j_aload (pc' := 54) rfl rfl rfl ?_
          refine j_gfi (pc' := 57) rfl rfl j_a73 rfl ?_
          refine j_aload (pc' := 59) rfl rfl rfl ?_
          refine j_gfi (pc' := 62) rfl rfl j_a67 rfl ?_
          refine j_two (pT := 65) (pF := 68) (L1 := [some (.ref 0), some (.int (3 : Int32)), some (.int l2), some (.int (0 : Int32)), some (.int l4), some (.int l5), some (.ref 73), some (.ref 67)]) (st1 := []) (fun o kT kF => ?_) (fun h117 => ?_) (fun h117 => ?_)
          · refine j_iceq (t := 68) (pc' := 65) rfl rfl rfl (fun h118 => ?_) (fun h118 => ?_)
            · exact kF (fun z => z h118)
            · exact kT h118
          · refine j_bipush (pc' := 67) (x := (-8 : Int32)) rfl rfl rfl ?_
            exact j_ret rfl rfl rfl (fun _ h => h)
          · refine j_aload (pc' := 70) rfl rfl rfl ?_
            refine j_iload_n (pc' := 71) rfl rfl rfl ?_
            refine j_iload (pc' := 73) rfl rfl rfl ?_
            refine j_callTi (pc' := 76) (ai := 94) (vs := [.ref 73, .int l2, .int l5]) (rest := []) rfl rfl (fun _ _ => rfl) (c_X8_hasPart_73 l2 l5 σ) (j_dd rfl hd) rfl ?_
            refine j_two (pT := 91) (pF := 94) (L1 := [some (.ref 0), some (.int (3 : Int32)), some (.int l2), some (.int (0 : Int32)), some (.int l4), some (.int l5), some (.ref 73), some (.ref 67)]) (st1 := []) (fun o kT kF => ?_) (fun h114 => ?_) (fun h114 => ?_)
            · refine j_ifeq (t := 91) (pc' := 79) rfl rfl rfl (fun h115 => ?_) (fun h115 => ?_)
              · exact kT (Or.inl h115)
              · refine j_aload (pc' := 81) rfl rfl rfl ?_
                refine j_iload (pc' := 83) rfl rfl rfl ?_
                refine j_iload (pc' := 85) rfl rfl rfl ?_
                refine j_callTi (pc' := 88) (ai := 94) (vs := [.ref 67, .int l4, .int l5]) (rest := []) rfl rfl (fun _ _ => rfl) (c_X8_hasPart_67 l4 l5 σ) (j_dd rfl hd) rfl ?_
                refine j_ifne (t := 94) (pc' := 91) rfl rfl rfl (fun h116 => ?_) (fun h116 => ?_)
                · exact kF (fun z => z.elim h115 (h116))
                · exact kT (Or.inr (h116))
            · refine j_bipush (pc' := 93) (x := (-7 : Int32)) rfl rfl rfl ?_
              exact j_ret rfl rfl rfl (fun _ h => h)
            · refine j_aload (pc' := 96) rfl rfl rfl ?_
              refine j_gfr (pc' := 99) (x := 74) rfl rfl j_a73 rfl rfl ?_
              refine j_iload_n (pc' := 100) rfl rfl rfl ?_
              refine j_aload (pc' := 102) rfl rfl rfl ?_
              refine j_gfr (pc' := 105) (x := 68) rfl rfl j_a67 rfl rfl ?_
              refine j_iload (pc' := 107) rfl rfl rfl ?_
              refine j_iload (pc' := 109) rfl rfl rfl ?_
              refine j_cpl (pc' := 112) rfl rfl rfl j_a74 j_a68 (fun σ13 => ?_)
              refine j_iconst (pc' := 113) (x := (0 : Int32)) rfl rfl rfl ?_
              exact j_ret rfl rfl rfl (fun _ h => h)
      refine j_spl (k := (1 : Int32)) (fun h122 => ?_) (fun h122 => ?_)
      · subst h122
        refine j_aald (pc' := 31) (r := 69) rfl rfl j_a42 (by decide) rfl ?_
        refine j_astore (pc' := 33) (L' := [some (.ref 0), some (.int (3 : Int32)), some (.int l2), some (.int (1 : Int32)), some (.int l4), some (.int l5), some (.ref 73), some (.ref 69)]) rfl rfl rfl ?_
        refine j_aload (pc' := 35) rfl rfl rfl ?_
        refine j_callTi (pc' := 38) (ai := 91) (vs := [.ref 73]) (rest := []) rfl rfl (fun _ _ => rfl) (c_X8_isMade_73  σ) (j_dd rfl hd) rfl ?_
        refine j_two (pT := 49) (pF := 52) (L1 := [some (.ref 0), some (.int (3 : Int32)), some (.int l2), some (.int (1 : Int32)), some (.int l4), some (.int l5), some (.ref 73), some (.ref 69)]) (st1 := []) (fun o kT kF => ?_) (fun h128 => ?_) (fun h128 => ?_)
        · refine j_ifeq (t := 49) (pc' := 41) rfl rfl rfl (fun h129 => ?_) (fun h129 => ?_)
          · exact kT (Or.inl h129)
          · refine j_aload (pc' := 43) rfl rfl rfl ?_
            refine j_callTi (pc' := 46) (ai := 91) (vs := [.ref 69]) (rest := []) rfl rfl (fun _ _ => rfl) (c_X8_isMade_69  σ) (j_dd rfl hd) rfl ?_
            refine j_ifne (t := 52) (pc' := 49) rfl rfl rfl (fun h130 => ?_) (fun h130 => ?_)
            · exact kF (fun z => z.elim h129 (h130))
            · exact kT (Or.inr (h130))
        · refine j_bipush (pc' := 51) (x := (-6 : Int32)) rfl rfl rfl ?_
          exact j_ret rfl rfl rfl (fun _ h => h)
        · refine j_aload (pc' := 54) rfl rfl rfl ?_
          refine j_gfi (pc' := 57) rfl rfl j_a73 rfl ?_
          refine j_aload (pc' := 59) rfl rfl rfl ?_
          refine j_gfi (pc' := 62) rfl rfl j_a69 rfl ?_
          refine j_two (pT := 65) (pF := 68) (L1 := [some (.ref 0), some (.int (3 : Int32)), some (.int l2), some (.int (1 : Int32)), some (.int l4), some (.int l5), some (.ref 73), some (.ref 69)]) (st1 := []) (fun o kT kF => ?_) (fun h126 => ?_) (fun h126 => ?_)
          · refine j_iceq (t := 68) (pc' := 65) rfl rfl rfl (fun h127 => ?_) (fun h127 => ?_)
            · exact kF (fun z => z h127)
            · exact kT h127
          · refine j_bipush (pc' := 67) (x := (-8 : Int32)) rfl rfl rfl ?_
            exact j_ret rfl rfl rfl (fun _ h => h)
          · refine j_aload (pc' := 70) rfl rfl rfl ?_
            refine j_iload_n (pc' := 71) rfl rfl rfl ?_
            refine j_iload (pc' := 73) rfl rfl rfl ?_
            refine j_callTi (pc' := 76) (ai := 94) (vs := [.ref 73, .int l2, .int l5]) (rest := []) rfl rfl (fun _ _ => rfl) (c_X8_hasPart_73 l2 l5 σ) (j_dd rfl hd) rfl ?_
            refine j_two (pT := 91) (pF := 94) (L1 := [some (.ref 0), some (.int (3 : Int32)), some (.int l2), some (.int (1 : Int32)), some (.int l4), some (.int l5), some (.ref 73), some (.ref 69)]) (st1 := []) (fun o kT kF => ?_) (fun h123 => ?_) (fun h123 => ?_)
            · refine j_ifeq (t := 91) (pc' := 79) rfl rfl rfl (fun h124 => ?_) (fun h124 => ?_)
              · exact kT (Or.inl h124)
              · refine j_aload (pc' := 81) rfl rfl rfl ?_
                refine j_iload (pc' := 83) rfl rfl rfl ?_
                refine j_iload (pc' := 85) rfl rfl rfl ?_
                refine j_callTi (pc' := 88) (ai := 94) (vs := [.ref 69, .int l4, .int l5]) (rest := []) rfl rfl (fun _ _ => rfl) (c_X8_hasPart_69 l4 l5 σ) (j_dd rfl hd) rfl ?_
                refine j_ifne (t := 94) (pc' := 91) rfl rfl rfl (fun h125 => ?_) (fun h125 => ?_)
                · exact kF (fun z => z.elim h124 (h125))
                · exact kT (Or.inr (h125))
            · refine j_bipush (pc' := 93) (x := (-7 : Int32)) rfl rfl rfl ?_
              exact j_ret rfl rfl rfl (fun _ h => h)
            · refine j_aload (pc' := 96) rfl rfl rfl ?_
              refine j_gfr (pc' := 99) (x := 74) rfl rfl j_a73 rfl rfl ?_
              refine j_iload_n (pc' := 100) rfl rfl rfl ?_
              refine j_aload (pc' := 102) rfl rfl rfl ?_
              refine j_gfr (pc' := 105) (x := 70) rfl rfl j_a69 rfl rfl ?_
              refine j_iload (pc' := 107) rfl rfl rfl ?_
              refine j_iload (pc' := 109) rfl rfl rfl ?_
              refine j_cpl (pc' := 112) rfl rfl rfl j_a74 j_a70 (fun σ14 => ?_)
              refine j_iconst (pc' := 113) (x := (0 : Int32)) rfl rfl rfl ?_
              exact j_ret rfl rfl rfl (fun _ h => h)
      refine j_spl (k := (2 : Int32)) (fun h131 => ?_) (fun h131 => ?_)
      · subst h131
        refine j_aald (pc' := 31) (r := 71) rfl rfl j_a42 (by decide) rfl ?_
        refine j_astore (pc' := 33) (L' := [some (.ref 0), some (.int (3 : Int32)), some (.int l2), some (.int (2 : Int32)), some (.int l4), some (.int l5), some (.ref 73), some (.ref 71)]) rfl rfl rfl ?_
        refine j_aload (pc' := 35) rfl rfl rfl ?_
        refine j_callTi (pc' := 38) (ai := 91) (vs := [.ref 73]) (rest := []) rfl rfl (fun _ _ => rfl) (c_X8_isMade_73  σ) (j_dd rfl hd) rfl ?_
        refine j_two (pT := 49) (pF := 52) (L1 := [some (.ref 0), some (.int (3 : Int32)), some (.int l2), some (.int (2 : Int32)), some (.int l4), some (.int l5), some (.ref 73), some (.ref 71)]) (st1 := []) (fun o kT kF => ?_) (fun h137 => ?_) (fun h137 => ?_)
        · refine j_ifeq (t := 49) (pc' := 41) rfl rfl rfl (fun h138 => ?_) (fun h138 => ?_)
          · exact kT (Or.inl h138)
          · refine j_aload (pc' := 43) rfl rfl rfl ?_
            refine j_callTi (pc' := 46) (ai := 91) (vs := [.ref 71]) (rest := []) rfl rfl (fun _ _ => rfl) (c_X8_isMade_71  σ) (j_dd rfl hd) rfl ?_
            refine j_ifne (t := 52) (pc' := 49) rfl rfl rfl (fun h139 => ?_) (fun h139 => ?_)
            · exact kF (fun z => z.elim h138 (h139))
            · exact kT (Or.inr (h139))
        · refine j_bipush (pc' := 51) (x := (-6 : Int32)) rfl rfl rfl ?_
          exact j_ret rfl rfl rfl (fun _ h => h)
        · refine j_aload (pc' := 54) rfl rfl rfl ?_
          refine j_gfi (pc' := 57) rfl rfl j_a73 rfl ?_
          refine j_aload (pc' := 59) rfl rfl rfl ?_
          refine j_gfi (pc' := 62) rfl rfl j_a71 rfl ?_
          refine j_two (pT := 65) (pF := 68) (L1 := [some (.ref 0), some (.int (3 : Int32)), some (.int l2), some (.int (2 : Int32)), some (.int l4), some (.int l5), some (.ref 73), some (.ref 71)]) (st1 := []) (fun o kT kF => ?_) (fun h135 => ?_) (fun h135 => ?_)
          · refine j_iceq (t := 68) (pc' := 65) rfl rfl rfl (fun h136 => ?_) (fun h136 => ?_)
            · exact kF (fun z => z h136)
            · exact kT h136
          · refine j_bipush (pc' := 67) (x := (-8 : Int32)) rfl rfl rfl ?_
            exact j_ret rfl rfl rfl (fun _ h => h)
          · refine j_aload (pc' := 70) rfl rfl rfl ?_
            refine j_iload_n (pc' := 71) rfl rfl rfl ?_
            refine j_iload (pc' := 73) rfl rfl rfl ?_
            refine j_callTi (pc' := 76) (ai := 94) (vs := [.ref 73, .int l2, .int l5]) (rest := []) rfl rfl (fun _ _ => rfl) (c_X8_hasPart_73 l2 l5 σ) (j_dd rfl hd) rfl ?_
            refine j_two (pT := 91) (pF := 94) (L1 := [some (.ref 0), some (.int (3 : Int32)), some (.int l2), some (.int (2 : Int32)), some (.int l4), some (.int l5), some (.ref 73), some (.ref 71)]) (st1 := []) (fun o kT kF => ?_) (fun h132 => ?_) (fun h132 => ?_)
            · refine j_ifeq (t := 91) (pc' := 79) rfl rfl rfl (fun h133 => ?_) (fun h133 => ?_)
              · exact kT (Or.inl h133)
              · refine j_aload (pc' := 81) rfl rfl rfl ?_
                refine j_iload (pc' := 83) rfl rfl rfl ?_
                refine j_iload (pc' := 85) rfl rfl rfl ?_
                refine j_callTi (pc' := 88) (ai := 94) (vs := [.ref 71, .int l4, .int l5]) (rest := []) rfl rfl (fun _ _ => rfl) (c_X8_hasPart_71 l4 l5 σ) (j_dd rfl hd) rfl ?_
                refine j_ifne (t := 94) (pc' := 91) rfl rfl rfl (fun h134 => ?_) (fun h134 => ?_)
                · exact kF (fun z => z.elim h133 (h134))
                · exact kT (Or.inr (h134))
            · refine j_bipush (pc' := 93) (x := (-7 : Int32)) rfl rfl rfl ?_
              exact j_ret rfl rfl rfl (fun _ h => h)
            · refine j_aload (pc' := 96) rfl rfl rfl ?_
              refine j_gfr (pc' := 99) (x := 74) rfl rfl j_a73 rfl rfl ?_
              refine j_iload_n (pc' := 100) rfl rfl rfl ?_
              refine j_aload (pc' := 102) rfl rfl rfl ?_
              refine j_gfr (pc' := 105) (x := 72) rfl rfl j_a71 rfl rfl ?_
              refine j_iload (pc' := 107) rfl rfl rfl ?_
              refine j_iload (pc' := 109) rfl rfl rfl ?_
              refine j_cpl (pc' := 112) rfl rfl rfl j_a74 j_a72 (fun σ15 => ?_)
              refine j_iconst (pc' := 113) (x := (0 : Int32)) rfl rfl rfl ?_
              exact j_ret rfl rfl rfl (fun _ h => h)
      refine j_spl (k := (3 : Int32)) (fun h140 => ?_) (fun h140 => ?_)
      · subst h140
        refine j_aald (pc' := 31) (r := 73) rfl rfl j_a42 (by decide) rfl ?_
        refine j_astore (pc' := 33) (L' := [some (.ref 0), some (.int (3 : Int32)), some (.int l2), some (.int (3 : Int32)), some (.int l4), some (.int l5), some (.ref 73), some (.ref 73)]) rfl rfl rfl ?_
        refine j_aload (pc' := 35) rfl rfl rfl ?_
        refine j_callTi (pc' := 38) (ai := 91) (vs := [.ref 73]) (rest := []) rfl rfl (fun _ _ => rfl) (c_X8_isMade_73  σ) (j_dd rfl hd) rfl ?_
        refine j_two (pT := 49) (pF := 52) (L1 := [some (.ref 0), some (.int (3 : Int32)), some (.int l2), some (.int (3 : Int32)), some (.int l4), some (.int l5), some (.ref 73), some (.ref 73)]) (st1 := []) (fun o kT kF => ?_) (fun h146 => ?_) (fun h146 => ?_)
        · refine j_ifeq (t := 49) (pc' := 41) rfl rfl rfl (fun h147 => ?_) (fun h147 => ?_)
          · exact kT (Or.inl h147)
          · refine j_aload (pc' := 43) rfl rfl rfl ?_
            refine j_callTi (pc' := 46) (ai := 91) (vs := [.ref 73]) (rest := []) rfl rfl (fun _ _ => rfl) (c_X8_isMade_73  σ) (j_dd rfl hd) rfl ?_
            refine j_ifne (t := 52) (pc' := 49) rfl rfl rfl (fun h148 => ?_) (fun h148 => ?_)
            · exact kF (fun z => z.elim h147 (h148))
            · exact kT (Or.inr (h148))
        · refine j_bipush (pc' := 51) (x := (-6 : Int32)) rfl rfl rfl ?_
          exact j_ret rfl rfl rfl (fun _ h => h)
        · refine j_aload (pc' := 54) rfl rfl rfl ?_
          refine j_gfi (pc' := 57) rfl rfl j_a73 rfl ?_
          refine j_aload (pc' := 59) rfl rfl rfl ?_
          refine j_gfi (pc' := 62) rfl rfl j_a73 rfl ?_
          refine j_two (pT := 65) (pF := 68) (L1 := [some (.ref 0), some (.int (3 : Int32)), some (.int l2), some (.int (3 : Int32)), some (.int l4), some (.int l5), some (.ref 73), some (.ref 73)]) (st1 := []) (fun o kT kF => ?_) (fun h144 => ?_) (fun h144 => ?_)
          · refine j_iceq (t := 68) (pc' := 65) rfl rfl rfl (fun h145 => ?_) (fun h145 => ?_)
            · exact kF (fun z => z h145)
            · exact kT h145
          · refine j_bipush (pc' := 67) (x := (-8 : Int32)) rfl rfl rfl ?_
            exact j_ret rfl rfl rfl (fun _ h => h)
          · refine j_aload (pc' := 70) rfl rfl rfl ?_
            refine j_iload_n (pc' := 71) rfl rfl rfl ?_
            refine j_iload (pc' := 73) rfl rfl rfl ?_
            refine j_callTi (pc' := 76) (ai := 94) (vs := [.ref 73, .int l2, .int l5]) (rest := []) rfl rfl (fun _ _ => rfl) (c_X8_hasPart_73 l2 l5 σ) (j_dd rfl hd) rfl ?_
            refine j_two (pT := 91) (pF := 94) (L1 := [some (.ref 0), some (.int (3 : Int32)), some (.int l2), some (.int (3 : Int32)), some (.int l4), some (.int l5), some (.ref 73), some (.ref 73)]) (st1 := []) (fun o kT kF => ?_) (fun h141 => ?_) (fun h141 => ?_)
            · refine j_ifeq (t := 91) (pc' := 79) rfl rfl rfl (fun h142 => ?_) (fun h142 => ?_)
              · exact kT (Or.inl h142)
              · refine j_aload (pc' := 81) rfl rfl rfl ?_
                refine j_iload (pc' := 83) rfl rfl rfl ?_
                refine j_iload (pc' := 85) rfl rfl rfl ?_
                refine j_callTi (pc' := 88) (ai := 94) (vs := [.ref 73, .int l4, .int l5]) (rest := []) rfl rfl (fun _ _ => rfl) (c_X8_hasPart_73 l4 l5 σ) (j_dd rfl hd) rfl ?_
                refine j_ifne (t := 94) (pc' := 91) rfl rfl rfl (fun h143 => ?_) (fun h143 => ?_)
                · exact kF (fun z => z.elim h142 (h143))
                · exact kT (Or.inr (h143))
            · refine j_bipush (pc' := 93) (x := (-7 : Int32)) rfl rfl rfl ?_
              exact j_ret rfl rfl rfl (fun _ h => h)
            · refine j_aload (pc' := 96) rfl rfl rfl ?_
              refine j_gfr (pc' := 99) (x := 74) rfl rfl j_a73 rfl rfl ?_
              refine j_iload_n (pc' := 100) rfl rfl rfl ?_
              refine j_aload (pc' := 102) rfl rfl rfl ?_
              refine j_gfr (pc' := 105) (x := 74) rfl rfl j_a73 rfl rfl ?_
              refine j_iload (pc' := 107) rfl rfl rfl ?_
              refine j_iload (pc' := 109) rfl rfl rfl ?_
              refine j_cpl (pc' := 112) rfl rfl rfl j_a74 j_a74 (fun σ16 => ?_)
              refine j_iconst (pc' := 113) (x := (0 : Int32)) rfl rfl rfl ?_
              exact j_ret rfl rfl rfl (fun _ h => h)
      exact j_none
    exact j_none

noncomputable def p_X12_paste_113 (l1 : Int32) (l2 : Int32) (l3 : Int32) (l4 : Int32) (l5 : Int32) : Nat → Int32 → j_G → Option j_G
  | 0, _, _ => none
  | n + 1, l6, σ =>
    if l6 < l5 then (j_ix ((((60 : Int32) * l1) + l2) + l6) 240 (
    j_ix l6 60 (
    j_lt (j_sl σ 97 (l6).toNatClampNeg (σ.2 96 (((((60 : Int32) * l1) + l2) + l6)).toNatClampNeg)) fun σ1 =>
    p_X12_paste_113 l1 l2 l3 l4 l5 n (l6 + (1 : Int32)) σ1))) else (some σ)

noncomputable def p_X12_paste_150 (l3 : Int32) (l4 : Int32) (l5 : Int32) : Nat → Int32 → j_G → Option j_G
  | 0, _, _ => none
  | n + 1, l6, σ =>
    if l6 < l5 then (j_ix l6 60 (
    j_ix ((((60 : Int32) * l3) + l4) + l6) 240 (
    j_lt (j_sl σ 96 (((((60 : Int32) * l3) + l4) + l6)).toNatClampNeg (σ.2 97 (l6).toNatClampNeg)) fun σ1 =>
    p_X12_paste_150 l3 l4 l5 n (l6 + (1 : Int32)) σ1))) else (some σ)

noncomputable def f_X12_paste (l1 : Int32) (l2 : Int32) (l3 : Int32) (l4 : Int32) (l5 : Int32) (σ : j_G) : Option (Int32 × j_G) :=
  if ((f_X12_isSlot l1) = 0) ∨ ((f_X12_isSlot l3) = 0) then (some ((-2 : Int32), σ)) else (j_ix l1 4 (
  if ¬ (σ.1 94 (l1).toNatClampNeg) = (-1 : Int32) then (j_ix l3 4 (
  if (σ.1 94 (l3).toNatClampNeg) = (-1 : Int32) then (some ((-6 : Int32), σ)) else (j_ix l1 4 (
  j_ix l3 4 (
  if ¬ (σ.1 95 (l1).toNatClampNeg) = (σ.1 95 (l3).toNatClampNeg) then (some ((-8 : Int32), σ)) else (if (¬ l2 < 0) ∧ ((¬ l4 < 0) ∧ (¬ l5 < 0)) then (j_ix l1 4 (
  if ¬ ((σ.1 94 (l1).toNatClampNeg)).toInt64 < ((l2).toInt64 + (l5).toInt64) then (j_ix l3 4 (
  if ((σ.1 94 (l3).toNatClampNeg)).toInt64 < ((l4).toInt64 + (l5).toInt64) then (some ((-7 : Int32), σ)) else (j_b1 (p_X12_paste_113 l1 l2 l3 l4 l5 j_F (0 : Int32) σ) fun σ1 =>
  j_b1 (p_X12_paste_150 l3 l4 l5 j_F (0 : Int32) σ1) fun σ2 =>
  some ((0 : Int32), σ2)))) else (some ((-7 : Int32), σ)))) else (some ((-7 : Int32), σ)))))))) else (some ((-6 : Int32), σ))))
theorem l_X12_paste_113 {d : Nat} (hd : 2 ≤ d) (τ : j_G) (l1 : Int32) (l2 : Int32) (l3 : Int32) (l4 : Int32) (l5 : Int32) : ∀ (n : Nat) (l6 : Int32) (σ : j_G), j_J false τ M_cX12_paste d 113 [some (.ref 75), some (.int l1), some (.int l2), some (.int l3), some (.int l4), some (.int l5), some (.int l6)] [] σ (p_X12_paste_113 l1 l2 l3 l4 l5 n l6 σ) (fun r Q => j_Tr false τ M_cX12_paste d 147 [some (.ref 75), none, none, some (.int l3), some (.int l4), some (.int l5), none] [] r Q) := by
  intro n
  induction n with
  | zero => intro l6 σ; exact j_none
  | succ n ih =>
    intro l6 σ
    unfold p_X12_paste_113
    refine j_iload (pc' := 115) rfl rfl rfl ?_
    refine j_iload (pc' := 117) rfl rfl rfl ?_
    refine j_two (pT := 120) (pF := 147) (L1 := [some (.ref 75), some (.int l1), some (.int l2), some (.int l3), some (.int l4), some (.int l5), some (.int l6)]) (st1 := []) (fun o kT kF => ?_) (fun h1 => ?_) (fun h1 => ?_)
    · refine j_icge (t := 147) (pc' := 120) rfl rfl rfl (fun h2 => ?_) (fun h2 => ?_)
      · exact kF h2
      · exact kT h2
    · refine j_aload_n (pc' := 121) rfl rfl rfl ?_
      refine j_gfr (pc' := 124) (x := 97) rfl rfl j_a75 rfl rfl ?_
      refine j_iload (pc' := 126) rfl rfl rfl ?_
      refine j_aload_n (pc' := 127) rfl rfl rfl ?_
      refine j_gfr (pc' := 130) (x := 96) rfl rfl j_a75 rfl rfl ?_
      refine j_bipush (pc' := 132) (x := (60 : Int32)) rfl rfl rfl ?_
      refine j_iload_n (pc' := 133) rfl rfl rfl ?_
      refine j_imul (pc' := 134) rfl rfl ?_
      refine j_iload_n (pc' := 135) rfl rfl rfl ?_
      refine j_iadd (pc' := 136) rfl rfl ?_
      refine j_iload (pc' := 138) rfl rfl rfl ?_
      refine j_iadd (pc' := 139) rfl rfl ?_
      refine j_lald (pc' := 140) rfl rfl j_a96 ?_
      refine j_last (pc' := 141) rfl rfl j_a97 (fun σ1 => ?_)
      refine j_iincx (pc' := 144) (y := (1 : Int32)) (L' := [some (.ref 75), some (.int l1), some (.int l2), some (.int l3), some (.int l4), some (.int l5), some (.int (l6 + (1 : Int32)))]) rfl rfl rfl rfl rfl ?_
      refine j_goto (t := 113) rfl rfl ?_
      exact ih (l6 + (1 : Int32)) σ1
    · refine j_wk [true, false, false, true, true, true, false] (L' := [some (.ref 75), none, none, some (.int l3), some (.int l4), some (.int l5), none]) rfl ?_
      exact j_end (fun _ h => h)

theorem l_X12_paste_150 {d : Nat} (hd : 2 ≤ d) (τ : j_G) (l3 : Int32) (l4 : Int32) (l5 : Int32) : ∀ (n : Nat) (l6 : Int32) (σ : j_G), j_J false τ M_cX12_paste d 150 [some (.ref 75), none, none, some (.int l3), some (.int l4), some (.int l5), some (.int l6)] [] σ (p_X12_paste_150 l3 l4 l5 n l6 σ) (fun r Q => j_Tr false τ M_cX12_paste d 185 [none, none, none, none, none, none, none] [] r Q) := by
  intro n
  induction n with
  | zero => intro l6 σ; exact j_none
  | succ n ih =>
    intro l6 σ
    unfold p_X12_paste_150
    refine j_iload (pc' := 152) rfl rfl rfl ?_
    refine j_iload (pc' := 154) rfl rfl rfl ?_
    refine j_two (pT := 157) (pF := 185) (L1 := [some (.ref 75), none, none, some (.int l3), some (.int l4), some (.int l5), some (.int l6)]) (st1 := []) (fun o kT kF => ?_) (fun h1 => ?_) (fun h1 => ?_)
    · refine j_icge (t := 185) (pc' := 157) rfl rfl rfl (fun h2 => ?_) (fun h2 => ?_)
      · exact kF h2
      · exact kT h2
    · refine j_aload_n (pc' := 158) rfl rfl rfl ?_
      refine j_gfr (pc' := 161) (x := 96) rfl rfl j_a75 rfl rfl ?_
      refine j_bipush (pc' := 163) (x := (60 : Int32)) rfl rfl rfl ?_
      refine j_iload_n (pc' := 164) rfl rfl rfl ?_
      refine j_imul (pc' := 165) rfl rfl ?_
      refine j_iload (pc' := 167) rfl rfl rfl ?_
      refine j_iadd (pc' := 168) rfl rfl ?_
      refine j_iload (pc' := 170) rfl rfl rfl ?_
      refine j_iadd (pc' := 171) rfl rfl ?_
      refine j_aload_n (pc' := 172) rfl rfl rfl ?_
      refine j_gfr (pc' := 175) (x := 97) rfl rfl j_a75 rfl rfl ?_
      refine j_iload (pc' := 177) rfl rfl rfl ?_
      refine j_lald (pc' := 178) rfl rfl j_a97 ?_
      refine j_last (pc' := 179) rfl rfl j_a96 (fun σ1 => ?_)
      refine j_iincx (pc' := 182) (y := (1 : Int32)) (L' := [some (.ref 75), none, none, some (.int l3), some (.int l4), some (.int l5), some (.int (l6 + (1 : Int32)))]) rfl rfl rfl rfl rfl ?_
      refine j_goto (t := 150) rfl rfl ?_
      exact ih (l6 + (1 : Int32)) σ1
    · refine j_wk [false, true, true, false, false, false, false] (L' := [none, none, none, none, none, none, none]) rfl ?_
      exact j_end (fun _ h => h)

theorem c_X12_paste (l1 : Int32) (l2 : Int32) (l3 : Int32) (l4 : Int32) (l5 : Int32) (σ : j_G) : j_K false 2 355 [.ref 75, .int l1, .int l2, .int l3, .int l4, .int l5] σ (f_X12_paste l1 l2 l3 l4 l5 σ) j_Ri := by
  refine j_mkK (M := M_cX12_paste) (L := [some (.ref 75), some (.int l1), some (.int l2), some (.int l3), some (.int l4), some (.int l5), none]) (m := 1) t_355 rfl (j_rcvO j_a75 rfl) rfl (fun d hd τ => ?_)
  unfold f_X12_paste
  refine j_iload_n (pc' := 1) rfl rfl rfl ?_
  refine j_callTi (pc' := 4) (ai := 351) (vs := [.int l1]) (rest := []) rfl rfl (fun _ _ => rfl) (c_X12_isSlot l1 σ) (j_dd rfl hd) rfl ?_
  refine j_two (pT := 14) (pF := 17) (L1 := [some (.ref 75), some (.int l1), some (.int l2), some (.int l3), some (.int l4), some (.int l5), none]) (st1 := []) (fun o kT kF => ?_) (fun h15 => ?_) (fun h15 => ?_)
  · refine j_ifeq (t := 14) (pc' := 7) rfl rfl rfl (fun h16 => ?_) (fun h16 => ?_)
    · exact kT (Or.inl h16)
    · refine j_iload_n (pc' := 8) rfl rfl rfl ?_
      refine j_callTi (pc' := 11) (ai := 351) (vs := [.int l3]) (rest := []) rfl rfl (fun _ _ => rfl) (c_X12_isSlot l3 σ) (j_dd rfl hd) rfl ?_
      refine j_ifne (t := 17) (pc' := 14) rfl rfl rfl (fun h17 => ?_) (fun h17 => ?_)
      · exact kF (fun z => z.elim h16 (h17))
      · exact kT (Or.inr (h17))
  · refine j_bipush (pc' := 16) (x := (-2 : Int32)) rfl rfl rfl ?_
    exact j_ret rfl rfl rfl (fun _ h => h)
  · refine j_aload_n (pc' := 18) rfl rfl rfl ?_
    refine j_gfr (pc' := 21) (x := 94) rfl rfl j_a75 rfl rfl ?_
    refine j_iload_n (pc' := 22) rfl rfl rfl ?_
    refine j_iald (pc' := 23) rfl rfl j_a94 ?_
    refine j_iconst (pc' := 24) (x := (-1 : Int32)) rfl rfl rfl ?_
    refine j_two (pT := 27) (pF := 37) (L1 := [some (.ref 75), some (.int l1), some (.int l2), some (.int l3), some (.int l4), some (.int l5), none]) (st1 := []) (fun o kT kF => ?_) (fun h13 => ?_) (fun h13 => ?_)
    · refine j_iceq (t := 37) (pc' := 27) rfl rfl rfl (fun h14 => ?_) (fun h14 => ?_)
      · exact kF (fun z => z h14)
      · exact kT h14
    · refine j_aload_n (pc' := 28) rfl rfl rfl ?_
      refine j_gfr (pc' := 31) (x := 94) rfl rfl j_a75 rfl rfl ?_
      refine j_iload_n (pc' := 32) rfl rfl rfl ?_
      refine j_iald (pc' := 33) rfl rfl j_a94 ?_
      refine j_iconst (pc' := 34) (x := (-1 : Int32)) rfl rfl rfl ?_
      refine j_two (pT := 37) (pF := 40) (L1 := [some (.ref 75), some (.int l1), some (.int l2), some (.int l3), some (.int l4), some (.int l5), none]) (st1 := []) (fun o kT kF => ?_) (fun h11 => ?_) (fun h11 => ?_)
      · refine j_icne (t := 40) (pc' := 37) rfl rfl rfl (fun h12 => ?_) (fun h12 => ?_)
        · exact kF h12
        · exact kT h12
      · refine j_bipush (pc' := 39) (x := (-6 : Int32)) rfl rfl rfl ?_
        exact j_ret rfl rfl rfl (fun _ h => h)
      · refine j_aload_n (pc' := 41) rfl rfl rfl ?_
        refine j_gfr (pc' := 44) (x := 95) rfl rfl j_a75 rfl rfl ?_
        refine j_iload_n (pc' := 45) rfl rfl rfl ?_
        refine j_iald (pc' := 46) rfl rfl j_a95 ?_
        refine j_aload_n (pc' := 47) rfl rfl rfl ?_
        refine j_gfr (pc' := 50) (x := 95) rfl rfl j_a75 rfl rfl ?_
        refine j_iload_n (pc' := 51) rfl rfl rfl ?_
        refine j_iald (pc' := 52) rfl rfl j_a95 ?_
        refine j_two (pT := 55) (pF := 58) (L1 := [some (.ref 75), some (.int l1), some (.int l2), some (.int l3), some (.int l4), some (.int l5), none]) (st1 := []) (fun o kT kF => ?_) (fun h9 => ?_) (fun h9 => ?_)
        · refine j_iceq (t := 58) (pc' := 55) rfl rfl rfl (fun h10 => ?_) (fun h10 => ?_)
          · exact kF (fun z => z h10)
          · exact kT h10
        · refine j_bipush (pc' := 57) (x := (-8 : Int32)) rfl rfl rfl ?_
          exact j_ret rfl rfl rfl (fun _ h => h)
        · refine j_iload_n (pc' := 59) rfl rfl rfl ?_
          refine j_two (pT := 72) (pF := 107) (L1 := [some (.ref 75), some (.int l1), some (.int l2), some (.int l3), some (.int l4), some (.int l5), none]) (st1 := []) (fun o kT kF => ?_) (fun h5 => ?_) (fun h5 => ?_)
          · refine j_iflt (t := 107) (pc' := 62) rfl rfl rfl (fun h6 => ?_) (fun h6 => ?_)
            · exact kF (fun z => z.1 h6)
            · refine j_iload (pc' := 64) rfl rfl rfl ?_
              refine j_iflt (t := 107) (pc' := 67) rfl rfl rfl (fun h7 => ?_) (fun h7 => ?_)
              · exact kF (fun z => (fun z => z.1 h7) z.2)
              · refine j_iload (pc' := 69) rfl rfl rfl ?_
                refine j_iflt (t := 107) (pc' := 72) rfl rfl rfl (fun h8 => ?_) (fun h8 => ?_)
                · exact kF (fun z => (fun z => (fun z => z h8) z.2) z.2)
                · exact kT (⟨h6, ⟨h7, h8⟩⟩)
          · refine j_iload_n (pc' := 73) rfl rfl rfl ?_
            refine j_i2l (pc' := 74) rfl rfl ?_
            refine j_iload (pc' := 76) rfl rfl rfl ?_
            refine j_i2l (pc' := 77) rfl rfl ?_
            refine j_ladd (pc' := 78) rfl rfl ?_
            refine j_aload_n (pc' := 79) rfl rfl rfl ?_
            refine j_gfr (pc' := 82) (x := 94) rfl rfl j_a75 rfl rfl ?_
            refine j_iload_n (pc' := 83) rfl rfl rfl ?_
            refine j_iald (pc' := 84) rfl rfl j_a94 ?_
            refine j_i2l (pc' := 85) rfl rfl ?_
            refine j_lcmp (pc' := 86) rfl rfl ?_
            refine j_two (pT := 89) (pF := 107) (L1 := [some (.ref 75), some (.int l1), some (.int l2), some (.int l3), some (.int l4), some (.int l5), none]) (st1 := []) (fun o kT kF => ?_) (fun h3 => ?_) (fun h3 => ?_)
            · refine j_ifgtL (t := 107) (pc' := 89) rfl rfl rfl (fun h4 => ?_) (fun h4 => ?_)
              · exact kF (fun z => z h4)
              · exact kT h4
            · refine j_iload (pc' := 91) rfl rfl rfl ?_
              refine j_i2l (pc' := 92) rfl rfl ?_
              refine j_iload (pc' := 94) rfl rfl rfl ?_
              refine j_i2l (pc' := 95) rfl rfl ?_
              refine j_ladd (pc' := 96) rfl rfl ?_
              refine j_aload_n (pc' := 97) rfl rfl rfl ?_
              refine j_gfr (pc' := 100) (x := 94) rfl rfl j_a75 rfl rfl ?_
              refine j_iload_n (pc' := 101) rfl rfl rfl ?_
              refine j_iald (pc' := 102) rfl rfl j_a94 ?_
              refine j_i2l (pc' := 103) rfl rfl ?_
              refine j_lcmp (pc' := 104) rfl rfl ?_
              refine j_two (pT := 107) (pF := 110) (L1 := [some (.ref 75), some (.int l1), some (.int l2), some (.int l3), some (.int l4), some (.int l5), none]) (st1 := []) (fun o kT kF => ?_) (fun h1 => ?_) (fun h1 => ?_)
              · refine j_ifleL (t := 110) (pc' := 107) rfl rfl rfl (fun h2 => ?_) (fun h2 => ?_)
                · exact kF h2
                · exact kT h2
              · refine j_bipush (pc' := 109) (x := (-7 : Int32)) rfl rfl rfl ?_
                exact j_ret rfl rfl rfl (fun _ h => h)
              · refine j_iconst (pc' := 111) (x := (0 : Int32)) rfl rfl rfl ?_
                refine j_istore (pc' := 113) (L' := [some (.ref 75), some (.int l1), some (.int l2), some (.int l3), some (.int l4), some (.int l5), some (.int (0 : Int32))]) rfl rfl rfl ?_
                refine j_q1 (l_X12_paste_113 hd τ l1 l2 l3 l4 l5 j_F (0 : Int32) σ) (fun σ1 => ?_)
                show j_J false τ M_cX12_paste d 147 [some (.ref 75), none, none, some (.int l3), some (.int l4), some (.int l5), none] [] σ1 _ _
                refine j_iconst (pc' := 148) (x := (0 : Int32)) rfl rfl rfl ?_
                refine j_istore (pc' := 150) (L' := [some (.ref 75), none, none, some (.int l3), some (.int l4), some (.int l5), some (.int (0 : Int32))]) rfl rfl rfl ?_
                refine j_q1 (l_X12_paste_150 hd τ l3 l4 l5 j_F (0 : Int32) σ1) (fun σ2 => ?_)
                show j_J false τ M_cX12_paste d 185 [none, none, none, none, none, none, none] [] σ2 _ _
                refine j_iconst (pc' := 186) (x := (0 : Int32)) rfl rfl rfl ?_
                exact j_ret rfl rfl rfl (fun _ h => h)
            · refine j_bipush (pc' := 109) (x := (-7 : Int32)) rfl rfl rfl ?_
              exact j_ret rfl rfl rfl (fun _ h => h)
          · refine j_bipush (pc' := 109) (x := (-7 : Int32)) rfl rfl rfl ?_
            exact j_ret rfl rfl rfl (fun _ h => h)
    · refine j_bipush (pc' := 39) (x := (-6 : Int32)) rfl rfl rfl ?_
      exact j_ret rfl rfl rfl (fun _ h => h)

/-! ===== the two fresh objects ===== -/
noncomputable def x_ha : xH := [.inr (11, [.ref 1, .ref 9, .ref 10, .ref 22, .ref 28, .ref 29, .ref 30, .ref 35, .ref 37, .ref 40, .ref 42]), .inr (2, [.int 0, .int 0, .int 0, .int 0, .int 0, .int 0, .int 0, .int 0, .int 0, .int 0, .int 0, .ref 2, .ref 3, .ref 4, .ref 5]), .inl (0, 6, .inl (fun _ => 0)), .inl (0, 6, .inl (fun _ => 0)), .inl (0, 20, .inl (fun _ => 0)), .inr (3, [.int 0, .int 0, .ref 6, .ref 7, .ref 8]), .inl (0, 24, .inl (fun _ => 0)), .inl (0, 24, .inl (fun _ => 0)), .inl (0, 24, .inl (fun _ => 0)), .inl (6, 3, .inr (.inr (.inr (.inr (va_up (va_up (va_up (fun _ => none) 0 (some 43)) 1 (some 51)) 2 (some 59)))))), .inr (7, [.ref 11, .int 0, .int (-1), .ref 19, .ref 21, .int 0, .int 0, .int 0, .int 0]), .inr (2, [.int 0, .int 0, .int 0, .int 0, .int 0, .int 0, .int 0, .int 0, .int 0, .int 0, .int 0, .ref 12, .ref 13, .ref 14, .ref 15]), .inl (0, 6, .inl (fun _ => 0)), .inl (0, 6, .inl (fun _ => 0)), .inl (0, 20, .inl (fun _ => 0)), .inr (3, [.int 0, .int 0, .ref 16, .ref 17, .ref 18]), .inl (0, 24, .inl (fun _ => 0)), .inl (0, 24, .inl (fun _ => 0)), .inl (0, 24, .inl (fun _ => 0)), .inr (10, [.int 0, .ref 20]), .inl (2, 1200, .inl (fun _ => 0)), .inl (0, 5, .inl (fun _ => 0)), .inr (4, [.int 0, .ref 23, .ref 24, .ref 25, .ref 26, .ref 27, .int 0]), .inl (0, 60, .inl (fun _ => 0)), .inl (0, 60, .inl (fun _ => 0)), .inl (0, 60, .inl (fun _ => 0)), .inl (0, 60, .inl (fun _ => 0)), .inl (0, 60, .inl (fun _ => 0)), .inr (6, [.int 0, .int 0, .int 0, .int 0, .int 0]), .inr (6, [.int 0, .int 0, .int 0, .int 0, .int 0]), .inr (9, [.int 0, .int 0, .ref 31, .ref 32, .int 0, .ref 33, .ref 34, .int 0, .int 0]), .inl (0, 60, .inl (fun _ => 0)), .inl (0, 60, .inl (fun _ => 0)), .inl (0, 120, .inl (fun _ => 0)), .inl (0, 120, .inl (fun _ => 0)), .inr (0, [.ref 36]), .inl (0, 1452, .inl (fun _ => 0)), .inr (5, [.ref 38, .ref 39]), .inl (1, 156, .inr (.inl (fun _ => 0))), .inl (1, 156, .inr (.inl (fun _ => 0))), .inr (1, [.int 0, .int 0, .int 0, .ref 41]), .inl (0, 60, .inl (fun _ => 0)), .inl (12, 4, .inr (.inr (.inr (.inr (va_up (va_up (va_up (va_up (fun _ => none) 0 (some 67)) 1 (some 69)) 2 (some 71)) 3 (some 73)))))), .inr (2, [.int 0, .int 0, .int 0, .int 0, .int 0, .int 0, .int 0, .int 0, .int 0, .int 0, .int 0, .ref 44, .ref 45, .ref 46, .ref 47]), .inl (0, 6, .inl (fun _ => 0)), .inl (0, 6, .inl (fun _ => 0)), .inl (0, 20, .inl (fun _ => 0)), .inr (3, [.int 0, .int 0, .ref 48, .ref 49, .ref 50]), .inl (0, 24, .inl (fun _ => 0)), .inl (0, 24, .inl (fun _ => 0)), .inl (0, 24, .inl (fun _ => 0)), .inr (2, [.int 0, .int 0, .int 0, .int 0, .int 0, .int 0, .int 0, .int 0, .int 0, .int 0, .int 0, .ref 52, .ref 53, .ref 54, .ref 55]), .inl (0, 6, .inl (fun _ => 0)), .inl (0, 6, .inl (fun _ => 0)), .inl (0, 20, .inl (fun _ => 0)), .inr (3, [.int 0, .int 0, .ref 56, .ref 57, .ref 58]), .inl (0, 24, .inl (fun _ => 0)), .inl (0, 24, .inl (fun _ => 0)), .inl (0, 24, .inl (fun _ => 0)), .inr (2, [.int 0, .int 0, .int 0, .int 0, .int 0, .int 0, .int 0, .int 0, .int 0, .int 0, .int 0, .ref 60, .ref 61, .ref 62, .ref 63]), .inl (0, 6, .inl (fun _ => 0)), .inl (0, 6, .inl (fun _ => 0)), .inl (0, 20, .inl (fun _ => 0)), .inr (3, [.int 0, .int 0, .ref 64, .ref 65, .ref 66]), .inl (0, 24, .inl (fun _ => 0)), .inl (0, 24, .inl (fun _ => 0)), .inl (0, 24, .inl (fun _ => 0)), .inr (8, [.int (-1), .int 0, .ref 68]), .inl (1, 60, .inr (.inl (fun _ => 0))), .inr (8, [.int (-1), .int 0, .ref 70]), .inl (1, 60, .inr (.inl (fun _ => 0))), .inr (8, [.int (-1), .int 0, .ref 72]), .inl (1, 60, .inr (.inl (fun _ => 0))), .inr (8, [.int (-1), .int 0, .ref 74]), .inl (1, 60, .inr (.inl (fun _ => 0)))]
noncomputable def x_h0 : xH := [.inr (11, [.ref 1, .ref 9, .ref 10, .ref 22, .ref 28, .ref 29, .ref 30, .ref 35, .ref 37, .ref 40, .ref 42]), .inr (2, [.int 0, .int 0, .int 0, .int 0, .int 0, .int 0, .int 0, .int 0, .int 0, .int 0, .int 0, .ref 2, .ref 3, .ref 4, .ref 5]), .inl (0, 6, .inl (fun _ => 0)), .inl (0, 6, .inl (fun _ => 0)), .inl (0, 20, .inl (fun _ => 0)), .inr (3, [.int 0, .int 0, .ref 6, .ref 7, .ref 8]), .inl (0, 24, .inl (fun _ => 0)), .inl (0, 24, .inl (fun _ => 0)), .inl (0, 24, .inl (fun _ => 0)), .inl (6, 3, .inr (.inr (.inr (.inr (va_up (va_up (va_up (fun _ => none) 0 (some 43)) 1 (some 51)) 2 (some 59)))))), .inr (7, [.ref 11, .int 0, .int (-1), .ref 19, .ref 21, .int 0, .int 0, .int 0, .int 0]), .inr (2, [.int 0, .int 0, .int 0, .int 0, .int 0, .int 0, .int 0, .int 0, .int 0, .int 0, .int 0, .ref 12, .ref 13, .ref 14, .ref 15]), .inl (0, 6, .inl (fun _ => 0)), .inl (0, 6, .inl (fun _ => 0)), .inl (0, 20, .inl (fun _ => 0)), .inr (3, [.int 0, .int 0, .ref 16, .ref 17, .ref 18]), .inl (0, 24, .inl (fun _ => 0)), .inl (0, 24, .inl (fun _ => 0)), .inl (0, 24, .inl (fun _ => 0)), .inr (10, [.int 0, .ref 20]), .inl (2, 1200, .inl (fun _ => 0)), .inl (0, 5, .inl (fun _ => 0)), .inr (4, [.int 0, .ref 23, .ref 24, .ref 25, .ref 26, .ref 27, .int 0]), .inl (0, 60, .inl (fun _ => 0)), .inl (0, 60, .inl (fun _ => 0)), .inl (0, 60, .inl (fun _ => 0)), .inl (0, 60, .inl (fun _ => 0)), .inl (0, 60, .inl (fun _ => 0)), .inr (6, [.int 0, .int 0, .int 0, .int 0, .int 0]), .inr (6, [.int 0, .int 0, .int 0, .int 0, .int 0]), .inr (9, [.int 0, .int 0, .ref 31, .ref 32, .int 0, .ref 33, .ref 34, .int 0, .int 0]), .inl (0, 60, .inl (fun _ => 0)), .inl (0, 60, .inl (fun _ => 0)), .inl (0, 120, .inl (fun _ => 0)), .inl (0, 120, .inl (fun _ => 0)), .inr (0, [.ref 36]), .inl (0, 1452, .inl (fun _ => 0)), .inr (5, [.ref 38, .ref 39]), .inl (1, 156, .inr (.inl (fun _ => 0))), .inl (1, 156, .inr (.inl (fun _ => 0))), .inr (1, [.int 0, .int 0, .int 0, .ref 41]), .inl (0, 60, .inl (fun _ => 0)), .inl (12, 4, .inr (.inr (.inr (.inr (va_up (va_up (va_up (va_up (fun _ => none) 0 (some 67)) 1 (some 69)) 2 (some 71)) 3 (some 73)))))), .inr (2, [.int 0, .int 0, .int 0, .int 0, .int 0, .int 0, .int 0, .int 0, .int 0, .int 0, .int 0, .ref 44, .ref 45, .ref 46, .ref 47]), .inl (0, 6, .inl (fun _ => 0)), .inl (0, 6, .inl (fun _ => 0)), .inl (0, 20, .inl (fun _ => 0)), .inr (3, [.int 0, .int 0, .ref 48, .ref 49, .ref 50]), .inl (0, 24, .inl (fun _ => 0)), .inl (0, 24, .inl (fun _ => 0)), .inl (0, 24, .inl (fun _ => 0)), .inr (2, [.int 0, .int 0, .int 0, .int 0, .int 0, .int 0, .int 0, .int 0, .int 0, .int 0, .int 0, .ref 52, .ref 53, .ref 54, .ref 55]), .inl (0, 6, .inl (fun _ => 0)), .inl (0, 6, .inl (fun _ => 0)), .inl (0, 20, .inl (fun _ => 0)), .inr (3, [.int 0, .int 0, .ref 56, .ref 57, .ref 58]), .inl (0, 24, .inl (fun _ => 0)), .inl (0, 24, .inl (fun _ => 0)), .inl (0, 24, .inl (fun _ => 0)), .inr (2, [.int 0, .int 0, .int 0, .int 0, .int 0, .int 0, .int 0, .int 0, .int 0, .int 0, .int 0, .ref 60, .ref 61, .ref 62, .ref 63]), .inl (0, 6, .inl (fun _ => 0)), .inl (0, 6, .inl (fun _ => 0)), .inl (0, 20, .inl (fun _ => 0)), .inr (3, [.int 0, .int 0, .ref 64, .ref 65, .ref 66]), .inl (0, 24, .inl (fun _ => 0)), .inl (0, 24, .inl (fun _ => 0)), .inl (0, 24, .inl (fun _ => 0)), .inr (8, [.int (-1), .int 0, .ref 68]), .inl (1, 60, .inr (.inl (fun _ => 0))), .inr (8, [.int (-1), .int 0, .ref 70]), .inl (1, 60, .inr (.inl (fun _ => 0))), .inr (8, [.int (-1), .int 0, .ref 72]), .inl (1, 60, .inr (.inl (fun _ => 0))), .inr (8, [.int (-1), .int 0, .ref 74]), .inl (1, 60, .inr (.inl (fun _ => 0))), .inr (12, [.int 0, .ref 76, .ref 77, .ref 78, .ref 79, .int 0, .ref 80, .int 0, .int 0, .int 0, .int 0, .int 0, .int 0, .int (-1), .ref 81, .ref 82, .ref 83, .ref 84, .int 0, .int 0, .int 0, .int 0, .int 0, .int 0, .int 0, .ref 85, .ref 86, .ref 87, .ref 88, .int 0, .int 0, .int 0, .int 0, .int 0, .ref 89, .ref 90, .ref 91, .ref 92, .ref 93, .int 0, .int 0, .int 0, .long 0, .ref 94, .ref 95, .ref 96, .ref 97]), .inl (0, 116, .inl (fun _ => 0)), .inl (0, 348, .inl (fun _ => 0)), .inl (3, 3, .inl (fun _ => 0)), .inl (2, 1200, .inl (fun _ => 0)), .inl (0, 5, .inl (fun _ => 0)), .inl (0, 116, .inl (fun _ => 0)), .inl (0, 180, .inl (fun _ => 0)), .inl (0, 60, .inl (fun _ => 0)), .inl (0, 60, .inl (fun _ => 0)), .inl (0, 60, .inl (fun _ => 0)), .inl (0, 60, .inl (fun _ => 0)), .inl (0, 120, .inl (fun _ => 0)), .inl (0, 120, .inl (fun _ => 0)), .inl (0, 1452, .inl (fun _ => 0)), .inl (0, 1452, .inl (fun _ => 0)), .inl (1, 169, .inr (.inl (fun _ => 0))), .inl (1, 169, .inr (.inl (fun _ => 0))), .inl (0, 60, .inl (fun _ => 0)), .inl (0, 4, .inl (upd (upd (upd (upd (fun _ => 0) 0 (-1)) 1 (-1)) 2 (-1)) 3 (-1))), .inl (0, 4, .inl (fun _ => 0)), .inl (1, 240, .inr (.inl (fun _ => 0))), .inl (1, 60, .inr (.inl (fun _ => 0)))]
set_option maxRecDepth 100000 in
set_option maxHeartbeats 4000000 in
theorem x_mk1 : x_run x_mt none 467 9 M_cX11_init (0, [(0, .ref 0)], [], [.inr (11, [.null, .null, .null, .null, .null, .null, .null, .null, .null, .null, .null])], 0, 0) = some (none, x_ha, 74, 4612) := by rfl
set_option maxRecDepth 100000 in
set_option maxHeartbeats 4000000 in
theorem x_mk2 : x_run x_mt none 112 9 M_cX12_init (0, [(0, .ref 75)], [], x_ha ++ [.inr (12, [.int 0, .null, .null, .null, .null, .int 0, .null, .int 0, .int 0, .int 0, .int 0, .int 0, .int 0, .int 0, .null, .null, .null, .null, .int 0, .int 0, .int 0, .int 0, .int 0, .int 0, .int 0, .null, .null, .null, .null, .int 0, .int 0, .int 0, .int 0, .int 0, .null, .null, .null, .null, .null, .int 0, .int 0, .int 0, .long 0, .null, .null, .null, .null])], 0, 0) = some (none, x_h0, 22, 6058) := by rfl
set_option maxRecDepth 100000 in
set_option maxHeartbeats 4000000 in
theorem x_pre {S : Option xS} {P : Option Value × xH × Nat × Nat → Prop} (kk : x_R x_mt S 10 M_law (18, [(3, .int 0), (2, .ref 75), (1, .ref 0), (0, .ref x_scr)], [], x_h0, 98, 10728) P) : x_R x_mt S 10 M_law (0, [(0, .ref x_scr)], [], [], 0, 0) P := by
  refine x_R.steps 2 (c' := (4, [(0, .ref x_scr)], [.ref 0, .ref 0], [.inr (11, [.null, .null, .null, .null, .null, .null, .null, .null, .null, .null, .null])], 1, 11)) rfl ?_
  refine x_R.call (a := 111) (vs := [.ref 0]) (rest := [.ref 0]) (M' := M_cX11_init) rfl rfl rfl ?_
  refine ⟨_, _, x_mk1, ?_⟩
  refine x_R.steps 3 (c' := (12, [(1, .ref 0), (0, .ref x_scr)], [.ref 75, .ref 75], x_ha ++ [.inr (12, [.int 0, .null, .null, .null, .null, .int 0, .null, .int 0, .int 0, .int 0, .int 0, .int 0, .int 0, .int 0, .null, .null, .null, .null, .int 0, .int 0, .int 0, .int 0, .int 0, .int 0, .int 0, .null, .null, .null, .null, .int 0, .int 0, .int 0, .int 0, .int 0, .null, .null, .null, .null, .null, .int 0, .int 0, .int 0, .long 0, .null, .null, .null, .null])], 76, 4670)) rfl ?_
  refine x_R.call (a := 195) (vs := [.ref 75]) (rest := [.ref 75]) (M' := M_cX12_init) rfl rfl rfl ?_
  refine ⟨_, _, x_mk2, ?_⟩
  exact x_R.steps 3 (c' := (18, [(3, .int 0), (2, .ref 75), (1, .ref 0), (0, .ref x_scr)], [], x_h0, 98, 10728)) rfl kk
/-! ===== reading what was written ===== -/
theorem j_r_ne {σ : j_G} {c c' j j' : Nat} {v : Int32} (h : c' ≠ c) : (j_si σ c j v).1 c' j' = σ.1 c' j' := by
  show (bif Nat.beq c' c && Nat.beq j' j then v else σ.1 c' j') = _
  rw [j_beq_ne h]; rfl
theorem j_r_eq {σ : j_G} {c j : Nat} {v : Int32} : (j_si σ c j v).1 c j = v := by
  show (bif Nat.beq c c && Nat.beq j j then v else σ.1 c j) = _
  rw [j_beq_self, j_beq_self]; rfl
theorem j_r_nj {σ : j_G} {c c' j j' : Nat} {v : Int32} (h : j' ≠ j) : (j_si σ c j v).1 c' j' = σ.1 c' j' := by
  show (bif Nat.beq c' c && Nat.beq j' j then v else σ.1 c' j') = _
  rw [j_beq_ne h, Bool.and_false]; rfl
theorem j_r_2 {σ : j_G} {c j : Nat} {v : Int32} : (j_si σ c j v).2 = σ.2 := rfl
theorem j_l_ne {σ : j_G} {c c' j j' : Nat} {v : Int64} (h : c' ≠ c) : (j_sl σ c j v).2 c' j' = σ.2 c' j' := by
  show (bif Nat.beq c' c && Nat.beq j' j then v else σ.2 c' j') = _
  rw [j_beq_ne h]; rfl
theorem j_l_eq {σ : j_G} {c j : Nat} {v : Int64} : (j_sl σ c j v).2 c j = v := by
  show (bif Nat.beq c c && Nat.beq j j then v else σ.2 c j) = _
  rw [j_beq_self, j_beq_self]; rfl
theorem j_l_nj {σ : j_G} {c c' j j' : Nat} {v : Int64} (h : j' ≠ j) : (j_sl σ c j v).2 c' j' = σ.2 c' j' := by
  show (bif Nat.beq c' c && Nat.beq j' j then v else σ.2 c' j') = _
  rw [j_beq_ne h, Bool.and_false]; rfl
theorem j_l_1 {σ : j_G} {c j : Nat} {v : Int64} : (j_sl σ c j v).1 = σ.1 := rfl
theorem j_c_ne {σ : j_G} {a0 sp a1 dp n c' j' : Nat} (h : c' ≠ a1) : (j_ci σ a0 sp a1 dp n).1 c' j' = σ.1 c' j' := by
  show (bif Nat.beq c' a1 then va_cpy (σ.1 a0) (σ.1 a1) sp dp n j' else σ.1 c' j') = _
  rw [j_beq_ne h]; rfl
theorem j_c_eq {σ : j_G} {a0 sp a1 dp n j' : Nat} : (j_ci σ a0 sp a1 dp n).1 a1 j' = va_cpy (σ.1 a0) (σ.1 a1) sp dp n j' := by
  show (bif Nat.beq a1 a1 then va_cpy (σ.1 a0) (σ.1 a1) sp dp n j' else σ.1 a1 j') = _
  rw [j_beq_self]; rfl
theorem j_c_2 {σ : j_G} {a0 sp a1 dp n : Nat} : (j_ci σ a0 sp a1 dp n).2 = σ.2 := rfl
theorem j_cl_ne {σ : j_G} {a0 sp a1 dp n c' j' : Nat} (h : c' ≠ a1) : (j_cl σ a0 sp a1 dp n).2 c' j' = σ.2 c' j' := by
  show (bif Nat.beq c' a1 then va_cpy (σ.2 a0) (σ.2 a1) sp dp n j' else σ.2 c' j') = _
  rw [j_beq_ne h]; rfl
theorem j_cl_eq {σ : j_G} {a0 sp a1 dp n j' : Nat} : (j_cl σ a0 sp a1 dp n).2 a1 j' = va_cpy (σ.2 a0) (σ.2 a1) sp dp n j' := by
  show (bif Nat.beq a1 a1 then va_cpy (σ.2 a0) (σ.2 a1) sp dp n j' else σ.2 a1 j') = _
  rw [j_beq_self]; rfl
theorem j_cl_1 {σ : j_G} {a0 sp a1 dp n : Nat} : (j_cl σ a0 sp a1 dp n).1 = σ.1 := rfl
theorem j_ixp {α : Type} {i : Int32} {n : Nat} {o : Option α} (h : ¬ (i < 0 ∨ n ≤ i.toNatClampNeg)) : j_ix i n o = o := if_neg h
theorem j_ixn {α : Type} {k n : Nat} {o : Option α} (h : k < n) (hn : n < 2 ^ 31) : j_ix (nI k) n o = o := j_ixp (nI_in h hn)
theorem j_b0_s {α β : Type} {x : α} {k : Option β} : j_b0 (some x) k = k := rfl
theorem j_b1_s {α β : Type} {x : α} {k : α → Option β} : j_b1 (some x) k = k x := rfl
theorem j_b2_s {α β γ : Type} {x : α × β} {k : α → β → Option γ} : j_b2 (some x) k = k x.1 x.2 := rfl
theorem j_b3_s {α β γ δ : Type} {x : α × β × γ} {k : α → β → γ → Option δ} : j_b3 (some x) k = k x.1 x.2.1 x.2.2 := rfl
/-- a comparison of an int seen as a long -/
theorem j_l64 (x : Int32) : x.toInt64.toInt = x.toInt := Int32.toInt_toInt64 x
/-! ===== the two heaps as one ===== -/
theorem j_swp {σ τ : j_G} : j_hp true σ τ = j_hp false τ σ := by
  unfold j_hp
  congr 1
  funext c q
  congr 1
  have h1 : j_ow true c = Nat.blt c j_nx := rfl
  have h2 : j_ow false c = Nat.ble j_nx c := rfl
  rw [h1, h2]
  by_cases h : c < j_nx
  · rw [show Nat.blt c j_nx = true from Nat.ble_eq_true_of_le h]
    cases hb : Nat.ble j_nx c with
    | false => rfl
    | true => exact absurd (Nat.le_of_ble_eq_true hb) (by omega)
  · rw [show Nat.ble j_nx c = true from Nat.ble_eq_true_of_le (by omega)]
    cases hb : Nat.blt c j_nx with
    | false => rfl
    | true => exact absurd (Nat.le_of_ble_eq_true hb) (by omega)
/-- a call out of the law -/
theorem j_Rc0 {S : Option xS} {d : Nat} {M M' : xM} {pc k z ai n1 : Nat} {l : xL} {st rest vs : List Value} {H H1 : xH} {v : Value} {P : Option Value × xH × Nat × Nat → Prop} (e : x_step M S (pc, l, st, H, k, z) = some (.inr (.inl (ai, vs, rest)))) (em : (x_mt : List xM)[ai]? = some M') (hc : (Nat.ble (x_cat vs) M'.2.2.2.1 && x_rcv M' vs H) = true) (h1 : x_run x_mt none n1 d M' (0, lv_args 0 vs, [], H, 0, 0) = some (some v, H1, 0, 0)) (kk : x_R x_mt S (d + 1) M (pc + 3, l, v :: rest, H1, k, z) P) : x_R x_mt S (d + 1) M (pc, l, st, H, k, z) P := by
  have h4 : x_R x_mt none d M' (0, lv_args 0 vs, [], H, 0, 0) (fun r => r = (some v, H1, 0, 0)) := ⟨n1, _, h1, rfl⟩
  refine x_R.call (c := (pc, l, st, H, k, z)) e em hc (x_R.mono h4 fun r hr => ?_)
  rw [hr]
  exact kk
theorem j_Rc {S : Option xS} {d : Nat} {M : xM} {pc k z : Nat} {l : xL} {st : List Value} {rest : List Value} {s : Bool} {σ τ σ' : j_G} {D ai : Nat} {vs : List Value} {oc : Option (Int32 × j_G)} {v : Int32} {P : Option Value × xH × Nat × Nat → Prop} (e : ∀ h : xH, x_step M S (pc, l, st, h, k, z) = some (.inr (.inl (ai, vs, rest)))) (hK : j_K s D ai vs σ oc j_Ri) (hD : D ≤ d) (ho : oc = some (v, σ')) (kk : x_R x_mt S (d + 1) M (pc + 3, l, .int v :: rest, j_hp s σ' τ, k, z) P) : x_R x_mt S (d + 1) M (pc, l, st, j_hp s σ τ, k, z) P := by
  obtain ⟨M', em, hc, n1, v1, σ1, h1, h2⟩ := hK d hD τ _ ho (fun v1 σ1 => v1 = some (.int v) ∧ σ1 = σ') ⟨rfl, rfl⟩
  have h3 : v1 = some (.int v) := h2.1
  have h4 : σ1 = σ' := h2.2
  rw [h3, h4] at h1
  exact j_Rc0 (e _) em hc h1 kk
/-! ===== the fresh objects, as the rules see them ===== -/
noncomputable def j_s0 : j_G := (fun c j => bif Nat.beq c 10 && Nat.beq j 2 || (Nat.beq c 67 || (Nat.beq c 69 || (Nat.beq c 71 || Nat.beq c 73))) && Nat.beq j 0 then -1 else 0, fun _ _ => 0)
noncomputable def j_m4 : Nat → Int32 := upd (upd (upd (upd (fun _ => 0) 0 (-1)) 1 (-1)) 2 (-1)) 3 (-1)
noncomputable def j_t0 : j_G := (fun c j => bif Nat.beq c 94 then j_m4 j else bif Nat.beq c 75 && Nat.beq j 13 then -1 else 0, fun _ _ => 0)
theorem j_up3 : va_up (va_up (va_up (fun _ => none) 0 (some 43)) 1 (some 51)) 2 (some 59) = fun j => ([43, 51, 59] : List Nat)[j]? := by
  funext j
  match j with
  | 0 => rfl
  | 1 => rfl
  | 2 => rfl
  | j + 3 => simp [va_up]
theorem j_up4 : va_up (va_up (va_up (va_up (fun _ => none) 0 (some 67)) 1 (some 69)) 2 (some 71)) 3 (some 73) = fun j => ([67, 69, 71, 73] : List Nat)[j]? := by
  funext j
  match j with
  | 0 => rfl
  | 1 => rfl
  | 2 => rfl
  | 3 => rfl
  | j + 4 => simp [va_up]
set_option maxRecDepth 100000 in
set_option maxHeartbeats 4000000 in
theorem j_h0 : x_h0 = j_hp true j_s0 j_t0 := by
  unfold x_h0
  rw [j_up3, j_up4]
  rfl
/-! ===== calls out of the law, the script read ===== -/
theorem j_Rsld {d L : Nat} {xs : Nat → Int32} {i : Int32} {c c' : xC} {P : Option Value × xH × Nat × Nat → Prop} (e : x_step M_law (some (L, xs)) c = x_in i L (some (.inl c'))) (h : ¬ (i < 0 ∨ L ≤ i.toNatClampNeg)) (kk : x_R x_mt (some (L, xs)) d M_law c' P) : x_R x_mt (some (L, xs)) d M_law c P :=
  x_R.step (e.trans (if_neg h)) kk
theorem j_RcSi {S : Option xS} {d : Nat} {M : xM} {pc k z : Nat} {l : xL} {st : List Value} {rest : List Value} {s : Bool} {σ τ σ' : j_G} {D ai : Nat} {vs : List Value} {oc : Option (Int32 × j_G)} {v : Int32} {P : Option Value × xH × Nat × Nat → Prop} (e : ∀ h : xH, x_step M S (pc, l, st, h, k, z) = some (.inr (.inl (ai, vs, rest)))) (hK : j_K s D ai vs σ oc j_Ri) (hD : D ≤ d) (ho : oc = some (v, σ')) (kk : x_R x_mt S (d + 1) M (pc + 3, l, .int v :: rest, j_hp s σ' τ, k, z) P) : x_R x_mt S (d + 1) M (pc, l, st, j_hp s σ τ, k, z) P := by
  obtain ⟨M', em, hc, n1, v1, σ1, h1, h2⟩ := hK d hD τ _ ho (fun v1 σ1 => v1 = some (.int v) ∧ σ1 = σ') ⟨rfl, rfl⟩
  have h3 : v1 = some (.int v) := h2.1
  have h4 : σ1 = σ' := h2.2
  rw [h3, h4] at h1
  exact j_Rc0 (e _) em hc h1 kk
theorem j_RcPi {S : Option xS} {d : Nat} {M : xM} {pc k z : Nat} {l : xL} {st : List Value} {rest : List Value} {s : Bool} {σ τ : j_G} {D ai : Nat} {vs : List Value} {oc : Option Int32} {v : Int32} {P : Option Value × xH × Nat × Nat → Prop} (e : ∀ h : xH, x_step M S (pc, l, st, h, k, z) = some (.inr (.inl (ai, vs, rest)))) (hK : j_K s D ai vs σ oc (j_Pi σ)) (hD : D ≤ d) (ho : oc = some v) (kk : x_R x_mt S (d + 1) M (pc + 3, l, .int v :: rest, j_hp s σ τ, k, z) P) : x_R x_mt S (d + 1) M (pc, l, st, j_hp s σ τ, k, z) P := by
  obtain ⟨M', em, hc, n1, v1, σ1, h1, h2⟩ := hK d hD τ _ ho (fun v1 σ1 => v1 = some (.int v) ∧ σ1 = σ) ⟨rfl, rfl⟩
  have h3 : v1 = some (.int v) := h2.1
  have h4 : σ1 = σ := h2.2
  rw [h3, h4] at h1
  exact j_Rc0 (e _) em hc h1 kk
theorem j_RcTi {S : Option xS} {d : Nat} {M : xM} {pc k z : Nat} {l : xL} {st : List Value} {rest : List Value} {s : Bool} {σ τ : j_G} {D ai : Nat} {vs : List Value} {x v : Int32} {P : Option Value × xH × Nat × Nat → Prop} (e : ∀ h : xH, x_step M S (pc, l, st, h, k, z) = some (.inr (.inl (ai, vs, rest)))) (hK : j_K s D ai vs σ (some x) (j_Pi σ)) (hD : D ≤ d) (ho : x = v) (kk : x_R x_mt S (d + 1) M (pc + 3, l, .int v :: rest, j_hp s σ τ, k, z) P) : x_R x_mt S (d + 1) M (pc, l, st, j_hp s σ τ, k, z) P :=
  j_RcPi e hK hD (congrArg some ho) kk
theorem j_RcSl {S : Option xS} {d : Nat} {M : xM} {pc k z : Nat} {l : xL} {st : List Value} {rest : List Value} {s : Bool} {σ τ σ' : j_G} {D ai : Nat} {vs : List Value} {oc : Option (Int64 × j_G)} {v : Int64} {P : Option Value × xH × Nat × Nat → Prop} (e : ∀ h : xH, x_step M S (pc, l, st, h, k, z) = some (.inr (.inl (ai, vs, rest)))) (hK : j_K s D ai vs σ oc j_Rl) (hD : D ≤ d) (ho : oc = some (v, σ')) (kk : x_R x_mt S (d + 1) M (pc + 3, l, .long v :: rest, j_hp s σ' τ, k, z) P) : x_R x_mt S (d + 1) M (pc, l, st, j_hp s σ τ, k, z) P := by
  obtain ⟨M', em, hc, n1, v1, σ1, h1, h2⟩ := hK d hD τ _ ho (fun v1 σ1 => v1 = some (.long v) ∧ σ1 = σ') ⟨rfl, rfl⟩
  have h3 : v1 = some (.long v) := h2.1
  have h4 : σ1 = σ' := h2.2
  rw [h3, h4] at h1
  exact j_Rc0 (e _) em hc h1 kk
theorem j_RcPl {S : Option xS} {d : Nat} {M : xM} {pc k z : Nat} {l : xL} {st : List Value} {rest : List Value} {s : Bool} {σ τ : j_G} {D ai : Nat} {vs : List Value} {oc : Option Int64} {v : Int64} {P : Option Value × xH × Nat × Nat → Prop} (e : ∀ h : xH, x_step M S (pc, l, st, h, k, z) = some (.inr (.inl (ai, vs, rest)))) (hK : j_K s D ai vs σ oc (j_Pl σ)) (hD : D ≤ d) (ho : oc = some v) (kk : x_R x_mt S (d + 1) M (pc + 3, l, .long v :: rest, j_hp s σ τ, k, z) P) : x_R x_mt S (d + 1) M (pc, l, st, j_hp s σ τ, k, z) P := by
  obtain ⟨M', em, hc, n1, v1, σ1, h1, h2⟩ := hK d hD τ _ ho (fun v1 σ1 => v1 = some (.long v) ∧ σ1 = σ) ⟨rfl, rfl⟩
  have h3 : v1 = some (.long v) := h2.1
  have h4 : σ1 = σ := h2.2
  rw [h3, h4] at h1
  exact j_Rc0 (e _) em hc h1 kk
theorem j_RcTl {S : Option xS} {d : Nat} {M : xM} {pc k z : Nat} {l : xL} {st : List Value} {rest : List Value} {s : Bool} {σ τ : j_G} {D ai : Nat} {vs : List Value} {x v : Int64} {P : Option Value × xH × Nat × Nat → Prop} (e : ∀ h : xH, x_step M S (pc, l, st, h, k, z) = some (.inr (.inl (ai, vs, rest)))) (hK : j_K s D ai vs σ (some x) (j_Pl σ)) (hD : D ≤ d) (ho : x = v) (kk : x_R x_mt S (d + 1) M (pc + 3, l, .long v :: rest, j_hp s σ τ, k, z) P) : x_R x_mt S (d + 1) M (pc, l, st, j_hp s σ τ, k, z) P :=
  j_RcPl e hK hD (congrArg some ho) kk
/-! a step of the law, its row found before -/
noncomputable def x_do (M : xM) (S : Option xS) (r : xR) (c : xC) : xO := match x_grp r.2.1 with
  | 1 => x_ins1 r.2.1 c.1 r.2.2.2.1 c.2.1 c.2.2.1 c.2.2.2.1 c.2.2.2.2.1 c.2.2.2.2.2
  | 2 => x_ins2 S r.2.1 c.1 r.2.2.2.1 r.2.2.2.2.1 c.2.1 c.2.2.1 c.2.2.2.1 c.2.2.2.2.1 c.2.2.2.2.2
  | 3 => x_ins3 r.2.1 c.1 r.2.2.2.1 r.2.2.2.2.1 c.2.1 c.2.2.1 c.2.2.2.1 c.2.2.2.2.1 c.2.2.2.2.2
  | _ => match x_ret M.2.2.2.2.1 r.2.1 c.2.2.1 with
    | some v => some (.inr (.inr v))
    | none => none
theorem x_step_do {M : xM} {S : Option xS} {r : xR} {c : xC} (er : x_row (x_rws M) c.1 = some r) : x_step M S c = x_do M S r c := by
  unfold x_step
  rw [show x_row M.2.2.2.2.2.2.2 c.1 = some r from er]
  rfl
theorem j_Lst {d L : Nat} {xs : Nat → Int32} {c c' : xC} {r : xR} {P : Option Value × xH × Nat × Nat → Prop} (er : x_row (x_rws M_law) c.1 = some r) (e : x_do M_law (some (L, xs)) r c = some (.inl c')) (kk : x_R x_mt (some (L, xs)) d M_law c' P) : x_R x_mt (some (L, xs)) d M_law c P :=
  x_R.step ((x_step_do er).trans e) kk
theorem j_Lsl {d L : Nat} {xs : Nat → Int32} {i : Int32} {c c' : xC} {r : xR} {P : Option Value × xH × Nat × Nat → Prop} (er : x_row (x_rws M_law) c.1 = some r) (e : x_do M_law (some (L, xs)) r c = x_in i L (some (.inl c'))) (h : ¬ (i < 0 ∨ L ≤ i.toNatClampNeg)) (kk : x_R x_mt (some (L, xs)) d M_law c' P) : x_R x_mt (some (L, xs)) d M_law c P :=
  x_R.step (((x_step_do er).trans e).trans (if_neg h)) kk
theorem j_Lsc {S : Option xS} {c : xC} {r : xR} {o : xO} (er : x_row (x_rws M_law) c.1 = some r) (e : x_do M_law S r c = o) : x_step M_law S c = o := (x_step_do er).trans e
