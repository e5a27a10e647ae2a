noncomputable def p_X12_bestOf_11 (l1 : Int32) (l2 : Int32) : Nat → Int32 → j_G → Option j_G
  | 0, _, _ => none
  | n + 1, l3, σ =>
    if l3 < (1452 : Int32) then (j_ix l3 1452 (
    j_lt (j_si σ 89 (l3).toNatClampNeg (1000000 : Int32)) fun σ1 =>
    p_X12_bestOf_11 l1 l2 n (l3 + (1 : Int32)) σ1)) else (some σ)

noncomputable def p_X12_bestOf_82 (l2 : Int32) (l3 : Int32) : Nat → Int32 → j_G → Option j_G
  | 0, _, _ => none
  | n + 1, l4, σ =>
    if l4 < (1452 : Int32) then (j_ix l4 1452 (
    j_ix l4 1452 (
    j_lt (j_si σ 90 (l4).toNatClampNeg (σ.1 89 (l4).toNatClampNeg)) fun σ1 =>
    p_X12_bestOf_82 l2 l3 n (l4 + (1 : Int32)) σ1))) else (some σ)

noncomputable def p_X12_bestOf_53 (l2 : Int32) : Nat → Int32 → j_G → Option j_G
  | 0, _, _ => none
  | n + 1, l3, σ =>
    if (l3 < (σ.1 75 18)) ∧ (l3 < l2) then (j_b1 (f_X12_inGame l3 (2 : Int32) σ) fun v1 =>
    j_b1 (if v1 = (1 : Int32) then (some σ) else (j_b1 (p_X12_bestOf_82 l2 l3 j_F (0 : Int32) σ) fun σ3 =>
    j_b1 (f_X12_inGame l3 (0 : Int32) σ3) fun v4 =>
    j_b1 (f_X12_inGame l3 (1 : Int32) σ3) fun v5 =>
    j_b1 (f_X12_mayHit l3 v4 v5 σ3) fun σ6 =>
    j_b1 (f_X12_inGame l3 (1 : Int32) σ6) fun v7 =>
    if ¬ v7 = (-1 : Int32) then (j_b1 (f_X12_inGame l3 (1 : Int32) σ6) fun v8 =>
    j_b1 (f_X12_inGame l3 (0 : Int32) σ6) fun v9 =>
    j_b1 (f_X12_mayHit l3 v8 v9 σ6) fun σ10 =>
    some σ10) else (some σ6))) fun σ2 =>
    p_X12_bestOf_53 l2 n (l3 + (1 : Int32)) σ2) else (some σ)

noncomputable def p_X12_bestOf_179 (l4 : Int32) (σ : j_G) : Nat → Int32 → Int32 → Option Int32
  | 0, _, _ => none
  | n + 1, l3, l5 =>
    if l5 < (121 : Int32) then (j_ix (f_X12_cell l4 l5) 1452 (
    j_lt (if (σ.1 89 ((f_X12_cell l4 l5)).toNatClampNeg) < (1000000 : Int32) then ((if l3 < l5 then l5 else l3)) else (l3)) fun v1 =>
    p_X12_bestOf_179 l4 σ n v1 (l5 + (1 : Int32)))) else (some l3)

noncomputable def p_X12_bestOf_167 (σ : j_G) : Nat → Int32 → Int32 → Option Int32
  | 0, _, _ => none
  | n + 1, l3, l4 =>
    j_b1 (f_X12_holes σ) fun v1 =>
    if l4 < v1 then (j_b1 (p_X12_bestOf_179 l4 σ j_F l3 (0 : Int32)) fun v2 =>
    p_X12_bestOf_167 σ n v2 (l4 + (1 : Int32))) else (some l3)

noncomputable def f_X12_bestOf (l1 : Int32) (l2 : Int32) (σ : j_G) : Option (Int32 × j_G) :=
  j_b1 (f_X12_lay σ) fun σ1 =>
  j_lt (j_si σ1 75 19 l1) fun σ2 =>
  j_b1 (p_X12_bestOf_11 l1 l2 j_F (0 : Int32) σ2) fun σ3 =>
  j_b1 (f_X12_of l1 (4 : Int32) σ3) fun v4 =>
  j_ix (f_X12_cell v4 (0 : Int32)) 1452 (
  j_lt (j_si σ3 89 ((f_X12_cell v4 (0 : Int32))).toNatClampNeg (0 : Int32)) fun σ5 =>
  j_b1 (p_X12_bestOf_53 l2 j_F (0 : Int32) σ5) fun σ6 =>
  j_b1 (p_X12_bestOf_167 σ6 j_F (0 : Int32) (0 : Int32)) fun v7 =>
  some (v7, σ6))
theorem l_X12_bestOf_11 {d : Nat} (hd : 4 ≤ d) (τ : j_G) (l1 : Int32) (l2 : Int32) : ∀ (n : Nat) (l3 : Int32) (σ : j_G), j_J false τ M_cX12_bestOf d 11 [some (.ref 75), some (.int l1), some (.int l2), some (.int l3), none, none] [] σ (p_X12_bestOf_11 l1 l2 n l3 σ) (fun r Q => j_Tr false τ M_cX12_bestOf d 35 [some (.ref 75), some (.int l1), some (.int l2), none, none, none] [] r Q) := by
  intro n
  induction n with
  | zero => intro l3 σ; exact j_none
  | succ n ih =>
    intro l3 σ
    unfold p_X12_bestOf_11
    refine j_iload_n (pc' := 12) rfl rfl rfl ?_
    refine j_aload_n (pc' := 13) rfl rfl rfl ?_
    refine j_gfr (pc' := 16) (x := 89) rfl rfl j_a75 rfl rfl ?_
    refine j_alen (pc' := 17) (v := (1452 : Int32)) rfl rfl j_a89 rfl ?_
    refine j_two (pT := 20) (pF := 35) (L1 := [some (.ref 75), some (.int l1), some (.int l2), some (.int l3), none, none]) (st1 := []) (fun o kT kF => ?_) (fun h1 => ?_) (fun h1 => ?_)
    · refine j_icge (t := 35) (pc' := 20) rfl rfl rfl (fun h2 => ?_) (fun h2 => ?_)
      · exact kF h2
      · exact kT h2
    · refine j_aload_n (pc' := 21) rfl rfl rfl ?_
      refine j_gfr (pc' := 24) (x := 89) rfl rfl j_a75 rfl rfl ?_
      refine j_iload_n (pc' := 25) rfl rfl rfl ?_
      refine j_ldc_w (pc' := 28) (x := (1000000 : Int32)) rfl rfl rfl ?_
      refine j_iast (pc' := 29) rfl rfl j_a89 (fun σ1 => ?_)
      refine j_iincx (pc' := 32) (y := (1 : Int32)) (L' := [some (.ref 75), some (.int l1), some (.int l2), some (.int (l3 + (1 : Int32))), none, none]) rfl rfl rfl rfl rfl ?_
      refine j_goto (t := 11) rfl rfl ?_
      exact ih (l3 + (1 : Int32)) σ1
    · refine j_wk [true, true, true, false, true, true] (L' := [some (.ref 75), some (.int l1), some (.int l2), none, none, none]) rfl ?_
      exact j_end (fun _ h => h)

theorem l_X12_bestOf_82 {d : Nat} (hd : 4 ≤ d) (τ : j_G) (l2 : Int32) (l3 : Int32) : ∀ (n : Nat) (l4 : Int32) (σ : j_G), j_J false τ M_cX12_bestOf d 82 [some (.ref 75), none, some (.int l2), some (.int l3), some (.int l4), none] [] σ (p_X12_bestOf_82 l2 l3 n l4 σ) (fun r Q => j_Tr false τ M_cX12_bestOf d 112 [some (.ref 75), none, some (.int l2), some (.int l3), none, none] [] r Q) := by
  intro n
  induction n with
  | zero => intro l4 σ; exact j_none
  | succ n ih =>
    intro l4 σ
    unfold p_X12_bestOf_82
    refine j_iload (pc' := 84) rfl rfl rfl ?_
    refine j_aload_n (pc' := 85) rfl rfl rfl ?_
    refine j_gfr (pc' := 88) (x := 89) rfl rfl j_a75 rfl rfl ?_
    refine j_alen (pc' := 89) (v := (1452 : Int32)) rfl rfl j_a89 rfl ?_
    refine j_two (pT := 92) (pF := 112) (L1 := [some (.ref 75), none, some (.int l2), some (.int l3), some (.int l4), none]) (st1 := []) (fun o kT kF => ?_) (fun h1 => ?_) (fun h1 => ?_)
    · refine j_icge (t := 112) (pc' := 92) rfl rfl rfl (fun h2 => ?_) (fun h2 => ?_)
      · exact kF h2
      · exact kT h2
    · refine j_aload_n (pc' := 93) rfl rfl rfl ?_
      refine j_gfr (pc' := 96) (x := 90) rfl rfl j_a75 rfl rfl ?_
      refine j_iload (pc' := 98) rfl rfl rfl ?_
      refine j_aload_n (pc' := 99) rfl rfl rfl ?_
      refine j_gfr (pc' := 102) (x := 89) rfl rfl j_a75 rfl rfl ?_
      refine j_iload (pc' := 104) rfl rfl rfl ?_
      refine j_iald (pc' := 105) rfl rfl j_a89 ?_
      refine j_iast (pc' := 106) rfl rfl j_a90 (fun σ1 => ?_)
      refine j_iincx (pc' := 109) (y := (1 : Int32)) (L' := [some (.ref 75), none, some (.int l2), some (.int l3), some (.int (l4 + (1 : Int32))), none]) rfl rfl rfl rfl rfl ?_
      refine j_goto (t := 82) rfl rfl ?_
      exact ih (l4 + (1 : Int32)) σ1
    · refine j_wk [true, true, true, true, false, true] (L' := [some (.ref 75), none, some (.int l2), some (.int l3), none, none]) rfl ?_
      exact j_end (fun _ h => h)

theorem l_X12_bestOf_53 {d : Nat} (hd : 4 ≤ d) (τ : j_G) (l2 : Int32) : ∀ (n : Nat) (l3 : Int32) (σ : j_G), j_J false τ M_cX12_bestOf d 53 [some (.ref 75), none, some (.int l2), some (.int l3), none, none] [] σ (p_X12_bestOf_53 l2 n l3 σ) (fun r Q => j_Tr false τ M_cX12_bestOf d 162 [some (.ref 75), none, none, none, none, none] [] r Q) := by
  intro n
  induction n with
  | zero => intro l3 σ; exact j_none
  | succ n ih =>
    intro l3 σ
    unfold p_X12_bestOf_53
    refine j_iload_n (pc' := 54) rfl rfl rfl ?_
    refine j_aload_n (pc' := 55) rfl rfl rfl ?_
    refine j_gfi (pc' := 58) rfl rfl j_a75 rfl ?_
    refine j_two (pT := 66) (pF := 162) (L1 := [some (.ref 75), none, some (.int l2), some (.int l3), none, none]) (st1 := []) (fun o kT kF => ?_) (fun h5 => ?_) (fun h5 => ?_)
    · refine j_icge (t := 162) (pc' := 61) rfl rfl rfl (fun h6 => ?_) (fun h6 => ?_)
      · exact kF (fun z => h6 z.1)
      · refine j_iload_n (pc' := 62) rfl rfl rfl ?_
        refine j_iload_n (pc' := 63) rfl rfl rfl ?_
        refine j_icge (t := 162) (pc' := 66) rfl rfl rfl (fun h7 => ?_) (fun h7 => ?_)
        · exact kF (fun z => (h7) z.2)
        · exact kT (⟨h6, h7⟩)
    · refine j_aload_n (pc' := 67) rfl rfl rfl ?_
      refine j_iload_n (pc' := 68) rfl rfl rfl ?_
      refine j_iconst (pc' := 69) (x := (2 : Int32)) rfl rfl rfl ?_
      refine j_callPi (pc' := 72) (ai := 238) (vs := [.ref 75, .int l3, .int (2 : Int32)]) (rest := []) rfl rfl (fun _ _ => rfl) (c_X12_inGame l3 (2 : Int32) σ) (j_dd rfl hd) rfl (fun v1 => ?_)
      refine j_iconst (pc' := 73) (x := (1 : Int32)) rfl rfl rfl ?_
      refine j_q1 (Φl := (fun r Q => j_Tr false τ M_cX12_bestOf d 156 [some (.ref 75), none, some (.int l2), some (.int l3), none, none] [] r Q)) ?_ (fun σ2 => ?_)
      · refine j_two (pT := 76) (pF := 79) (L1 := [some (.ref 75), none, some (.int l2), some (.int l3), none, none]) (st1 := []) (fun o kT kF => ?_) (fun h3 => ?_) (fun h3 => ?_)
        · refine j_icne (t := 79) (pc' := 76) rfl rfl rfl (fun h4 => ?_) (fun h4 => ?_)
          · exact kF h4
          · exact kT h4
        · refine j_goto (t := 156) rfl rfl ?_
          exact j_end (fun _ h => h)
        · refine j_iconst (pc' := 80) (x := (0 : Int32)) rfl rfl rfl ?_
          refine j_istore (pc' := 82) (L' := [some (.ref 75), none, some (.int l2), some (.int l3), some (.int (0 : Int32)), none]) rfl rfl rfl ?_
          refine j_q1 (l_X12_bestOf_82 hd τ l2 l3 j_F (0 : Int32) σ) (fun σ3 => ?_)
          show j_J false τ M_cX12_bestOf d 112 [some (.ref 75), none, some (.int l2), some (.int l3), none, none] [] σ3 _ _
          refine j_aload_n (pc' := 113) rfl rfl rfl ?_
          refine j_iload_n (pc' := 114) rfl rfl rfl ?_
          refine j_aload_n (pc' := 115) rfl rfl rfl ?_
          refine j_iload_n (pc' := 116) rfl rfl rfl ?_
          refine j_iconst (pc' := 117) (x := (0 : Int32)) rfl rfl rfl ?_
          refine j_callPi (pc' := 120) (ai := 238) (vs := [.ref 75, .int l3, .int (0 : Int32)]) (rest := [.int l3, .ref 75]) rfl rfl (fun _ _ => rfl) (c_X12_inGame l3 (0 : Int32) σ3) (j_dd rfl hd) rfl (fun v4 => ?_)
          refine j_aload_n (pc' := 121) rfl rfl rfl ?_
          refine j_iload_n (pc' := 122) rfl rfl rfl ?_
          refine j_iconst (pc' := 123) (x := (1 : Int32)) rfl rfl rfl ?_
          refine j_callPi (pc' := 126) (ai := 238) (vs := [.ref 75, .int l3, .int (1 : Int32)]) (rest := [.int v4, .int l3, .ref 75]) rfl rfl (fun _ _ => rfl) (c_X12_inGame l3 (1 : Int32) σ3) (j_dd rfl hd) rfl (fun v5 => ?_)
          refine j_callRv (pc' := 129) (ai := 269) (vs := [.ref 75, .int l3, .int v4, .int v5]) (rest := []) rfl rfl (fun _ _ => rfl) (c_X12_mayHit l3 v4 v5 σ3) (j_dd rfl hd) rfl (fun σ6 => ?_)
          refine j_aload_n (pc' := 130) rfl rfl rfl ?_
          refine j_iload_n (pc' := 131) rfl rfl rfl ?_
          refine j_iconst (pc' := 132) (x := (1 : Int32)) rfl rfl rfl ?_
          refine j_callPi (pc' := 135) (ai := 238) (vs := [.ref 75, .int l3, .int (1 : Int32)]) (rest := []) rfl rfl (fun _ _ => rfl) (c_X12_inGame l3 (1 : Int32) σ6) (j_dd rfl hd) rfl (fun v7 => ?_)
          refine j_iconst (pc' := 136) (x := (-1 : Int32)) rfl rfl rfl ?_
          refine j_two (pT := 139) (pF := 156) (L1 := [some (.ref 75), none, some (.int l2), some (.int l3), none, none]) (st1 := []) (fun o kT kF => ?_) (fun h1 => ?_) (fun h1 => ?_)
          · refine j_iceq (t := 156) (pc' := 139) rfl rfl rfl (fun h2 => ?_) (fun h2 => ?_)
            · exact kF (fun z => z h2)
            · exact kT h2
          · refine j_aload_n (pc' := 140) rfl rfl rfl ?_
            refine j_iload_n (pc' := 141) rfl rfl rfl ?_
            refine j_aload_n (pc' := 142) rfl rfl rfl ?_
            refine j_iload_n (pc' := 143) rfl rfl rfl ?_
            refine j_iconst (pc' := 144) (x := (1 : Int32)) rfl rfl rfl ?_
            refine j_callPi (pc' := 147) (ai := 238) (vs := [.ref 75, .int l3, .int (1 : Int32)]) (rest := [.int l3, .ref 75]) rfl rfl (fun _ _ => rfl) (c_X12_inGame l3 (1 : Int32) σ6) (j_dd rfl hd) rfl (fun v8 => ?_)
            refine j_aload_n (pc' := 148) rfl rfl rfl ?_
            refine j_iload_n (pc' := 149) rfl rfl rfl ?_
            refine j_iconst (pc' := 150) (x := (0 : Int32)) rfl rfl rfl ?_
            refine j_callPi (pc' := 153) (ai := 238) (vs := [.ref 75, .int l3, .int (0 : Int32)]) (rest := [.int v8, .int l3, .ref 75]) rfl rfl (fun _ _ => rfl) (c_X12_inGame l3 (0 : Int32) σ6) (j_dd rfl hd) rfl (fun v9 => ?_)
            refine j_callRv (pc' := 156) (ai := 269) (vs := [.ref 75, .int l3, .int v8, .int v9]) (rest := []) rfl rfl (fun _ _ => rfl) (c_X12_mayHit l3 v8 v9 σ6) (j_dd rfl hd) rfl (fun σ10 => ?_)
            exact j_end (fun _ h => h)
          · exact j_end (fun _ h => h)
      show j_J false τ M_cX12_bestOf d 156 [some (.ref 75), none, some (.int l2), some (.int l3), none, none] [] σ2 _ _
      refine j_iincx (pc' := 159) (y := (1 : Int32)) (L' := [some (.ref 75), none, some (.int l2), some (.int (l3 + (1 : Int32))), none, none]) rfl rfl rfl rfl rfl ?_
      refine j_goto (t := 53) rfl rfl ?_
      exact ih (l3 + (1 : Int32)) σ2
    · refine j_wk [true, true, false, false, true, true] (L' := [some (.ref 75), none, none, none, none, none]) rfl ?_
      exact j_end (fun _ h => h)

theorem l_X12_bestOf_179 {d : Nat} (hd : 4 ≤ d) (τ : j_G) (l4 : Int32) (σ : j_G) : ∀ (n : Nat) (l3 : Int32) (l5 : Int32), j_J false τ M_cX12_bestOf d 179 [some (.ref 75), none, none, some (.int l3), some (.int l4), some (.int l5)] [] σ (p_X12_bestOf_179 l4 σ n l3 l5) (fun r Q => j_Tr false τ M_cX12_bestOf d 221 [some (.ref 75), none, none, some (.int r), some (.int l4), none] [] σ Q) := by
  intro n
  induction n with
  | zero => intro l3 l5; exact j_none
  | succ n ih =>
    intro l3 l5
    unfold p_X12_bestOf_179
    refine j_iload (pc' := 181) rfl rfl rfl ?_
    refine j_bipush (pc' := 183) (x := (121 : Int32)) rfl rfl rfl ?_
    refine j_two (pT := 186) (pF := 221) (L1 := [some (.ref 75), none, none, some (.int l3), some (.int l4), some (.int l5)]) (st1 := []) (fun o kT kF => ?_) (fun h3 => ?_) (fun h3 => ?_)
    · refine j_icge (t := 221) (pc' := 186) rfl rfl rfl (fun h4 => ?_) (fun h4 => ?_)
      · exact kF h4
      · exact kT h4
    · refine j_aload_n (pc' := 187) rfl rfl rfl ?_
      refine j_gfr (pc' := 190) (x := 89) rfl rfl j_a75 rfl rfl ?_
      refine j_iload (pc' := 192) rfl rfl rfl ?_
      refine j_iload (pc' := 194) rfl rfl rfl ?_
      refine j_callTi (pc' := 197) (ai := 266) (vs := [.int l4, .int l5]) (rest := [.ref 89]) rfl rfl (fun _ _ => rfl) (c_X12_cell l4 l5 σ) (j_dd rfl hd) rfl ?_
      refine j_iald (pc' := 198) rfl rfl j_a89 ?_
      refine j_ldc_w (pc' := 201) (x := (1000000 : Int32)) rfl rfl rfl ?_
      refine j_ql (Φl := (fun r Q => j_Tr false τ M_cX12_bestOf d 214 [some (.ref 75), none, none, none, some (.int l4), some (.int l5)] [.int r] σ Q)) ?_ (fun v1 => ?_)
      · refine j_twoT (pT := 204) (pF := 213) (L1 := [some (.ref 75), none, none, some (.int l3), some (.int l4), some (.int l5)]) (st1 := []) (fun o kT kF => ?_) (fun h1 => ?_) (fun h1 => ?_)
        · refine j_icge (t := 213) (pc' := 204) rfl rfl rfl (fun h2 => ?_) (fun h2 => ?_)
          · exact kF h2
          · exact kT h2
        · refine j_iload_n (pc' := 205) rfl rfl rfl ?_
          refine j_iload (pc' := 207) rfl rfl rfl ?_
          refine j_max (pc' := 210) rfl rfl rfl ?_
          refine j_goto (t := 214) rfl rfl ?_
          refine j_wk [true, true, true, false, true, true] (L' := [some (.ref 75), none, none, none, some (.int l4), some (.int l5)]) rfl ?_
          exact j_end (fun _ h => h)
        · refine j_iload_n (pc' := 214) rfl rfl rfl ?_
          refine j_wk [true, true, true, false, true, true] (L' := [some (.ref 75), none, none, none, some (.int l4), some (.int l5)]) rfl ?_
          exact j_end (fun _ h => h)
      show j_J false τ M_cX12_bestOf d 214 [some (.ref 75), none, none, none, some (.int l4), some (.int l5)] [.int v1] σ _ _
      refine j_istore_n (pc' := 215) (L' := [some (.ref 75), none, none, some (.int v1), some (.int l4), some (.int l5)]) rfl rfl rfl ?_
      refine j_iincx (pc' := 218) (y := (1 : Int32)) (L' := [some (.ref 75), none, none, some (.int v1), some (.int l4), some (.int (l5 + (1 : Int32)))]) rfl rfl rfl rfl rfl ?_
      refine j_goto (t := 179) rfl rfl ?_
      exact ih v1 (l5 + (1 : Int32))
    · refine j_wk [true, true, true, true, true, false] (L' := [some (.ref 75), none, none, some (.int l3), some (.int l4), none]) rfl ?_
      exact j_end (fun _ h => h)

theorem l_X12_bestOf_167 {d : Nat} (hd : 4 ≤ d) (τ : j_G) (σ : j_G) : ∀ (n : Nat) (l3 : Int32) (l4 : Int32), j_J false τ M_cX12_bestOf d 167 [some (.ref 75), none, none, some (.int l3), some (.int l4), none] [] σ (p_X12_bestOf_167 σ n l3 l4) (fun r Q => j_Tr false τ M_cX12_bestOf d 227 [none, none, none, some (.int r), none, none] [] σ Q) := by
  intro n
  induction n with
  | zero => intro l3 l4; exact j_none
  | succ n ih =>
    intro l3 l4
    unfold p_X12_bestOf_167
    refine j_iload (pc' := 169) rfl rfl rfl ?_
    refine j_aload_n (pc' := 170) rfl rfl rfl ?_
    refine j_callPi (pc' := 173) (ai := 200) (vs := [.ref 75]) (rest := [.int l4]) rfl rfl (fun _ _ => rfl) (c_X12_holes  σ) (j_dd rfl hd) rfl (fun v1 => ?_)
    refine j_two (pT := 176) (pF := 227) (L1 := [some (.ref 75), none, none, some (.int l3), some (.int l4), none]) (st1 := []) (fun o kT kF => ?_) (fun h1 => ?_) (fun h1 => ?_)
    · refine j_icge (t := 227) (pc' := 176) rfl rfl rfl (fun h2 => ?_) (fun h2 => ?_)
      · exact kF h2
      · exact kT h2
    · refine j_iconst (pc' := 177) (x := (0 : Int32)) rfl rfl rfl ?_
      refine j_istore (pc' := 179) (L' := [some (.ref 75), none, none, some (.int l3), some (.int l4), some (.int (0 : Int32))]) rfl rfl rfl ?_
      refine j_q1 (l_X12_bestOf_179 hd τ l4 σ j_F l3 (0 : Int32)) (fun v2 => ?_)
      show j_J false τ M_cX12_bestOf d 221 [some (.ref 75), none, none, some (.int v2), some (.int l4), none] [] σ _ _
      refine j_iincx (pc' := 224) (y := (1 : Int32)) (L' := [some (.ref 75), none, none, some (.int v2), some (.int (l4 + (1 : Int32))), none]) rfl rfl rfl rfl rfl ?_
      refine j_goto (t := 167) rfl rfl ?_
      exact ih v2 (l4 + (1 : Int32))
    · refine j_wk [false, true, true, true, false, true] (L' := [none, none, none, some (.int l3), none, none]) rfl ?_
      exact j_end (fun _ h => h)

theorem c_X12_bestOf (l1 : Int32) (l2 : Int32) (σ : j_G) : j_K false 4 270 [.ref 75, .int l1, .int l2] σ (f_X12_bestOf l1 l2 σ) j_Ri := by
  refine j_mkK (M := M_cX12_bestOf) (L := [some (.ref 75), some (.int l1), some (.int l2), none, none, none]) (m := 3) t_270 rfl (j_rcvO j_a75 rfl) rfl (fun d hd τ => ?_)
  unfold f_X12_bestOf
  refine j_aload_n (pc' := 1) rfl rfl rfl ?_
  refine j_callRv (pc' := 4) (ai := 237) (vs := [.ref 75]) (rest := []) rfl rfl (fun _ _ => rfl) (c_X12_lay  σ) (j_dd rfl hd) rfl (fun σ1 => ?_)
  refine j_aload_n (pc' := 5) rfl rfl rfl ?_
  refine j_iload_n (pc' := 6) rfl rfl rfl ?_
  refine j_pfi (pc' := 9) rfl rfl j_a75 rfl rfl (fun σ2 => ?_)
  refine j_iconst (pc' := 10) (x := (0 : Int32)) rfl rfl rfl ?_
  refine j_istore_n (pc' := 11) (L' := [some (.ref 75), some (.int l1), some (.int l2), some (.int (0 : Int32)), none, none]) rfl rfl rfl ?_
  refine j_q1 (l_X12_bestOf_11 hd τ l1 l2 j_F (0 : Int32) σ2) (fun σ3 => ?_)
  show j_J false τ M_cX12_bestOf d 35 [some (.ref 75), some (.int l1), some (.int l2), none, none, none] [] σ3 _ _
  refine j_aload_n (pc' := 36) rfl rfl rfl ?_
  refine j_gfr (pc' := 39) (x := 89) rfl rfl j_a75 rfl rfl ?_
  refine j_aload_n (pc' := 40) rfl rfl rfl ?_
  refine j_iload_n (pc' := 41) rfl rfl rfl ?_
  refine j_iconst (pc' := 42) (x := (4 : Int32)) rfl rfl rfl ?_
  refine j_callPi (pc' := 45) (ai := 207) (vs := [.ref 75, .int l1, .int (4 : Int32)]) (rest := [.ref 89]) rfl rfl (fun _ _ => rfl) (c_X12_of l1 (4 : Int32) σ3) (j_dd rfl hd) rfl (fun v4 => ?_)
  refine j_iconst (pc' := 46) (x := (0 : Int32)) rfl rfl rfl ?_
  refine j_callTi (pc' := 49) (ai := 266) (vs := [.int v4, .int (0 : Int32)]) (rest := [.ref 89]) rfl rfl (fun _ _ => rfl) (c_X12_cell v4 (0 : Int32) σ3) (j_dd rfl hd) rfl ?_
  refine j_iconst (pc' := 50) (x := (0 : Int32)) rfl rfl rfl ?_
  refine j_iast (pc' := 51) rfl rfl j_a89 (fun σ5 => ?_)
  refine j_iconst (pc' := 52) (x := (0 : Int32)) rfl rfl rfl ?_
  refine j_istore_n (pc' := 53) (L' := [some (.ref 75), some (.int l1), some (.int l2), some (.int (0 : Int32)), none, none]) rfl rfl rfl ?_
  refine j_wk [true, false, true, true, true, true] (L' := [some (.ref 75), none, some (.int l2), some (.int (0 : Int32)), none, none]) rfl ?_
  refine j_q1 (l_X12_bestOf_53 hd τ l2 j_F (0 : Int32) σ5) (fun σ6 => ?_)
  show j_J false τ M_cX12_bestOf d 162 [some (.ref 75), none, none, none, none, none] [] σ6 _ _
  refine j_iconst (pc' := 163) (x := (0 : Int32)) rfl rfl rfl ?_
  refine j_istore_n (pc' := 164) (L' := [some (.ref 75), none, none, some (.int (0 : Int32)), none, none]) rfl rfl rfl ?_
  refine j_iconst (pc' := 165) (x := (0 : Int32)) rfl rfl rfl ?_
  refine j_istore (pc' := 167) (L' := [some (.ref 75), none, none, some (.int (0 : Int32)), some (.int (0 : Int32)), none]) rfl rfl rfl ?_
  refine j_q1 (l_X12_bestOf_167 hd τ σ6 j_F (0 : Int32) (0 : Int32)) (fun v7 => ?_)
  show j_J false τ M_cX12_bestOf d 227 [none, none, none, some (.int v7), none, none] [] σ6 _ _
  refine j_iload_n (pc' := 228) rfl rfl rfl ?_
  exact j_ret rfl rfl rfl (fun _ h => h)

noncomputable def f_X12_best (l1 : Int32) (σ : j_G) : Option (Int32 × j_G) :=
  j_b1 (f_X12_isPlayer l1 σ) fun v1 =>
  if ¬ v1 = 0 then (j_b2 (f_X12_bestOf l1 (60 : Int32) σ) fun v3 σ2 =>
  some (v3, σ2)) else (some ((-2 : Int32), σ))
theorem c_X12_best (l1 : Int32) (σ : j_G) : j_K false 5 271 [.ref 75, .int l1] σ (f_X12_best l1 σ) j_Ri := by
  refine j_mkK (M := M_cX12_best) (L := [some (.ref 75), some (.int l1)]) (m := 0) t_271 rfl (j_rcvO j_a75 rfl) rfl (fun d hd τ => ?_)
  unfold f_X12_best
  refine j_aload_n (pc' := 1) rfl rfl rfl ?_
  refine j_iload_n (pc' := 2) rfl rfl rfl ?_
  refine j_callPi (pc' := 5) (ai := 205) (vs := [.ref 75, .int l1]) (rest := []) rfl rfl (fun _ _ => rfl) (c_X12_isPlayer l1 σ) (j_dd rfl hd) rfl (fun v1 => ?_)
  refine j_two (pT := 8) (pF := 18) (L1 := [some (.ref 75), some (.int l1)]) (st1 := []) (fun o kT kF => ?_) (fun h1 => ?_) (fun h1 => ?_)
  · refine j_ifeq (t := 18) (pc' := 8) rfl rfl rfl (fun h2 => ?_) (fun h2 => ?_)
    · exact kF (fun z => z h2)
    · exact kT h2
  · refine j_aload_n (pc' := 9) rfl rfl rfl ?_
    refine j_iload_n (pc' := 10) rfl rfl rfl ?_
    refine j_bipush (pc' := 12) (x := (60 : Int32)) rfl rfl rfl ?_
    refine j_callRi (pc' := 15) (ai := 270) (vs := [.ref 75, .int l1, .int (60 : Int32)]) (rest := []) rfl rfl (fun _ _ => rfl) (c_X12_bestOf l1 (60 : Int32) σ) (j_dd rfl hd) rfl (fun v3 σ2 => ?_)
    refine j_goto (t := 20) rfl rfl ?_
    exact j_ret rfl rfl rfl (fun _ h => h)
  · refine j_bipush (pc' := 20) (x := (-2 : Int32)) rfl rfl rfl ?_
    exact j_ret rfl rfl rfl (fun _ h => h)

noncomputable def f_X12_ahead (l1 : Int32) (l2 : Int32) (σ : j_G) : Option (Int32 × j_G) :=
  j_b1 (f_X12_isPlayer l1 σ) fun v1 =>
  if (¬ v1 = 0) ∧ (¬ (f_X12_in (l2).toInt64 (0 : Int64) (60 : Int64)) = 0) then (j_b2 (f_X12_bestOf l1 l2 σ) fun v3 σ2 =>
  some (v3, σ2)) else (some ((-2 : Int32), σ))
theorem c_X12_ahead (l1 : Int32) (l2 : Int32) (σ : j_G) : j_K false 5 272 [.ref 75, .int l1, .int l2] σ (f_X12_ahead l1 l2 σ) j_Ri := by
  refine j_mkK (M := M_cX12_ahead) (L := [some (.ref 75), some (.int l1), some (.int l2)]) (m := 0) t_272 rfl (j_rcvO j_a75 rfl) rfl (fun d hd τ => ?_)
  unfold f_X12_ahead
  refine j_aload_n (pc' := 1) rfl rfl rfl ?_
  refine j_iload_n (pc' := 2) rfl rfl rfl ?_
  refine j_callPi (pc' := 5) (ai := 205) (vs := [.ref 75, .int l1]) (rest := []) rfl rfl (fun _ _ => rfl) (c_X12_isPlayer l1 σ) (j_dd rfl hd) rfl (fun v1 => ?_)
  refine j_two (pT := 20) (pF := 29) (L1 := [some (.ref 75), some (.int l1), some (.int l2)]) (st1 := []) (fun o kT kF => ?_) (fun h1 => ?_) (fun h1 => ?_)
  · refine j_ifeq (t := 29) (pc' := 8) rfl rfl rfl (fun h2 => ?_) (fun h2 => ?_)
    · exact kF (fun z => z.1 h2)
    · refine j_iload_n (pc' := 9) rfl rfl rfl ?_
      refine j_i2l (pc' := 10) rfl rfl ?_
      refine j_lconst (pc' := 11) (x := (0 : Int64)) rfl rfl rfl ?_
      refine j_ldc2_w (pc' := 14) (x := (60 : Int64)) rfl rfl rfl ?_
      refine j_callTi (pc' := 17) (ai := 196) (vs := [.long (l2).toInt64, .long (0 : Int64), .long (60 : Int64)]) (rest := []) rfl rfl (fun _ _ => rfl) (c_X12_in (l2).toInt64 (0 : Int64) (60 : Int64) σ) (j_dd rfl hd) rfl ?_
      refine j_ifeq (t := 29) (pc' := 20) rfl rfl rfl (fun h3 => ?_) (fun h3 => ?_)
      · exact kF (fun z => (fun z => z h3) z.2)
      · exact kT (⟨h2, h3⟩)
  · refine j_aload_n (pc' := 21) rfl rfl rfl ?_
    refine j_iload_n (pc' := 22) rfl rfl rfl ?_
    refine j_iload_n (pc' := 23) rfl rfl rfl ?_
    refine j_callRi (pc' := 26) (ai := 270) (vs := [.ref 75, .int l1, .int l2]) (rest := []) rfl rfl (fun _ _ => rfl) (c_X12_bestOf l1 l2 σ) (j_dd rfl hd) rfl (fun v3 σ2 => ?_)
    refine j_goto (t := 31) rfl rfl ?_
    exact j_ret rfl rfl rfl (fun _ h => h)
  · refine j_bipush (pc' := 31) (x := (-2 : Int32)) rfl rfl rfl ?_
    exact j_ret rfl rfl rfl (fun _ h => h)

noncomputable def f_X11_hitsKnowing (l1 : Int32) (σ : j_G) : Option (Int32 × j_G) :=
  j_lt (j_si σ 28 3 l1) fun σ1 =>
  j_b2 (f_X9_good 30 28 22 31 32 25 23 24 26 33 34 (-1 : Int32) σ1) fun v3 σ2 =>
  some (v3, σ2)
theorem c_X11_hitsKnowing (l1 : Int32) (σ : j_G) : j_K true 5 188 [.ref 0, .int l1] σ (f_X11_hitsKnowing l1 σ) j_Ri := by
  refine j_mkK (M := M_cX11_hitsKnowing) (L := [some (.ref 0), some (.int l1)]) (m := 0) t_188 rfl (j_rcvO j_a0 rfl) rfl (fun d hd τ => ?_)
  unfold f_X11_hitsKnowing
  refine j_aload_n (pc' := 1) rfl rfl rfl ?_
  refine j_gfr (pc' := 4) (x := 28) rfl rfl j_a0 rfl rfl ?_
  refine j_iload_n (pc' := 5) rfl rfl rfl ?_
  refine j_pfi (pc' := 8) rfl rfl j_a28 rfl rfl (fun σ1 => ?_)
  refine j_aload_n (pc' := 9) rfl rfl rfl ?_
  refine j_gfr (pc' := 12) (x := 30) rfl rfl j_a0 rfl rfl ?_
  refine j_aload_n (pc' := 13) rfl rfl rfl ?_
  refine j_gfr (pc' := 16) (x := 1) rfl rfl j_a0 rfl rfl ?_
  refine j_aload_n (pc' := 17) rfl rfl rfl ?_
  refine j_gfr (pc' := 20) (x := 22) rfl rfl j_a0 rfl rfl ?_
  refine j_aload_n (pc' := 21) rfl rfl rfl ?_
  refine j_gfr (pc' := 24) (x := 28) rfl rfl j_a0 rfl rfl ?_
  refine j_iconst (pc' := 25) (x := (-1 : Int32)) rfl rfl rfl ?_
  refine j_callRi (pc' := 28) (ai := 100) (vs := [.ref 30, .ref 1, .ref 22, .ref 28, .int (-1 : Int32)]) (rest := []) rfl rfl (fun _ _ => rfl) (c_X9_good_30_1_22_28 (-1 : Int32) σ1) (j_dd rfl hd) rfl (fun v3 σ2 => ?_)
  exact j_ret rfl rfl rfl (fun _ h => h)

noncomputable def f_X11_learns (l1 : Int32) (l2 : Int32) (σ : j_G) : Option (Int32 × j_G) :=
  if (¬ l2 < 0) ∧ (¬ (9 : Int32) < l2) then (j_b2 (f_X11_makeReady l1 σ) fun v2 σ1 =>
  if v2 = 0 then (some ((-2 : Int32), σ1)) else (j_b2 (f_X11_hitsKnowing l2 σ1) fun v4 σ3 =>
  some (v4, σ3))) else (some ((-2 : Int32), σ))
theorem c_X11_learns (l1 : Int32) (l2 : Int32) (σ : j_G) : j_K true 6 135 [.ref 0, .int l1, .int l2] σ (f_X11_learns l1 l2 σ) j_Ri := by
  refine j_mkK (M := M_cX11_learns) (L := [some (.ref 0), some (.int l1), some (.int l2)]) (m := 0) t_135 rfl (j_rcvO j_a0 rfl) rfl (fun d hd τ => ?_)
  unfold f_X11_learns
  refine j_iload_n (pc' := 1) rfl rfl rfl ?_
  refine j_two (pT := 10) (pF := 18) (L1 := [some (.ref 0), some (.int l1), some (.int l2)]) (st1 := []) (fun o kT kF => ?_) (fun h3 => ?_) (fun h3 => ?_)
  · refine j_iflt (t := 18) (pc' := 4) rfl rfl rfl (fun h4 => ?_) (fun h4 => ?_)
    · exact kF (fun z => z.1 h4)
    · refine j_iload_n (pc' := 5) rfl rfl rfl ?_
      refine j_bipush (pc' := 7) (x := (9 : Int32)) rfl rfl rfl ?_
      refine j_icgt (t := 18) (pc' := 10) rfl rfl rfl (fun h5 => ?_) (fun h5 => ?_)
      · exact kF (fun z => (fun z => z h5) z.2)
      · exact kT (⟨h4, h5⟩)
  · refine j_aload_n (pc' := 11) rfl rfl rfl ?_
    refine j_iload_n (pc' := 12) rfl rfl rfl ?_
    refine j_callRi (pc' := 15) (ai := 186) (vs := [.ref 0, .int l1]) (rest := []) rfl rfl (fun _ _ => rfl) (c_X11_makeReady l1 σ) (j_dd rfl hd) rfl (fun v2 σ1 => ?_)
    refine j_two (pT := 18) (pF := 21) (L1 := [some (.ref 0), some (.int l1), some (.int l2)]) (st1 := []) (fun o kT kF => ?_) (fun h1 => ?_) (fun h1 => ?_)
    · refine j_ifne (t := 21) (pc' := 18) rfl rfl rfl (fun h2 => ?_) (fun h2 => ?_)
      · exact kF h2
      · exact kT h2
    · refine j_bipush (pc' := 20) (x := (-2 : Int32)) rfl rfl rfl ?_
      exact j_ret rfl rfl rfl (fun _ h => h)
    · refine j_aload_n (pc' := 22) rfl rfl rfl ?_
      refine j_iload_n (pc' := 23) rfl rfl rfl ?_
      refine j_callRi (pc' := 26) (ai := 188) (vs := [.ref 0, .int l2]) (rest := []) rfl rfl (fun _ _ => rfl) (c_X11_hitsKnowing l2 σ1) (j_dd rfl hd) rfl (fun v4 σ3 => ?_)
      exact j_ret rfl rfl rfl (fun _ h => h)
  · refine j_bipush (pc' := 20) (x := (-2 : Int32)) rfl rfl rfl ?_
    exact j_ret rfl rfl rfl (fun _ h => h)

noncomputable def f_X12_learnsBy (l1 : Int32) (l2 : Int32) (σ : j_G) : Option (Int32 × j_G) :=
  j_b1 (f_X12_asTold l1 σ) fun σ1 =>
  j_lt (j_si σ1 75 21 l2) fun σ2 =>
  j_b1 (f_X12_run σ2) fun σ3 =>
  some ((σ3.1 75 29), σ3)
theorem c_X12_learnsBy (l1 : Int32) (l2 : Int32) (σ : j_G) : j_K false 5 273 [.ref 75, .int l1, .int l2] σ (f_X12_learnsBy l1 l2 σ) j_Ri := by
  refine j_mkK (M := M_cX12_learnsBy) (L := [some (.ref 75), some (.int l1), some (.int l2)]) (m := 0) t_273 rfl (j_rcvO j_a75 rfl) rfl (fun d hd τ => ?_)
  unfold f_X12_learnsBy
  refine j_aload_n (pc' := 1) rfl rfl rfl ?_
  refine j_iload_n (pc' := 2) rfl rfl rfl ?_
  refine j_callRv (pc' := 5) (ai := 252) (vs := [.ref 75, .int l1]) (rest := []) rfl rfl (fun _ _ => rfl) (c_X12_asTold l1 σ) (j_dd rfl hd) rfl (fun σ1 => ?_)
  refine j_aload_n (pc' := 6) rfl rfl rfl ?_
  refine j_iload_n (pc' := 7) rfl rfl rfl ?_
  refine j_pfi (pc' := 10) rfl rfl j_a75 rfl rfl (fun σ2 => ?_)
  refine j_aload_n (pc' := 11) rfl rfl rfl ?_
  refine j_callRv (pc' := 14) (ai := 258) (vs := [.ref 75]) (rest := []) rfl rfl (fun _ _ => rfl) (c_X12_run  σ2) (j_dd rfl hd) rfl (fun σ3 => ?_)
  refine j_aload_n (pc' := 15) rfl rfl rfl ?_
  refine j_gfi (pc' := 18) rfl rfl j_a75 rfl ?_
  exact j_ret rfl rfl rfl (fun _ h => h)

noncomputable def f_X12_learns (l1 : Int32) (l2 : Int32) (σ : j_G) : Option (Int32 × j_G) :=
  j_b1 (f_X12_isPlayer l1 σ) fun v1 =>
  if (v1 = 0) ∨ ((f_X12_in (l2).toInt64 (0 : Int64) (9 : Int64)) = 0) then (some ((-2 : Int32), σ)) else (j_b1 (f_X12_lay σ) fun σ2 =>
  j_b2 (f_X12_learnsBy l1 l2 σ2) fun v4 σ3 =>
  some (v4, σ3))
theorem c_X12_learns (l1 : Int32) (l2 : Int32) (σ : j_G) : j_K false 6 274 [.ref 75, .int l1, .int l2] σ (f_X12_learns l1 l2 σ) j_Ri := by
  refine j_mkK (M := M_cX12_learns) (L := [some (.ref 75), some (.int l1), some (.int l2)]) (m := 0) t_274 rfl (j_rcvO j_a75 rfl) rfl (fun d hd τ => ?_)
  unfold f_X12_learns
  refine j_aload_n (pc' := 1) rfl rfl rfl ?_
  refine j_iload_n (pc' := 2) rfl rfl rfl ?_
  refine j_callPi (pc' := 5) (ai := 205) (vs := [.ref 75, .int l1]) (rest := []) rfl rfl (fun _ _ => rfl) (c_X12_isPlayer l1 σ) (j_dd rfl hd) rfl (fun v1 => ?_)
  refine j_two (pT := 20) (pF := 23) (L1 := [some (.ref 75), some (.int l1), some (.int l2)]) (st1 := []) (fun o kT kF => ?_) (fun h1 => ?_) (fun h1 => ?_)
  · refine j_ifeq (t := 20) (pc' := 8) rfl rfl rfl (fun h2 => ?_) (fun h2 => ?_)
    · exact kT (Or.inl h2)
    · refine j_iload_n (pc' := 9) rfl rfl rfl ?_
      refine j_i2l (pc' := 10) rfl rfl ?_
      refine j_lconst (pc' := 11) (x := (0 : Int64)) rfl rfl rfl ?_
      refine j_ldc2_w (pc' := 14) (x := (9 : Int64)) rfl rfl rfl ?_
      refine j_callTi (pc' := 17) (ai := 196) (vs := [.long (l2).toInt64, .long (0 : Int64), .long (9 : Int64)]) (rest := []) rfl rfl (fun _ _ => rfl) (c_X12_in (l2).toInt64 (0 : Int64) (9 : Int64) σ) (j_dd rfl hd) rfl ?_
      refine j_ifne (t := 23) (pc' := 20) rfl rfl rfl (fun h3 => ?_) (fun h3 => ?_)
      · exact kF (fun z => z.elim h2 (h3))
      · exact kT (Or.inr (h3))
  · refine j_bipush (pc' := 22) (x := (-2 : Int32)) rfl rfl rfl ?_
    exact j_ret rfl rfl rfl (fun _ h => h)
  · refine j_aload_n (pc' := 24) rfl rfl rfl ?_
    refine j_callRv (pc' := 27) (ai := 237) (vs := [.ref 75]) (rest := []) rfl rfl (fun _ _ => rfl) (c_X12_lay  σ) (j_dd rfl hd) rfl (fun σ2 => ?_)
    refine j_aload_n (pc' := 28) rfl rfl rfl ?_
    refine j_iload_n (pc' := 29) rfl rfl rfl ?_
    refine j_iload_n (pc' := 30) rfl rfl rfl ?_
    refine j_callRi (pc' := 33) (ai := 273) (vs := [.ref 75, .int l1, .int l2]) (rest := []) rfl rfl (fun _ _ => rfl) (c_X12_learnsBy l1 l2 σ2) (j_dd rfl hd) rfl (fun v4 σ3 => ?_)
    exact j_ret rfl rfl rfl (fun _ h => h)

noncomputable def p_X11_enough_22 : Nat → Int32 → Int32 → Int32 → j_G → Option (Int32 × j_G)
  | 0, _, _, _, _ => none
  | n + 1, l2, l3, l4, σ =>
    if ¬ (9 : Int32) < l4 then (j_b2 (f_X11_hitsKnowing l4 σ) fun v2 σ1 =>
    j_lt (if l3 < v2 then ((l4, v2)) else ((l2, l3))) fun r5 =>
    p_X11_enough_22 n (r5.1) (r5.2) (l4 + (1 : Int32)) σ1) else (some (l2, σ))

noncomputable def f_X11_enough (l1 : Int32) (σ : j_G) : Option (Int32 × j_G) :=
  j_b2 (f_X11_makeReady l1 σ) fun v2 σ1 =>
  if v2 = 0 then (some ((-2 : Int32), σ1)) else (j_b2 (f_X11_hitsKnowing (0 : Int32) σ1) fun v4 σ3 =>
  j_b2 (p_X11_enough_22 j_F (0 : Int32) v4 (1 : Int32) σ3) fun v5 σ6 =>
  some (v5, σ6))
theorem l_X11_enough_22 {d : Nat} (hd : 6 ≤ d) (τ : j_G) : ∀ (n : Nat) (l2 : Int32) (l3 : Int32) (l4 : Int32) (σ : j_G), j_J true τ M_cX11_enough d 22 [some (.ref 0), none, some (.int l2), some (.int l3), some (.int l4), none] [] σ (p_X11_enough_22 n l2 l3 l4 σ) (fun r Q => j_Tr true τ M_cX11_enough d 55 [none, none, some (.int r.1), none, none, none] [] r.2 Q) := by
  intro n
  induction n with
  | zero => intro l2 l3 l4 σ; exact j_none
  | succ n ih =>
    intro l2 l3 l4 σ
    unfold p_X11_enough_22
    refine j_iload (pc' := 24) rfl rfl rfl ?_
    refine j_bipush (pc' := 26) (x := (9 : Int32)) rfl rfl rfl ?_
    refine j_two (pT := 29) (pF := 55) (L1 := [some (.ref 0), none, some (.int l2), some (.int l3), some (.int l4), none]) (st1 := []) (fun o kT kF => ?_) (fun h3 => ?_) (fun h3 => ?_)
    · refine j_icgt (t := 55) (pc' := 29) rfl rfl rfl (fun h4 => ?_) (fun h4 => ?_)
      · exact kF (fun z => z h4)
      · exact kT h4
    · refine j_aload_n (pc' := 30) rfl rfl rfl ?_
      refine j_iload (pc' := 32) rfl rfl rfl ?_
      refine j_callRi (pc' := 35) (ai := 188) (vs := [.ref 0, .int l4]) (rest := []) rfl rfl (fun _ _ => rfl) (c_X11_hitsKnowing l4 σ) (j_dd rfl hd) rfl (fun v2 σ1 => ?_)
      refine j_istore (pc' := 37) (L' := [some (.ref 0), none, some (.int l2), some (.int l3), some (.int l4), some (.int v2)]) rfl rfl rfl ?_
      refine j_iload (pc' := 39) rfl rfl rfl ?_
      refine j_iload_n (pc' := 40) rfl rfl rfl ?_
      refine j_ql (Φl := (fun r Q => j_Tr true τ M_cX11_enough d 49 [some (.ref 0), none, some (.int r.1), some (.int r.2), some (.int l4), none] [] σ1 Q)) ?_ (fun r5 => ?_)
      · refine j_twoT (pT := 43) (pF := 49) (L1 := [some (.ref 0), none, some (.int l2), some (.int l3), some (.int l4), some (.int v2)]) (st1 := []) (fun o kT kF => ?_) (fun h1 => ?_) (fun h1 => ?_)
        · refine j_icle (t := 49) (pc' := 43) rfl rfl rfl (fun h2 => ?_) (fun h2 => ?_)
          · exact kF h2
          · exact kT h2
        · refine j_iload (pc' := 45) rfl rfl rfl ?_
          refine j_istore_n (pc' := 46) (L' := [some (.ref 0), none, some (.int l2), some (.int v2), some (.int l4), some (.int v2)]) rfl rfl rfl ?_
          refine j_iload (pc' := 48) rfl rfl rfl ?_
          refine j_istore_n (pc' := 49) (L' := [some (.ref 0), none, some (.int l4), some (.int v2), some (.int l4), some (.int v2)]) rfl rfl rfl ?_
          refine j_wk [true, true, true, true, true, false] (L' := [some (.ref 0), none, some (.int l4), some (.int v2), some (.int l4), none]) rfl ?_
          exact j_end (fun _ h => h)
        · refine j_wk [true, true, true, true, true, false] (L' := [some (.ref 0), none, some (.int l2), some (.int l3), some (.int l4), none]) rfl ?_
          exact j_end (fun _ h => h)
      show j_J true τ M_cX11_enough d 49 [some (.ref 0), none, some (.int (r5.1)), some (.int (r5.2)), some (.int l4), none] [] σ1 _ _
      refine j_iincx (pc' := 52) (y := (1 : Int32)) (L' := [some (.ref 0), none, some (.int (r5.1)), some (.int (r5.2)), some (.int (l4 + (1 : Int32))), none]) rfl rfl rfl rfl rfl ?_
      refine j_goto (t := 22) rfl rfl ?_
      exact ih (r5.1) (r5.2) (l4 + (1 : Int32)) σ1
    · refine j_wk [false, true, true, false, false, true] (L' := [none, none, some (.int l2), none, none, none]) rfl ?_
      exact j_end (fun _ h => h)

theorem c_X11_enough (l1 : Int32) (σ : j_G) : j_K true 6 136 [.ref 0, .int l1] σ (f_X11_enough l1 σ) j_Ri := by
  refine j_mkK (M := M_cX11_enough) (L := [some (.ref 0), some (.int l1), none, none, none, none]) (m := 4) t_136 rfl (j_rcvO j_a0 rfl) rfl (fun d hd τ => ?_)
  unfold f_X11_enough
  refine j_aload_n (pc' := 1) rfl rfl rfl ?_
  refine j_iload_n (pc' := 2) rfl rfl rfl ?_
  refine j_callRi (pc' := 5) (ai := 186) (vs := [.ref 0, .int l1]) (rest := []) rfl rfl (fun _ _ => rfl) (c_X11_makeReady l1 σ) (j_dd rfl hd) rfl (fun v2 σ1 => ?_)
  refine j_two (pT := 8) (pF := 11) (L1 := [some (.ref 0), some (.int l1), none, none, none, none]) (st1 := []) (fun o kT kF => ?_) (fun h1 => ?_) (fun h1 => ?_)
  · refine j_ifne (t := 11) (pc' := 8) rfl rfl rfl (fun h2 => ?_) (fun h2 => ?_)
    · exact kF h2
    · exact kT h2
  · refine j_bipush (pc' := 10) (x := (-2 : Int32)) rfl rfl rfl ?_
    exact j_ret rfl rfl rfl (fun _ h => h)
  · refine j_iconst (pc' := 12) (x := (0 : Int32)) rfl rfl rfl ?_
    refine j_istore_n (pc' := 13) (L' := [some (.ref 0), some (.int l1), some (.int (0 : Int32)), none, none, none]) rfl rfl rfl ?_
    refine j_aload_n (pc' := 14) rfl rfl rfl ?_
    refine j_iconst (pc' := 15) (x := (0 : Int32)) rfl rfl rfl ?_
    refine j_callRi (pc' := 18) (ai := 188) (vs := [.ref 0, .int (0 : Int32)]) (rest := []) rfl rfl (fun _ _ => rfl) (c_X11_hitsKnowing (0 : Int32) σ1) (j_dd rfl hd) rfl (fun v4 σ3 => ?_)
    refine j_istore_n (pc' := 19) (L' := [some (.ref 0), some (.int l1), some (.int (0 : Int32)), some (.int v4), none, none]) rfl rfl rfl ?_
    refine j_iconst (pc' := 20) (x := (1 : Int32)) rfl rfl rfl ?_
    refine j_istore (pc' := 22) (L' := [some (.ref 0), some (.int l1), some (.int (0 : Int32)), some (.int v4), some (.int (1 : Int32)), none]) rfl rfl rfl ?_
    refine j_wk [true, false, true, true, true, true] (L' := [some (.ref 0), none, some (.int (0 : Int32)), some (.int v4), some (.int (1 : Int32)), none]) rfl ?_
    refine j_q2 (l_X11_enough_22 hd τ j_F (0 : Int32) v4 (1 : Int32) σ3) (fun v5 σ6 => ?_)
    show j_J true τ M_cX11_enough d 55 [none, none, some (.int v5), none, none, none] [] σ6 _ _
    refine j_iload_n (pc' := 56) rfl rfl rfl ?_
    exact j_ret rfl rfl rfl (fun _ h => h)

noncomputable def p_X12_enough_19 (l1 : Int32) : Nat → Int32 → Int32 → j_G → Option (Int32 × j_G)
  | 0, _, _, _ => none
  | n + 1, l2, l3, σ =>
    if l3 < (10 : Int32) then (j_b2 (f_X12_learnsBy l1 l3 σ) fun v2 σ1 =>
    j_b2 (f_X12_learnsBy l1 l2 σ1) fun v4 σ3 =>
    j_lt (if v4 < v2 then (l3) else (l2)) fun v5 =>
    p_X12_enough_19 l1 n v5 (l3 + (1 : Int32)) σ3) else (some (l2, σ))

noncomputable def f_X12_enough (l1 : Int32) (σ : j_G) : Option (Int32 × j_G) :=
  j_b1 (f_X12_isPlayer l1 σ) fun v1 =>
  if v1 = 0 then (some ((-2 : Int32), σ)) else (j_b1 (f_X12_lay σ) fun σ2 =>
  j_b2 (p_X12_enough_19 l1 j_F (0 : Int32) (1 : Int32) σ2) fun v3 σ4 =>
  some (v3, σ4))
theorem l_X12_enough_19 {d : Nat} (hd : 6 ≤ d) (τ : j_G) (l1 : Int32) : ∀ (n : Nat) (l2 : Int32) (l3 : Int32) (σ : j_G), j_J false τ M_cX12_enough d 19 [some (.ref 75), some (.int l1), some (.int l2), some (.int l3)] [] σ (p_X12_enough_19 l1 n l2 l3 σ) (fun r Q => j_Tr false τ M_cX12_enough d 52 [none, none, some (.int r.1), none] [] r.2 Q) := by
  intro n
  induction n with
  | zero => intro l2 l3 σ; exact j_none
  | succ n ih =>
    intro l2 l3 σ
    unfold p_X12_enough_19
    refine j_iload_n (pc' := 20) rfl rfl rfl ?_
    refine j_bipush (pc' := 22) (x := (10 : Int32)) rfl rfl rfl ?_
    refine j_two (pT := 25) (pF := 52) (L1 := [some (.ref 75), some (.int l1), some (.int l2), some (.int l3)]) (st1 := []) (fun o kT kF => ?_) (fun h3 => ?_) (fun h3 => ?_)
    · refine j_icge (t := 52) (pc' := 25) rfl rfl rfl (fun h4 => ?_) (fun h4 => ?_)
      · exact kF h4
      · exact kT h4
    · refine j_aload_n (pc' := 26) rfl rfl rfl ?_
      refine j_iload_n (pc' := 27) rfl rfl rfl ?_
      refine j_iload_n (pc' := 28) rfl rfl rfl ?_
      refine j_callRi (pc' := 31) (ai := 273) (vs := [.ref 75, .int l1, .int l3]) (rest := []) rfl rfl (fun _ _ => rfl) (c_X12_learnsBy l1 l3 σ) (j_dd rfl hd) rfl (fun v2 σ1 => ?_)
      refine j_aload_n (pc' := 32) rfl rfl rfl ?_
      refine j_iload_n (pc' := 33) rfl rfl rfl ?_
      refine j_iload_n (pc' := 34) rfl rfl rfl ?_
      refine j_callRi (pc' := 37) (ai := 273) (vs := [.ref 75, .int l1, .int l2]) (rest := [.int v2]) rfl rfl (fun _ _ => rfl) (c_X12_learnsBy l1 l2 σ1) (j_dd rfl hd) rfl (fun v4 σ3 => ?_)
      refine j_ql (Φl := (fun r Q => j_Tr false τ M_cX12_enough d 45 [some (.ref 75), some (.int l1), none, some (.int l3)] [.int r] σ3 Q)) ?_ (fun v5 => ?_)
      · refine j_twoT (pT := 40) (pF := 44) (L1 := [some (.ref 75), some (.int l1), some (.int l2), some (.int l3)]) (st1 := []) (fun o kT kF => ?_) (fun h1 => ?_) (fun h1 => ?_)
        · refine j_icle (t := 44) (pc' := 40) rfl rfl rfl (fun h2 => ?_) (fun h2 => ?_)
          · exact kF h2
          · exact kT h2
        · refine j_iload_n (pc' := 41) rfl rfl rfl ?_
          refine j_goto (t := 45) rfl rfl ?_
          refine j_wk [true, true, false, true] (L' := [some (.ref 75), some (.int l1), none, some (.int l3)]) rfl ?_
          exact j_end (fun _ h => h)
        · refine j_iload_n (pc' := 45) rfl rfl rfl ?_
          refine j_wk [true, true, false, true] (L' := [some (.ref 75), some (.int l1), none, some (.int l3)]) rfl ?_
          exact j_end (fun _ h => h)
      show j_J false τ M_cX12_enough d 45 [some (.ref 75), some (.int l1), none, some (.int l3)] [.int v5] σ3 _ _
      refine j_istore_n (pc' := 46) (L' := [some (.ref 75), some (.int l1), some (.int v5), some (.int l3)]) rfl rfl rfl ?_
      refine j_iincx (pc' := 49) (y := (1 : Int32)) (L' := [some (.ref 75), some (.int l1), some (.int v5), some (.int (l3 + (1 : Int32)))]) rfl rfl rfl rfl rfl ?_
      refine j_goto (t := 19) rfl rfl ?_
      exact ih v5 (l3 + (1 : Int32)) σ3
    · refine j_wk [false, false, true, false] (L' := [none, none, some (.int l2), none]) rfl ?_
      exact j_end (fun _ h => h)

theorem c_X12_enough (l1 : Int32) (σ : j_G) : j_K false 6 275 [.ref 75, .int l1] σ (f_X12_enough l1 σ) j_Ri := by
  refine j_mkK (M := M_cX12_enough) (L := [some (.ref 75), some (.int l1), none, none]) (m := 2) t_275 rfl (j_rcvO j_a75 rfl) rfl (fun d hd τ => ?_)
  unfold f_X12_enough
  refine j_aload_n (pc' := 1) rfl rfl rfl ?_
  refine j_iload_n (pc' := 2) rfl rfl rfl ?_
  refine j_callPi (pc' := 5) (ai := 205) (vs := [.ref 75, .int l1]) (rest := []) rfl rfl (fun _ _ => rfl) (c_X12_isPlayer l1 σ) (j_dd rfl hd) rfl (fun v1 => ?_)
  refine j_two (pT := 8) (pF := 11) (L1 := [some (.ref 75), some (.int l1), none, none]) (st1 := []) (fun o kT kF => ?_) (fun h1 => ?_) (fun h1 => ?_)
  · refine j_ifne (t := 11) (pc' := 8) rfl rfl rfl (fun h2 => ?_) (fun h2 => ?_)
    · exact kF h2
    · exact kT h2
  · refine j_bipush (pc' := 10) (x := (-2 : Int32)) rfl rfl rfl ?_
    exact j_ret rfl rfl rfl (fun _ h => h)
  · refine j_aload_n (pc' := 12) rfl rfl rfl ?_
    refine j_callRv (pc' := 15) (ai := 237) (vs := [.ref 75]) (rest := []) rfl rfl (fun _ _ => rfl) (c_X12_lay  σ) (j_dd rfl hd) rfl (fun σ2 => ?_)
    refine j_iconst (pc' := 16) (x := (0 : Int32)) rfl rfl rfl ?_
    refine j_istore_n (pc' := 17) (L' := [some (.ref 75), some (.int l1), some (.int (0 : Int32)), none]) rfl rfl rfl ?_
    refine j_iconst (pc' := 18) (x := (1 : Int32)) rfl rfl rfl ?_
    refine j_istore_n (pc' := 19) (L' := [some (.ref 75), some (.int l1), some (.int (0 : Int32)), some (.int (1 : Int32))]) rfl rfl rfl ?_
    refine j_q2 (l_X12_enough_19 hd τ l1 j_F (0 : Int32) (1 : Int32) σ2) (fun v3 σ4 => ?_)
    show j_J false τ M_cX12_enough d 52 [none, none, some (.int v3), none] [] σ4 _ _
    refine j_iload_n (pc' := 53) rfl rfl rfl ?_
    exact j_ret rfl rfl rfl (fun _ h => h)

noncomputable def p_X11_waits_28 (l2 : Int32) : Nat → Int32 → Int32 → Int32 → j_G → Option (Int32 × Int32 × j_G)
  | 0, _, _, _, _ => none
  | n + 1, l3, l4, l5, σ =>
    if l5 < (f_X2_holes 1 σ) then (j_lt (j_si σ 28 4 l5) fun σ1 =>
    j_b2 (f_X9_good 30 28 22 31 32 25 23 24 26 33 34 (-1 : Int32) σ1) fun v3 σ2 =>
    j_lt (if l4 < v3 then ((l5, v3)) else ((l3, l4))) fun r6 =>
    p_X11_waits_28 l2 n (r6.1) (r6.2) (l5 + (1 : Int32)) σ2) else (some (l3, l4, σ))

noncomputable def f_X11_waits (l1 : Int32) (l2 : Int32) (σ : j_G) : Option (Int32 × j_G) :=
  if (¬ l2 < 0) ∧ (¬ (1 : Int32) < l2) then (j_b2 (f_X11_makeReady l1 σ) fun v2 σ1 =>
  if v2 = 0 then (some ((-2 : Int32), σ1)) else (j_b3 (p_X11_waits_28 l2 j_F (0 : Int32) (-1 : Int32) (0 : Int32) σ1) fun v3 v4 σ5 =>
  if l2 = 0 then (some (v3, σ5)) else (some (v4, σ5)))) else (some ((-2 : Int32), σ))
theorem l_X11_waits_28 {d : Nat} (hd : 5 ≤ d) (τ : j_G) (l2 : Int32) : ∀ (n : Nat) (l3 : Int32) (l4 : Int32) (l5 : Int32) (σ : j_G), j_J true τ M_cX11_waits d 28 [some (.ref 0), none, some (.int l2), some (.int l3), some (.int l4), some (.int l5), none] [] σ (p_X11_waits_28 l2 n l3 l4 l5 σ) (fun r Q => j_Tr true τ M_cX11_waits d 91 [none, none, some (.int l2), some (.int r.1), some (.int r.2.1), none, none] [] r.2.2 Q) := by
  intro n
  induction n with
  | zero => intro l3 l4 l5 σ; exact j_none
  | succ n ih =>
    intro l3 l4 l5 σ
    unfold p_X11_waits_28
    refine j_iload (pc' := 30) rfl rfl rfl ?_
    refine j_aload_n (pc' := 31) rfl rfl rfl ?_
    refine j_gfr (pc' := 34) (x := 1) rfl rfl j_a0 rfl rfl ?_
    refine j_callTi (pc' := 37) (ai := 12) (vs := [.ref 1]) (rest := [.int l5]) rfl rfl (fun _ _ => rfl) (c_X2_holes_1  σ) (j_dd rfl hd) rfl ?_
    refine j_two (pT := 40) (pF := 91) (L1 := [some (.ref 0), none, some (.int l2), some (.int l3), some (.int l4), some (.int l5), none]) (st1 := []) (fun o kT kF => ?_) (fun h3 => ?_) (fun h3 => ?_)
    · refine j_icge (t := 91) (pc' := 40) rfl rfl rfl (fun h4 => ?_) (fun h4 => ?_)
      · exact kF h4
      · exact kT h4
    · refine j_aload_n (pc' := 41) rfl rfl rfl ?_
      refine j_gfr (pc' := 44) (x := 28) rfl rfl j_a0 rfl rfl ?_
      refine j_iload (pc' := 46) rfl rfl rfl ?_
      refine j_pfi (pc' := 49) rfl rfl j_a28 rfl rfl (fun σ1 => ?_)
      refine j_aload_n (pc' := 50) rfl rfl rfl ?_
      refine j_gfr (pc' := 53) (x := 30) rfl rfl j_a0 rfl rfl ?_
      refine j_aload_n (pc' := 54) rfl rfl rfl ?_
      refine j_gfr (pc' := 57) (x := 1) rfl rfl j_a0 rfl rfl ?_
      refine j_aload_n (pc' := 58) rfl rfl rfl ?_
      refine j_gfr (pc' := 61) (x := 22) rfl rfl j_a0 rfl rfl ?_
      refine j_aload_n (pc' := 62) rfl rfl rfl ?_
      refine j_gfr (pc' := 65) (x := 28) rfl rfl j_a0 rfl rfl ?_
      refine j_iconst (pc' := 66) (x := (-1 : Int32)) rfl rfl rfl ?_
      refine j_callRi (pc' := 69) (ai := 100) (vs := [.ref 30, .ref 1, .ref 22, .ref 28, .int (-1 : Int32)]) (rest := []) rfl rfl (fun _ _ => rfl) (c_X9_good_30_1_22_28 (-1 : Int32) σ1) (j_dd rfl hd) rfl (fun v3 σ2 => ?_)
      refine j_istore (pc' := 71) (L' := [some (.ref 0), none, some (.int l2), some (.int l3), some (.int l4), some (.int l5), some (.int v3)]) rfl rfl rfl ?_
      refine j_iload (pc' := 73) rfl rfl rfl ?_
      refine j_iload (pc' := 75) rfl rfl rfl ?_
      refine j_ql (Φl := (fun r Q => j_Tr true τ M_cX11_waits d 85 [some (.ref 0), none, some (.int l2), some (.int r.1), some (.int r.2), some (.int l5), none] [] σ2 Q)) ?_ (fun r6 => ?_)
      · refine j_twoT (pT := 78) (pF := 85) (L1 := [some (.ref 0), none, some (.int l2), some (.int l3), some (.int l4), some (.int l5), some (.int v3)]) (st1 := []) (fun o kT kF => ?_) (fun h1 => ?_) (fun h1 => ?_)
        · refine j_icle (t := 85) (pc' := 78) rfl rfl rfl (fun h2 => ?_) (fun h2 => ?_)
          · exact kF h2
          · exact kT h2
        · refine j_iload (pc' := 80) rfl rfl rfl ?_
          refine j_istore (pc' := 82) (L' := [some (.ref 0), none, some (.int l2), some (.int l3), some (.int v3), some (.int l5), some (.int v3)]) rfl rfl rfl ?_
          refine j_iload (pc' := 84) rfl rfl rfl ?_
          refine j_istore_n (pc' := 85) (L' := [some (.ref 0), none, some (.int l2), some (.int l5), some (.int v3), some (.int l5), some (.int v3)]) rfl rfl rfl ?_
          refine j_wk [true, true, true, true, true, true, false] (L' := [some (.ref 0), none, some (.int l2), some (.int l5), some (.int v3), some (.int l5), none]) rfl ?_
          exact j_end (fun _ h => h)
        · refine j_wk [true, true, true, true, true, true, false] (L' := [some (.ref 0), none, some (.int l2), some (.int l3), some (.int l4), some (.int l5), none]) rfl ?_
          exact j_end (fun _ h => h)
      show j_J true τ M_cX11_waits d 85 [some (.ref 0), none, some (.int l2), some (.int (r6.1)), some (.int (r6.2)), some (.int l5), none] [] σ2 _ _
      refine j_iincx (pc' := 88) (y := (1 : Int32)) (L' := [some (.ref 0), none, some (.int l2), some (.int (r6.1)), some (.int (r6.2)), some (.int (l5 + (1 : Int32))), none]) rfl rfl rfl rfl rfl ?_
      refine j_goto (t := 28) rfl rfl ?_
      exact ih (r6.1) (r6.2) (l5 + (1 : Int32)) σ2
    · refine j_wk [false, true, true, true, true, false, true] (L' := [none, none, some (.int l2), some (.int l3), some (.int l4), none, none]) rfl ?_
      exact j_end (fun _ h => h)

theorem c_X11_waits (l1 : Int32) (l2 : Int32) (σ : j_G) : j_K true 5 137 [.ref 0, .int l1, .int l2] σ (f_X11_waits l1 l2 σ) j_Ri := by
  refine j_mkK (M := M_cX11_waits) (L := [some (.ref 0), some (.int l1), some (.int l2), none, none, none, none]) (m := 4) t_137 rfl (j_rcvO j_a0 rfl) rfl (fun d hd τ => ?_)
  unfold f_X11_waits
  refine j_iload_n (pc' := 1) rfl rfl rfl ?_
  refine j_two (pT := 9) (pF := 17) (L1 := [some (.ref 0), some (.int l1), some (.int l2), none, none, none, none]) (st1 := []) (fun o kT kF => ?_) (fun h5 => ?_) (fun h5 => ?_)
  · refine j_iflt (t := 17) (pc' := 4) rfl rfl rfl (fun h6 => ?_) (fun h6 => ?_)
    · exact kF (fun z => z.1 h6)
    · refine j_iload_n (pc' := 5) rfl rfl rfl ?_
      refine j_iconst (pc' := 6) (x := (1 : Int32)) rfl rfl rfl ?_
      refine j_icgt (t := 17) (pc' := 9) rfl rfl rfl (fun h7 => ?_) (fun h7 => ?_)
      · exact kF (fun z => (fun z => z h7) z.2)
      · exact kT (⟨h6, h7⟩)
  · refine j_aload_n (pc' := 10) rfl rfl rfl ?_
    refine j_iload_n (pc' := 11) rfl rfl rfl ?_
    refine j_callRi (pc' := 14) (ai := 186) (vs := [.ref 0, .int l1]) (rest := []) rfl rfl (fun _ _ => rfl) (c_X11_makeReady l1 σ) (j_dd rfl hd) rfl (fun v2 σ1 => ?_)
    refine j_two (pT := 17) (pF := 20) (L1 := [some (.ref 0), some (.int l1), some (.int l2), none, none, none, none]) (st1 := []) (fun o kT kF => ?_) (fun h3 => ?_) (fun h3 => ?_)
    · refine j_ifne (t := 20) (pc' := 17) rfl rfl rfl (fun h4 => ?_) (fun h4 => ?_)
      · exact kF h4
      · exact kT h4
    · refine j_bipush (pc' := 19) (x := (-2 : Int32)) rfl rfl rfl ?_
      exact j_ret rfl rfl rfl (fun _ h => h)
    · refine j_iconst (pc' := 21) (x := (0 : Int32)) rfl rfl rfl ?_
      refine j_istore_n (pc' := 22) (L' := [some (.ref 0), some (.int l1), some (.int l2), some (.int (0 : Int32)), none, none, none]) rfl rfl rfl ?_
      refine j_iconst (pc' := 23) (x := (-1 : Int32)) rfl rfl rfl ?_
      refine j_istore (pc' := 25) (L' := [some (.ref 0), some (.int l1), some (.int l2), some (.int (0 : Int32)), some (.int (-1 : Int32)), none, none]) rfl rfl rfl ?_
      refine j_iconst (pc' := 26) (x := (0 : Int32)) rfl rfl rfl ?_
      refine j_istore (pc' := 28) (L' := [some (.ref 0), some (.int l1), some (.int l2), some (.int (0 : Int32)), some (.int (-1 : Int32)), some (.int (0 : Int32)), none]) rfl rfl rfl ?_
      refine j_wk [true, false, true, true, true, true, true] (L' := [some (.ref 0), none, some (.int l2), some (.int (0 : Int32)), some (.int (-1 : Int32)), some (.int (0 : Int32)), none]) rfl ?_
      refine j_q3 (l_X11_waits_28 hd τ l2 j_F (0 : Int32) (-1 : Int32) (0 : Int32) σ1) (fun v3 v4 σ5 => ?_)
      show j_J true τ M_cX11_waits d 91 [none, none, some (.int l2), some (.int v3), some (.int v4), none, none] [] σ5 _ _
      refine j_iload_n (pc' := 92) rfl rfl rfl ?_
      refine j_two (pT := 95) (pF := 99) (L1 := [none, none, some (.int l2), some (.int v3), some (.int v4), none, none]) (st1 := []) (fun o kT kF => ?_) (fun h1 => ?_) (fun h1 => ?_)
      · refine j_ifne (t := 99) (pc' := 95) rfl rfl rfl (fun h2 => ?_) (fun h2 => ?_)
        · exact kF h2
        · exact kT h2
      · refine j_iload_n (pc' := 96) rfl rfl rfl ?_
        refine j_goto (t := 101) rfl rfl ?_
        exact j_ret rfl rfl rfl (fun _ h => h)
      · refine j_iload (pc' := 101) rfl rfl rfl ?_
        exact j_ret rfl rfl rfl (fun _ h => h)
  · refine j_bipush (pc' := 19) (x := (-2 : Int32)) rfl rfl rfl ?_
    exact j_ret rfl rfl rfl (fun _ h => h)

noncomputable def f_X12_waitingAt (l1 : Int32) (l2 : Int32) (σ : j_G) : Option (Int32 × j_G) :=
  j_b1 (f_X12_asTold l1 σ) fun σ1 =>
  j_lt (j_si σ1 75 22 l2) fun σ2 =>
  j_b1 (f_X12_run σ2) fun σ3 =>
  some ((σ3.1 75 29), σ3)
theorem c_X12_waitingAt (l1 : Int32) (l2 : Int32) (σ : j_G) : j_K false 5 276 [.ref 75, .int l1, .int l2] σ (f_X12_waitingAt l1 l2 σ) j_Ri := by
  refine j_mkK (M := M_cX12_waitingAt) (L := [some (.ref 75), some (.int l1), some (.int l2)]) (m := 0) t_276 rfl (j_rcvO j_a75 rfl) rfl (fun d hd τ => ?_)
  unfold f_X12_waitingAt
  refine j_aload_n (pc' := 1) rfl rfl rfl ?_
  refine j_iload_n (pc' := 2) rfl rfl rfl ?_
  refine j_callRv (pc' := 5) (ai := 252) (vs := [.ref 75, .int l1]) (rest := []) rfl rfl (fun _ _ => rfl) (c_X12_asTold l1 σ) (j_dd rfl hd) rfl (fun σ1 => ?_)
  refine j_aload_n (pc' := 6) rfl rfl rfl ?_
  refine j_iload_n (pc' := 7) rfl rfl rfl ?_
  refine j_pfi (pc' := 10) rfl rfl j_a75 rfl rfl (fun σ2 => ?_)
  refine j_aload_n (pc' := 11) rfl rfl rfl ?_
  refine j_callRv (pc' := 14) (ai := 258) (vs := [.ref 75]) (rest := []) rfl rfl (fun _ _ => rfl) (c_X12_run  σ2) (j_dd rfl hd) rfl (fun σ3 => ?_)
  refine j_aload_n (pc' := 15) rfl rfl rfl ?_
  refine j_gfi (pc' := 18) rfl rfl j_a75 rfl ?_
  exact j_ret rfl rfl rfl (fun _ h => h)

noncomputable def p_X12_waits_30 (l1 : Int32) (l2 : Int32) : Nat → Int32 → Int32 → j_G → Option (Int32 × j_G)
  | 0, _, _, _ => none
  | n + 1, l3, l4, σ =>
    j_b1 (f_X12_holes σ) fun v1 =>
    if l4 < v1 then (j_b2 (f_X12_waitingAt l1 l4 σ) fun v3 σ2 =>
    j_b2 (f_X12_waitingAt l1 l3 σ2) fun v5 σ4 =>
    j_lt (if v5 < v3 then (l4) else (l3)) fun v6 =>
    p_X12_waits_30 l1 l2 n v6 (l4 + (1 : Int32)) σ4) else (some (l3, σ))

noncomputable def f_X12_waits (l1 : Int32) (l2 : Int32) (σ : j_G) : Option (Int32 × j_G) :=
  j_b1 (f_X12_isPlayer l1 σ) fun v1 =>
  if (v1 = 0) ∨ ((f_X12_in (l2).toInt64 (0 : Int64) (1 : Int64)) = 0) then (some ((-2 : Int32), σ)) else (j_b1 (f_X12_lay σ) fun σ2 =>
  j_b2 (p_X12_waits_30 l1 l2 j_F (0 : Int32) (1 : Int32) σ2) fun v3 σ4 =>
  if l2 = 0 then (some (v3, σ4)) else (j_b2 (f_X12_waitingAt l1 v3 σ4) fun v6 σ5 =>
  some (v6, σ5)))
theorem l_X12_waits_30 {d : Nat} (hd : 6 ≤ d) (τ : j_G) (l1 : Int32) (l2 : Int32) : ∀ (n : Nat) (l3 : Int32) (l4 : Int32) (σ : j_G), j_J false τ M_cX12_waits d 30 [some (.ref 75), some (.int l1), some (.int l2), some (.int l3), some (.int l4)] [] σ (p_X12_waits_30 l1 l2 n l3 l4 σ) (fun r Q => j_Tr false τ M_cX12_waits d 68 [some (.ref 75), some (.int l1), some (.int l2), some (.int r.1), none] [] r.2 Q) := by
  intro n
  induction n with
  | zero => intro l3 l4 σ; exact j_none
  | succ n ih =>
    intro l3 l4 σ
    unfold p_X12_waits_30
    refine j_iload (pc' := 32) rfl rfl rfl ?_
    refine j_aload_n (pc' := 33) rfl rfl rfl ?_
    refine j_callPi (pc' := 36) (ai := 200) (vs := [.ref 75]) (rest := [.int l4]) rfl rfl (fun _ _ => rfl) (c_X12_holes  σ) (j_dd rfl hd) rfl (fun v1 => ?_)
    refine j_two (pT := 39) (pF := 68) (L1 := [some (.ref 75), some (.int l1), some (.int l2), some (.int l3), some (.int l4)]) (st1 := []) (fun o kT kF => ?_) (fun h3 => ?_) (fun h3 => ?_)
    · refine j_icge (t := 68) (pc' := 39) rfl rfl rfl (fun h4 => ?_) (fun h4 => ?_)
      · exact kF h4
      · exact kT h4
    · refine j_aload_n (pc' := 40) rfl rfl rfl ?_
      refine j_iload_n (pc' := 41) rfl rfl rfl ?_
      refine j_iload (pc' := 43) rfl rfl rfl ?_
      refine j_callRi (pc' := 46) (ai := 276) (vs := [.ref 75, .int l1, .int l4]) (rest := []) rfl rfl (fun _ _ => rfl) (c_X12_waitingAt l1 l4 σ) (j_dd rfl hd) rfl (fun v3 σ2 => ?_)
      refine j_aload_n (pc' := 47) rfl rfl rfl ?_
      refine j_iload_n (pc' := 48) rfl rfl rfl ?_
      refine j_iload_n (pc' := 49) rfl rfl rfl ?_
      refine j_callRi (pc' := 52) (ai := 276) (vs := [.ref 75, .int l1, .int l3]) (rest := [.int v3]) rfl rfl (fun _ _ => rfl) (c_X12_waitingAt l1 l3 σ2) (j_dd rfl hd) rfl (fun v5 σ4 => ?_)
      refine j_ql (Φl := (fun r Q => j_Tr false τ M_cX12_waits d 61 [some (.ref 75), some (.int l1), some (.int l2), none, some (.int l4)] [.int r] σ4 Q)) ?_ (fun v6 => ?_)
      · refine j_twoT (pT := 55) (pF := 60) (L1 := [some (.ref 75), some (.int l1), some (.int l2), some (.int l3), some (.int l4)]) (st1 := []) (fun o kT kF => ?_) (fun h1 => ?_) (fun h1 => ?_)
        · refine j_icle (t := 60) (pc' := 55) rfl rfl rfl (fun h2 => ?_) (fun h2 => ?_)
          · exact kF h2
          · exact kT h2
        · refine j_iload (pc' := 57) rfl rfl rfl ?_
          refine j_goto (t := 61) rfl rfl ?_
          refine j_wk [true, true, true, false, true] (L' := [some (.ref 75), some (.int l1), some (.int l2), none, some (.int l4)]) rfl ?_
          exact j_end (fun _ h => h)
        · refine j_iload_n (pc' := 61) rfl rfl rfl ?_
          refine j_wk [true, true, true, false, true] (L' := [some (.ref 75), some (.int l1), some (.int l2), none, some (.int l4)]) rfl ?_
          exact j_end (fun _ h => h)
      show j_J false τ M_cX12_waits d 61 [some (.ref 75), some (.int l1), some (.int l2), none, some (.int l4)] [.int v6] σ4 _ _
      refine j_istore_n (pc' := 62) (L' := [some (.ref 75), some (.int l1), some (.int l2), some (.int v6), some (.int l4)]) rfl rfl rfl ?_
      refine j_iincx (pc' := 65) (y := (1 : Int32)) (L' := [some (.ref 75), some (.int l1), some (.int l2), some (.int v6), some (.int (l4 + (1 : Int32)))]) rfl rfl rfl rfl rfl ?_
      refine j_goto (t := 30) rfl rfl ?_
      exact ih v6 (l4 + (1 : Int32)) σ4
    · refine j_wk [true, true, true, true, false] (L' := [some (.ref 75), some (.int l1), some (.int l2), some (.int l3), none]) rfl ?_
      exact j_end (fun _ h => h)

theorem c_X12_waits (l1 : Int32) (l2 : Int32) (σ : j_G) : j_K false 6 277 [.ref 75, .int l1, .int l2] σ (f_X12_waits l1 l2 σ) j_Ri := by
  refine j_mkK (M := M_cX12_waits) (L := [some (.ref 75), some (.int l1), some (.int l2), none, none]) (m := 2) t_277 rfl (j_rcvO j_a75 rfl) rfl (fun d hd τ => ?_)
  unfold f_X12_waits
  refine j_aload_n (pc' := 1) rfl rfl rfl ?_
  refine j_iload_n (pc' := 2) rfl rfl rfl ?_
  refine j_callPi (pc' := 5) (ai := 205) (vs := [.ref 75, .int l1]) (rest := []) rfl rfl (fun _ _ => rfl) (c_X12_isPlayer l1 σ) (j_dd rfl hd) rfl (fun v1 => ?_)
  refine j_two (pT := 18) (pF := 21) (L1 := [some (.ref 75), some (.int l1), some (.int l2), none, none]) (st1 := []) (fun o kT kF => ?_) (fun h3 => ?_) (fun h3 => ?_)
  · refine j_ifeq (t := 18) (pc' := 8) rfl rfl rfl (fun h4 => ?_) (fun h4 => ?_)
    · exact kT (Or.inl h4)
    · refine j_iload_n (pc' := 9) rfl rfl rfl ?_
      refine j_i2l (pc' := 10) rfl rfl ?_
      refine j_lconst (pc' := 11) (x := (0 : Int64)) rfl rfl rfl ?_
      refine j_lconst (pc' := 12) (x := (1 : Int64)) rfl rfl rfl ?_
      refine j_callTi (pc' := 15) (ai := 196) (vs := [.long (l2).toInt64, .long (0 : Int64), .long (1 : Int64)]) (rest := []) rfl rfl (fun _ _ => rfl) (c_X12_in (l2).toInt64 (0 : Int64) (1 : Int64) σ) (j_dd rfl hd) rfl ?_
      refine j_ifne (t := 21) (pc' := 18) rfl rfl rfl (fun h5 => ?_) (fun h5 => ?_)
      · exact kF (fun z => z.elim h4 (h5))
      · exact kT (Or.inr (h5))
  · refine j_bipush (pc' := 20) (x := (-2 : Int32)) rfl rfl rfl ?_
    exact j_ret rfl rfl rfl (fun _ h => h)
  · refine j_aload_n (pc' := 22) rfl rfl rfl ?_
    refine j_callRv (pc' := 25) (ai := 237) (vs := [.ref 75]) (rest := []) rfl rfl (fun _ _ => rfl) (c_X12_lay  σ) (j_dd rfl hd) rfl (fun σ2 => ?_)
    refine j_iconst (pc' := 26) (x := (0 : Int32)) rfl rfl rfl ?_
    refine j_istore_n (pc' := 27) (L' := [some (.ref 75), some (.int l1), some (.int l2), some (.int (0 : Int32)), none]) rfl rfl rfl ?_
    refine j_iconst (pc' := 28) (x := (1 : Int32)) rfl rfl rfl ?_
    refine j_istore (pc' := 30) (L' := [some (.ref 75), some (.int l1), some (.int l2), some (.int (0 : Int32)), some (.int (1 : Int32))]) rfl rfl rfl ?_
    refine j_q2 (l_X12_waits_30 hd τ l1 l2 j_F (0 : Int32) (1 : Int32) σ2) (fun v3 σ4 => ?_)
    show j_J false τ M_cX12_waits d 68 [some (.ref 75), some (.int l1), some (.int l2), some (.int v3), none] [] σ4 _ _
    refine j_iload_n (pc' := 69) rfl rfl rfl ?_
    refine j_two (pT := 72) (pF := 76) (L1 := [some (.ref 75), some (.int l1), some (.int l2), some (.int v3), none]) (st1 := []) (fun o kT kF => ?_) (fun h1 => ?_) (fun h1 => ?_)
    · refine j_ifne (t := 76) (pc' := 72) rfl rfl rfl (fun h2 => ?_) (fun h2 => ?_)
      · exact kF h2
      · exact kT h2
    · refine j_iload_n (pc' := 73) rfl rfl rfl ?_
      refine j_goto (t := 82) rfl rfl ?_
      exact j_ret rfl rfl rfl (fun _ h => h)
    · refine j_aload_n (pc' := 77) rfl rfl rfl ?_
      refine j_iload_n (pc' := 78) rfl rfl rfl ?_
      refine j_iload_n (pc' := 79) rfl rfl rfl ?_
      refine j_callRi (pc' := 82) (ai := 276) (vs := [.ref 75, .int l1, .int v3]) (rest := []) rfl rfl (fun _ _ => rfl) (c_X12_waitingAt l1 v3 σ4) (j_dd rfl hd) rfl (fun v6 σ5 => ?_)
      exact j_ret rfl rfl rfl (fun _ h => h)

noncomputable def f_X11_hitsLagging (l1 : Int32) (σ : j_G) : Option (Int32 × j_G) :=
  j_lt (j_si σ 28 1 l1) fun σ1 =>
  j_b2 (f_X9_good 30 28 22 31 32 25 23 24 26 33 34 (-1 : Int32) σ1) fun v3 σ2 =>
  some (v3, σ2)
theorem c_X11_hitsLagging (l1 : Int32) (σ : j_G) : j_K true 5 189 [.ref 0, .int l1] σ (f_X11_hitsLagging l1 σ) j_Ri := by
  refine j_mkK (M := M_cX11_hitsLagging) (L := [some (.ref 0), some (.int l1)]) (m := 0) t_189 rfl (j_rcvO j_a0 rfl) rfl (fun d hd τ => ?_)
  unfold f_X11_hitsLagging
  refine j_aload_n (pc' := 1) rfl rfl rfl ?_
  refine j_gfr (pc' := 4) (x := 28) rfl rfl j_a0 rfl rfl ?_
  refine j_iload_n (pc' := 5) rfl rfl rfl ?_
  refine j_pfi (pc' := 8) rfl rfl j_a28 rfl rfl (fun σ1 => ?_)
  refine j_aload_n (pc' := 9) rfl rfl rfl ?_
  refine j_gfr (pc' := 12) (x := 30) rfl rfl j_a0 rfl rfl ?_
  refine j_aload_n (pc' := 13) rfl rfl rfl ?_
  refine j_gfr (pc' := 16) (x := 1) rfl rfl j_a0 rfl rfl ?_
  refine j_aload_n (pc' := 17) rfl rfl rfl ?_
  refine j_gfr (pc' := 20) (x := 22) rfl rfl j_a0 rfl rfl ?_
  refine j_aload_n (pc' := 21) rfl rfl rfl ?_
  refine j_gfr (pc' := 24) (x := 28) rfl rfl j_a0 rfl rfl ?_
  refine j_iconst (pc' := 25) (x := (-1 : Int32)) rfl rfl rfl ?_
  refine j_callRi (pc' := 28) (ai := 100) (vs := [.ref 30, .ref 1, .ref 22, .ref 28, .int (-1 : Int32)]) (rest := []) rfl rfl (fun _ _ => rfl) (c_X9_good_30_1_22_28 (-1 : Int32) σ1) (j_dd rfl hd) rfl (fun v3 σ2 => ?_)
  exact j_ret rfl rfl rfl (fun _ h => h)

noncomputable def p_X11_slack_22 (l3 : Int32) : Nat → Int32 → Int32 → j_G → Option (Int32 × j_G)
  | 0, _, _, _ => none
  | n + 1, l2, l4, σ =>
    if ¬ (20 : Int32) < l4 then (j_b2 (f_X11_hitsLagging l4 σ) fun v2 σ1 =>
    j_lt (if v2 = l3 then (l4) else (l2)) fun v3 =>
    p_X11_slack_22 l3 n v3 (l4 + (1 : Int32)) σ1) else (some (l2, σ))

noncomputable def f_X11_slack (l1 : Int32) (σ : j_G) : Option (Int32 × j_G) :=
  j_b2 (f_X11_makeReady l1 σ) fun v2 σ1 =>
  if v2 = 0 then (some ((-2 : Int32), σ1)) else (j_b2 (f_X11_hitsLagging (0 : Int32) σ1) fun v4 σ3 =>
  j_b2 (p_X11_slack_22 v4 j_F (0 : Int32) (1 : Int32) σ3) fun v5 σ6 =>
  some (v5, σ6))
theorem l_X11_slack_22 {d : Nat} (hd : 6 ≤ d) (τ : j_G) (l3 : Int32) : ∀ (n : Nat) (l2 : Int32) (l4 : Int32) (σ : j_G), j_J true τ M_cX11_slack d 22 [some (.ref 0), none, some (.int l2), some (.int l3), some (.int l4)] [] σ (p_X11_slack_22 l3 n l2 l4 σ) (fun r Q => j_Tr true τ M_cX11_slack d 48 [none, none, some (.int r.1), none, none] [] r.2 Q) := by
  intro n
  induction n with
  | zero => intro l2 l4 σ; exact j_none
  | succ n ih =>
    intro l2 l4 σ
    unfold p_X11_slack_22
    refine j_iload (pc' := 24) rfl rfl rfl ?_
    refine j_bipush (pc' := 26) (x := (20 : Int32)) rfl rfl rfl ?_
    refine j_two (pT := 29) (pF := 48) (L1 := [some (.ref 0), none, some (.int l2), some (.int l3), some (.int l4)]) (st1 := []) (fun o kT kF => ?_) (fun h3 => ?_) (fun h3 => ?_)
    · refine j_icgt (t := 48) (pc' := 29) rfl rfl rfl (fun h4 => ?_) (fun h4 => ?_)
      · exact kF (fun z => z h4)
      · exact kT h4
    · refine j_aload_n (pc' := 30) rfl rfl rfl ?_
      refine j_iload (pc' := 32) rfl rfl rfl ?_
      refine j_callRi (pc' := 35) (ai := 189) (vs := [.ref 0, .int l4]) (rest := []) rfl rfl (fun _ _ => rfl) (c_X11_hitsLagging l4 σ) (j_dd rfl hd) rfl (fun v2 σ1 => ?_)
      refine j_iload_n (pc' := 36) rfl rfl rfl ?_
      refine j_ql (Φl := (fun r Q => j_Tr true τ M_cX11_slack d 42 [some (.ref 0), none, some (.int r), some (.int l3), some (.int l4)] [] σ1 Q)) ?_ (fun v3 => ?_)
      · refine j_twoT (pT := 39) (pF := 42) (L1 := [some (.ref 0), none, some (.int l2), some (.int l3), some (.int l4)]) (st1 := []) (fun o kT kF => ?_) (fun h1 => ?_) (fun h1 => ?_)
        · refine j_icne (t := 42) (pc' := 39) rfl rfl rfl (fun h2 => ?_) (fun h2 => ?_)
          · exact kF h2
          · exact kT h2
        · refine j_iload (pc' := 41) rfl rfl rfl ?_
          refine j_istore_n (pc' := 42) (L' := [some (.ref 0), none, some (.int l4), some (.int l3), some (.int l4)]) rfl rfl rfl ?_
          exact j_end (fun _ h => h)
        · exact j_end (fun _ h => h)
      show j_J true τ M_cX11_slack d 42 [some (.ref 0), none, some (.int v3), some (.int l3), some (.int l4)] [] σ1 _ _
      refine j_iincx (pc' := 45) (y := (1 : Int32)) (L' := [some (.ref 0), none, some (.int v3), some (.int l3), some (.int (l4 + (1 : Int32)))]) rfl rfl rfl rfl rfl ?_
      refine j_goto (t := 22) rfl rfl ?_
      exact ih v3 (l4 + (1 : Int32)) σ1
    · refine j_wk [false, true, true, false, false] (L' := [none, none, some (.int l2), none, none]) rfl ?_
      exact j_end (fun _ h => h)

theorem c_X11_slack (l1 : Int32) (σ : j_G) : j_K true 6 138 [.ref 0, .int l1] σ (f_X11_slack l1 σ) j_Ri := by
  refine j_mkK (M := M_cX11_slack) (L := [some (.ref 0), some (.int l1), none, none, none]) (m := 3) t_138 rfl (j_rcvO j_a0 rfl) rfl (fun d hd τ => ?_)
  unfold f_X11_slack
  refine j_aload_n (pc' := 1) rfl rfl rfl ?_
  refine j_iload_n (pc' := 2) rfl rfl rfl ?_
  refine j_callRi (pc' := 5) (ai := 186) (vs := [.ref 0, .int l1]) (rest := []) rfl rfl (fun _ _ => rfl) (c_X11_makeReady l1 σ) (j_dd rfl hd) rfl (fun v2 σ1 => ?_)
  refine j_two (pT := 8) (pF := 11) (L1 := [some (.ref 0), some (.int l1), none, none, none]) (st1 := []) (fun o kT kF => ?_) (fun h1 => ?_) (fun h1 => ?_)
  · refine j_ifne (t := 11) (pc' := 8) rfl rfl rfl (fun h2 => ?_) (fun h2 => ?_)
    · exact kF h2
    · exact kT h2
  · refine j_bipush (pc' := 10) (x := (-2 : Int32)) rfl rfl rfl ?_
    exact j_ret rfl rfl rfl (fun _ h => h)
  · refine j_iconst (pc' := 12) (x := (0 : Int32)) rfl rfl rfl ?_
    refine j_istore_n (pc' := 13) (L' := [some (.ref 0), some (.int l1), some (.int (0 : Int32)), none, none]) rfl rfl rfl ?_
    refine j_aload_n (pc' := 14) rfl rfl rfl ?_
    refine j_iconst (pc' := 15) (x := (0 : Int32)) rfl rfl rfl ?_
    refine j_callRi (pc' := 18) (ai := 189) (vs := [.ref 0, .int (0 : Int32)]) (rest := []) rfl rfl (fun _ _ => rfl) (c_X11_hitsLagging (0 : Int32) σ1) (j_dd rfl hd) rfl (fun v4 σ3 => ?_)
    refine j_istore_n (pc' := 19) (L' := [some (.ref 0), some (.int l1), some (.int (0 : Int32)), some (.int v4), none]) rfl rfl rfl ?_
    refine j_iconst (pc' := 20) (x := (1 : Int32)) rfl rfl rfl ?_
    refine j_istore (pc' := 22) (L' := [some (.ref 0), some (.int l1), some (.int (0 : Int32)), some (.int v4), some (.int (1 : Int32))]) rfl rfl rfl ?_
    refine j_wk [true, false, true, true, true] (L' := [some (.ref 0), none, some (.int (0 : Int32)), some (.int v4), some (.int (1 : Int32))]) rfl ?_
    refine j_q2 (l_X11_slack_22 hd τ v4 j_F (0 : Int32) (1 : Int32) σ3) (fun v5 σ6 => ?_)
    show j_J true τ M_cX11_slack d 48 [none, none, some (.int v5), none, none] [] σ6 _ _
    refine j_iload_n (pc' := 49) rfl rfl rfl ?_
    exact j_ret rfl rfl rfl (fun _ h => h)

noncomputable def f_X12_lagging (l1 : Int32) (l2 : Int32) (σ : j_G) : Option (Int32 × j_G) :=
  j_b1 (f_X12_asTold l1 σ) fun σ1 =>
  j_lt (j_si σ1 75 20 l2) fun σ2 =>
  j_b1 (f_X12_run σ2) fun σ3 =>
  some ((σ3.1 75 29), σ3)
theorem c_X12_lagging (l1 : Int32) (l2 : Int32) (σ : j_G) : j_K false 5 287 [.ref 75, .int l1, .int l2] σ (f_X12_lagging l1 l2 σ) j_Ri := by
  refine j_mkK (M := M_cX12_lagging) (L := [some (.ref 75), some (.int l1), some (.int l2)]) (m := 0) t_287 rfl (j_rcvO j_a75 rfl) rfl (fun d hd τ => ?_)
  unfold f_X12_lagging
  refine j_aload_n (pc' := 1) rfl rfl rfl ?_
  refine j_iload_n (pc' := 2) rfl rfl rfl ?_
  refine j_callRv (pc' := 5) (ai := 252) (vs := [.ref 75, .int l1]) (rest := []) rfl rfl (fun _ _ => rfl) (c_X12_asTold l1 σ) (j_dd rfl hd) rfl (fun σ1 => ?_)
  refine j_aload_n (pc' := 6) rfl rfl rfl ?_
  refine j_iload_n (pc' := 7) rfl rfl rfl ?_
  refine j_pfi (pc' := 10) rfl rfl j_a75 rfl rfl (fun σ2 => ?_)
  refine j_aload_n (pc' := 11) rfl rfl rfl ?_
  refine j_callRv (pc' := 14) (ai := 258) (vs := [.ref 75]) (rest := []) rfl rfl (fun _ _ => rfl) (c_X12_run  σ2) (j_dd rfl hd) rfl (fun σ3 => ?_)
  refine j_aload_n (pc' := 15) rfl rfl rfl ?_
  refine j_gfi (pc' := 18) rfl rfl j_a75 rfl ?_
  exact j_ret rfl rfl rfl (fun _ h => h)

noncomputable def p_X12_slack_27 (l1 : Int32) (l2 : Int32) : Nat → Int32 → Int32 → j_G → Option (Int32 × j_G)
  | 0, _, _, _ => none
  | n + 1, l3, l4, σ =>
    if ¬ (20 : Int32) < l4 then (j_b2 (f_X12_lagging l1 l4 σ) fun v2 σ1 =>
    j_lt (if v2 = l2 then (l4) else (l3)) fun v3 =>
    p_X12_slack_27 l1 l2 n v3 (l4 + (1 : Int32)) σ1) else (some (l3, σ))

noncomputable def f_X12_slack (l1 : Int32) (σ : j_G) : Option (Int32 × j_G) :=
  j_b1 (f_X12_isPlayer l1 σ) fun v1 =>
  if v1 = 0 then (some ((-2 : Int32), σ)) else (j_b1 (f_X12_lay σ) fun σ2 =>
  j_b2 (f_X12_lagging l1 (0 : Int32) σ2) fun v4 σ3 =>
  j_b2 (p_X12_slack_27 l1 v4 j_F (0 : Int32) (1 : Int32) σ3) fun v5 σ6 =>
  some (v5, σ6))
theorem l_X12_slack_27 {d : Nat} (hd : 6 ≤ d) (τ : j_G) (l1 : Int32) (l2 : Int32) : ∀ (n : Nat) (l3 : Int32) (l4 : Int32) (σ : j_G), j_J false τ M_cX12_slack d 27 [some (.ref 75), some (.int l1), some (.int l2), some (.int l3), some (.int l4)] [] σ (p_X12_slack_27 l1 l2 n l3 l4 σ) (fun r Q => j_Tr false τ M_cX12_slack d 58 [none, none, none, some (.int r.1), none] [] r.2 Q) := by
  intro n
  induction n with
  | zero => intro l3 l4 σ; exact j_none
  | succ n ih =>
    intro l3 l4 σ
    unfold p_X12_slack_27
    refine j_iload (pc' := 29) rfl rfl rfl ?_
    refine j_bipush (pc' := 31) (x := (20 : Int32)) rfl rfl rfl ?_
    refine j_two (pT := 34) (pF := 58) (L1 := [some (.ref 75), some (.int l1), some (.int l2), some (.int l3), some (.int l4)]) (st1 := []) (fun o kT kF => ?_) (fun h3 => ?_) (fun h3 => ?_)
    · refine j_icgt (t := 58) (pc' := 34) rfl rfl rfl (fun h4 => ?_) (fun h4 => ?_)
      · exact kF (fun z => z h4)
      · exact kT h4
    · refine j_aload_n (pc' := 35) rfl rfl rfl ?_
      refine j_iload_n (pc' := 36) rfl rfl rfl ?_
      refine j_iload (pc' := 38) rfl rfl rfl ?_
      refine j_callRi (pc' := 41) (ai := 287) (vs := [.ref 75, .int l1, .int l4]) (rest := []) rfl rfl (fun _ _ => rfl) (c_X12_lagging l1 l4 σ) (j_dd rfl hd) rfl (fun v2 σ1 => ?_)
      refine j_iload_n (pc' := 42) rfl rfl rfl ?_
      refine j_ql (Φl := (fun r Q => j_Tr false τ M_cX12_slack d 51 [some (.ref 75), some (.int l1), some (.int l2), none, some (.int l4)] [.int r] σ1 Q)) ?_ (fun v3 => ?_)
      · refine j_twoT (pT := 45) (pF := 50) (L1 := [some (.ref 75), some (.int l1), some (.int l2), some (.int l3), some (.int l4)]) (st1 := []) (fun o kT kF => ?_) (fun h1 => ?_) (fun h1 => ?_)
        · refine j_icne (t := 50) (pc' := 45) rfl rfl rfl (fun h2 => ?_) (fun h2 => ?_)
          · exact kF h2
          · exact kT h2
        · refine j_iload (pc' := 47) rfl rfl rfl ?_
          refine j_goto (t := 51) rfl rfl ?_
          refine j_wk [true, true, true, false, true] (L' := [some (.ref 75), some (.int l1), some (.int l2), none, some (.int l4)]) rfl ?_
          exact j_end (fun _ h => h)
        · refine j_iload_n (pc' := 51) rfl rfl rfl ?_
          refine j_wk [true, true, true, false, true] (L' := [some (.ref 75), some (.int l1), some (.int l2), none, some (.int l4)]) rfl ?_
          exact j_end (fun _ h => h)
      show j_J false τ M_cX12_slack d 51 [some (.ref 75), some (.int l1), some (.int l2), none, some (.int l4)] [.int v3] σ1 _ _
      refine j_istore_n (pc' := 52) (L' := [some (.ref 75), some (.int l1), some (.int l2), some (.int v3), some (.int l4)]) rfl rfl rfl ?_
      refine j_iincx (pc' := 55) (y := (1 : Int32)) (L' := [some (.ref 75), some (.int l1), some (.int l2), some (.int v3), some (.int (l4 + (1 : Int32)))]) rfl rfl rfl rfl rfl ?_
      refine j_goto (t := 27) rfl rfl ?_
      exact ih v3 (l4 + (1 : Int32)) σ1
    · refine j_wk [false, false, false, true, false] (L' := [none, none, none, some (.int l3), none]) rfl ?_
      exact j_end (fun _ h => h)

theorem c_X12_slack (l1 : Int32) (σ : j_G) : j_K false 6 288 [.ref 75, .int l1] σ (f_X12_slack l1 σ) j_Ri := by
  refine j_mkK (M := M_cX12_slack) (L := [some (.ref 75), some (.int l1), none, none, none]) (m := 3) t_288 rfl (j_rcvO j_a75 rfl) rfl (fun d hd τ => ?_)
  unfold f_X12_slack
  refine j_aload_n (pc' := 1) rfl rfl rfl ?_
  refine j_iload_n (pc' := 2) rfl rfl rfl ?_
  refine j_callPi (pc' := 5) (ai := 205) (vs := [.ref 75, .int l1]) (rest := []) rfl rfl (fun _ _ => rfl) (c_X12_isPlayer l1 σ) (j_dd rfl hd) rfl (fun v1 => ?_)
  refine j_two (pT := 8) (pF := 11) (L1 := [some (.ref 75), some (.int l1), none, none, none]) (st1 := []) (fun o kT kF => ?_) (fun h1 => ?_) (fun h1 => ?_)
  · refine j_ifne (t := 11) (pc' := 8) rfl rfl rfl (fun h2 => ?_) (fun h2 => ?_)
    · exact kF h2
    · exact kT h2
  · refine j_bipush (pc' := 10) (x := (-2 : Int32)) rfl rfl rfl ?_
    exact j_ret rfl rfl rfl (fun _ h => h)
  · refine j_aload_n (pc' := 12) rfl rfl rfl ?_
    refine j_callRv (pc' := 15) (ai := 237) (vs := [.ref 75]) (rest := []) rfl rfl (fun _ _ => rfl) (c_X12_lay  σ) (j_dd rfl hd) rfl (fun σ2 => ?_)
    refine j_aload_n (pc' := 16) rfl rfl rfl ?_
    refine j_iload_n (pc' := 17) rfl rfl rfl ?_
    refine j_iconst (pc' := 18) (x := (0 : Int32)) rfl rfl rfl ?_
    refine j_callRi (pc' := 21) (ai := 287) (vs := [.ref 75, .int l1, .int (0 : Int32)]) (rest := []) rfl rfl (fun _ _ => rfl) (c_X12_lagging l1 (0 : Int32) σ2) (j_dd rfl hd) rfl (fun v4 σ3 => ?_)
    refine j_istore_n (pc' := 22) (L' := [some (.ref 75), some (.int l1), some (.int v4), none, none]) rfl rfl rfl ?_
    refine j_iconst (pc' := 23) (x := (0 : Int32)) rfl rfl rfl ?_
    refine j_istore_n (pc' := 24) (L' := [some (.ref 75), some (.int l1), some (.int v4), some (.int (0 : Int32)), none]) rfl rfl rfl ?_
    refine j_iconst (pc' := 25) (x := (1 : Int32)) rfl rfl rfl ?_
    refine j_istore (pc' := 27) (L' := [some (.ref 75), some (.int l1), some (.int v4), some (.int (0 : Int32)), some (.int (1 : Int32))]) rfl rfl rfl ?_
    refine j_q2 (l_X12_slack_27 hd τ l1 v4 j_F (0 : Int32) (1 : Int32) σ3) (fun v5 σ6 => ?_)
    show j_J false τ M_cX12_slack d 58 [none, none, none, some (.int v5), none] [] σ6 _ _
    refine j_iload_n (pc' := 59) rfl rfl rfl ?_
    exact j_ret rfl rfl rfl (fun _ h => h)

noncomputable def p_X11_lucky_33 : Nat → Int32 → Int32 → Int32 → j_G → Option (Int32 × j_G)
  | 0, _, _, _, _ => none
  | n + 1, l2, l3, l4, σ =>
    if l4 < (σ.1 5 0) then (j_b1 (f_X4_deal l4 σ) fun σ1 =>
    j_b2 (f_X9_good 30 28 22 31 32 25 23 24 26 33 34 (-1 : Int32) σ1) fun v3 σ2 =>
    j_lt (if l3 < v3 then ((l4, v3)) else ((l2, l3))) fun r6 =>
    p_X11_lucky_33 n (r6.1) (r6.2) (l4 + (1 : Int32)) σ2) else (some (l2, σ))

noncomputable def f_X11_lucky (l1 : Int32) (σ : j_G) : Option (Int32 × j_G) :=
  if (f_X2_isPlayer l1 σ) = 0 then (some ((-2 : Int32), σ)) else (j_b1 (f_X6_take 28 l1 σ) fun σ1 =>
  j_b2 (p_X11_lucky_33 j_F (-1 : Int32) (-1 : Int32) (0 : Int32) σ1) fun v2 σ3 =>
  some (v2, σ3))
theorem l_X11_lucky_33 {d : Nat} (hd : 5 ≤ d) (τ : j_G) : ∀ (n : Nat) (l2 : Int32) (l3 : Int32) (l4 : Int32) (σ : j_G), j_J true τ M_cX11_lucky d 33 [some (.ref 0), none, some (.int l2), some (.int l3), some (.int l4), none] [] σ (p_X11_lucky_33 n l2 l3 l4 σ) (fun r Q => j_Tr true τ M_cX11_lucky d 101 [none, none, some (.int r.1), none, none, none] [] r.2 Q) := by
  intro n
  induction n with
  | zero => intro l2 l3 l4 σ; exact j_none
  | succ n ih =>
    intro l2 l3 l4 σ
    unfold p_X11_lucky_33
    refine j_iload (pc' := 35) rfl rfl rfl ?_
    refine j_aload_n (pc' := 36) rfl rfl rfl ?_
    refine j_gfr (pc' := 39) (x := 1) rfl rfl j_a0 rfl rfl ?_
    refine j_gfr (pc' := 42) (x := 5) rfl rfl j_a1 rfl rfl ?_
    refine j_gfi (pc' := 45) rfl rfl j_a5 rfl ?_
    refine j_two (pT := 48) (pF := 101) (L1 := [some (.ref 0), none, some (.int l2), some (.int l3), some (.int l4), none]) (st1 := []) (fun o kT kF => ?_) (fun h3 => ?_) (fun h3 => ?_)
    · refine j_icge (t := 101) (pc' := 48) rfl rfl rfl (fun h4 => ?_) (fun h4 => ?_)
      · exact kF h4
      · exact kT h4
    · refine j_aload_n (pc' := 49) rfl rfl rfl ?_
      refine j_gfr (pc' := 52) (x := 22) rfl rfl j_a0 rfl rfl ?_
      refine j_aload_n (pc' := 53) rfl rfl rfl ?_
      refine j_gfr (pc' := 56) (x := 1) rfl rfl j_a0 rfl rfl ?_
      refine j_iload (pc' := 58) rfl rfl rfl ?_
      refine j_callRv (pc' := 61) (ai := 42) (vs := [.ref 22, .ref 1, .int l4]) (rest := []) rfl rfl (fun _ _ => rfl) (c_X4_deal l4 σ) (j_dd rfl hd) rfl (fun σ1 => ?_)
      refine j_aload_n (pc' := 62) rfl rfl rfl ?_
      refine j_gfr (pc' := 65) (x := 30) rfl rfl j_a0 rfl rfl ?_
      refine j_aload_n (pc' := 66) rfl rfl rfl ?_
      refine j_gfr (pc' := 69) (x := 1) rfl rfl j_a0 rfl rfl ?_
      refine j_aload_n (pc' := 70) rfl rfl rfl ?_
      refine j_gfr (pc' := 73) (x := 22) rfl rfl j_a0 rfl rfl ?_
      refine j_aload_n (pc' := 74) rfl rfl rfl ?_
      refine j_gfr (pc' := 77) (x := 28) rfl rfl j_a0 rfl rfl ?_
      refine j_iconst (pc' := 78) (x := (-1 : Int32)) rfl rfl rfl ?_
      refine j_callRi (pc' := 81) (ai := 100) (vs := [.ref 30, .ref 1, .ref 22, .ref 28, .int (-1 : Int32)]) (rest := []) rfl rfl (fun _ _ => rfl) (c_X9_good_30_1_22_28 (-1 : Int32) σ1) (j_dd rfl hd) rfl (fun v3 σ2 => ?_)
      refine j_istore (pc' := 83) (L' := [some (.ref 0), none, some (.int l2), some (.int l3), some (.int l4), some (.int v3)]) rfl rfl rfl ?_
      refine j_iload (pc' := 85) rfl rfl rfl ?_
      refine j_iload_n (pc' := 86) rfl rfl rfl ?_
      refine j_ql (Φl := (fun r Q => j_Tr true τ M_cX11_lucky d 95 [some (.ref 0), none, some (.int r.1), some (.int r.2), some (.int l4), none] [] σ2 Q)) ?_ (fun r6 => ?_)
      · refine j_twoT (pT := 89) (pF := 95) (L1 := [some (.ref 0), none, some (.int l2), some (.int l3), some (.int l4), some (.int v3)]) (st1 := []) (fun o kT kF => ?_) (fun h1 => ?_) (fun h1 => ?_)
        · refine j_icle (t := 95) (pc' := 89) rfl rfl rfl (fun h2 => ?_) (fun h2 => ?_)
          · exact kF h2
          · exact kT h2
        · refine j_iload (pc' := 91) rfl rfl rfl ?_
          refine j_istore_n (pc' := 92) (L' := [some (.ref 0), none, some (.int l2), some (.int v3), some (.int l4), some (.int v3)]) rfl rfl rfl ?_
          refine j_iload (pc' := 94) rfl rfl rfl ?_
          refine j_istore_n (pc' := 95) (L' := [some (.ref 0), none, some (.int l4), some (.int v3), some (.int l4), some (.int v3)]) rfl rfl rfl ?_
          refine j_wk [true, true, true, true, true, false] (L' := [some (.ref 0), none, some (.int l4), some (.int v3), some (.int l4), none]) rfl ?_
          exact j_end (fun _ h => h)
        · refine j_wk [true, true, true, true, true, false] (L' := [some (.ref 0), none, some (.int l2), some (.int l3), some (.int l4), none]) rfl ?_
          exact j_end (fun _ h => h)
      show j_J true τ M_cX11_lucky d 95 [some (.ref 0), none, some (.int (r6.1)), some (.int (r6.2)), some (.int l4), none] [] σ2 _ _
      refine j_iincx (pc' := 98) (y := (1 : Int32)) (L' := [some (.ref 0), none, some (.int (r6.1)), some (.int (r6.2)), some (.int (l4 + (1 : Int32))), none]) rfl rfl rfl rfl rfl ?_
      refine j_goto (t := 33) rfl rfl ?_
      exact ih (r6.1) (r6.2) (l4 + (1 : Int32)) σ2
    · refine j_wk [false, true, true, false, false, true] (L' := [none, none, some (.int l2), none, none, none]) rfl ?_
      exact j_end (fun _ h => h)

theorem c_X11_lucky (l1 : Int32) (σ : j_G) : j_K true 5 139 [.ref 0, .int l1] σ (f_X11_lucky l1 σ) j_Ri := by
  refine j_mkK (M := M_cX11_lucky) (L := [some (.ref 0), some (.int l1), none, none, none, none]) (m := 4) t_139 rfl (j_rcvO j_a0 rfl) rfl (fun d hd τ => ?_)
  unfold f_X11_lucky
  refine j_aload_n (pc' := 1) rfl rfl rfl ?_
  refine j_gfr (pc' := 4) (x := 1) rfl rfl j_a0 rfl rfl ?_
  refine j_iload_n (pc' := 5) rfl rfl rfl ?_
  refine j_callTi (pc' := 8) (ai := 15) (vs := [.ref 1, .int l1]) (rest := []) rfl rfl (fun _ _ => rfl) (c_X2_isPlayer l1 σ) (j_dd rfl hd) rfl ?_
  refine j_two (pT := 11) (pF := 14) (L1 := [some (.ref 0), some (.int l1), none, none, none, none]) (st1 := []) (fun o kT kF => ?_) (fun h1 => ?_) (fun h1 => ?_)
  · refine j_ifne (t := 14) (pc' := 11) rfl rfl rfl (fun h2 => ?_) (fun h2 => ?_)
    · exact kF h2
    · exact kT h2
  · refine j_bipush (pc' := 13) (x := (-2 : Int32)) rfl rfl rfl ?_
    exact j_ret rfl rfl rfl (fun _ h => h)
  · refine j_aload_n (pc' := 15) rfl rfl rfl ?_
    refine j_gfr (pc' := 18) (x := 28) rfl rfl j_a0 rfl rfl ?_
    refine j_aload_n (pc' := 19) rfl rfl rfl ?_
    refine j_gfr (pc' := 22) (x := 1) rfl rfl j_a0 rfl rfl ?_
    refine j_iload_n (pc' := 23) rfl rfl rfl ?_
    refine j_callRv (pc' := 26) (ai := 64) (vs := [.ref 28, .ref 1, .int l1]) (rest := []) rfl rfl (fun _ _ => rfl) (c_X6_take_28_1 l1 σ) (j_dd rfl hd) rfl (fun σ1 => ?_)
    refine j_iconst (pc' := 27) (x := (-1 : Int32)) rfl rfl rfl ?_
    refine j_istore_n (pc' := 28) (L' := [some (.ref 0), some (.int l1), some (.int (-1 : Int32)), none, none, none]) rfl rfl rfl ?_
    refine j_iconst (pc' := 29) (x := (-1 : Int32)) rfl rfl rfl ?_
    refine j_istore_n (pc' := 30) (L' := [some (.ref 0), some (.int l1), some (.int (-1 : Int32)), some (.int (-1 : Int32)), none, none]) rfl rfl rfl ?_
    refine j_iconst (pc' := 31) (x := (0 : Int32)) rfl rfl rfl ?_
    refine j_istore (pc' := 33) (L' := [some (.ref 0), some (.int l1), some (.int (-1 : Int32)), some (.int (-1 : Int32)), some (.int (0 : Int32)), none]) rfl rfl rfl ?_
    refine j_wk [true, false, true, true, true, true] (L' := [some (.ref 0), none, some (.int (-1 : Int32)), some (.int (-1 : Int32)), some (.int (0 : Int32)), none]) rfl ?_
    refine j_q2 (l_X11_lucky_33 hd τ j_F (-1 : Int32) (-1 : Int32) (0 : Int32) σ1) (fun v2 σ3 => ?_)
    show j_J true τ M_cX11_lucky d 101 [none, none, some (.int v2), none, none, none] [] σ3 _ _
    refine j_iload_n (pc' := 102) rfl rfl rfl ?_
    exact j_ret rfl rfl rfl (fun _ h => h)

noncomputable def p_X12_lucky_27 (l1 : Int32) (l2 : Int32) : Nat → Int32 → Int32 → Int32 → j_G → Option (Int32 × j_G)
  | 0, _, _, _, _ => none
  | n + 1, l3, l4, l5, σ =>
    j_ix (5 : Int32) 116 (
    if l5 < (σ.1 76 ((5 : Int32)).toNatClampNeg) then (j_ix (8 : Int32) 116 (
    j_lt (j_si σ 76 ((8 : Int32)).toNatClampNeg l5) fun σ1 =>
    j_b1 (f_X12_runAsTold l1 σ1) fun σ2 =>
    j_lt (if ¬ l4 < (σ2.1 75 29) then ((l3, l4)) else (j_lt (σ2.1 75 29) fun v5 =>
    (l5, v5))) fun r6 =>
    p_X12_lucky_27 l1 l2 n (r6.1) (r6.2) (l5 + (1 : Int32)) σ2)) else (some (l3, σ)))

noncomputable def f_X12_lucky (l1 : Int32) (σ : j_G) : Option (Int32 × j_G) :=
  j_b1 (f_X12_isPlayer l1 σ) fun v1 =>
  if v1 = 0 then (some ((-2 : Int32), σ)) else (j_ix (8 : Int32) 116 (
  j_lt (σ.1 76 ((8 : Int32)).toNatClampNeg) fun v2 =>
  j_b2 (p_X12_lucky_27 l1 v2 j_F (-1 : Int32) (-1 : Int32) (0 : Int32) σ) fun v3 σ4 =>
  j_ix (8 : Int32) 116 (
  j_lt (j_si σ4 76 ((8 : Int32)).toNatClampNeg v2) fun σ5 =>
  some (v3, σ5))))
theorem l_X12_lucky_27 {d : Nat} (hd : 6 ≤ d) (τ : j_G) (l1 : Int32) (l2 : Int32) : ∀ (n : Nat) (l3 : Int32) (l4 : Int32) (l5 : Int32) (σ : j_G), j_J false τ M_cX12_lucky d 27 [some (.ref 75), some (.int l1), some (.int l2), some (.int l3), some (.int l4), some (.int l5)] [] σ (p_X12_lucky_27 l1 l2 n l3 l4 l5 σ) (fun r Q => j_Tr false τ M_cX12_lucky d 79 [some (.ref 75), none, some (.int l2), some (.int r.1), none, none] [] r.2 Q) := by
  intro n
  induction n with
  | zero => intro l3 l4 l5 σ; exact j_none
  | succ n ih =>
    intro l3 l4 l5 σ
    unfold p_X12_lucky_27
    refine j_iload (pc' := 29) rfl rfl rfl ?_
    refine j_aload_n (pc' := 30) rfl rfl rfl ?_
    refine j_gfr (pc' := 33) (x := 76) rfl rfl j_a75 rfl rfl ?_
    refine j_iconst (pc' := 34) (x := (5 : Int32)) rfl rfl rfl ?_
    refine j_iald (pc' := 35) rfl rfl j_a76 ?_
    refine j_two (pT := 38) (pF := 79) (L1 := [some (.ref 75), some (.int l1), some (.int l2), some (.int l3), some (.int l4), some (.int l5)]) (st1 := []) (fun o kT kF => ?_) (fun h3 => ?_) (fun h3 => ?_)
    · refine j_icge (t := 79) (pc' := 38) rfl rfl rfl (fun h4 => ?_) (fun h4 => ?_)
      · exact kF h4
      · exact kT h4
    · refine j_aload_n (pc' := 39) rfl rfl rfl ?_
      refine j_gfr (pc' := 42) (x := 76) rfl rfl j_a75 rfl rfl ?_
      refine j_bipush (pc' := 44) (x := (8 : Int32)) rfl rfl rfl ?_
      refine j_iload (pc' := 46) rfl rfl rfl ?_
      refine j_iast (pc' := 47) rfl rfl j_a76 (fun σ1 => ?_)
      refine j_aload_n (pc' := 48) rfl rfl rfl ?_
      refine j_iload_n (pc' := 49) rfl rfl rfl ?_
      refine j_callRv (pc' := 52) (ai := 259) (vs := [.ref 75, .int l1]) (rest := []) rfl rfl (fun _ _ => rfl) (c_X12_runAsTold l1 σ1) (j_dd rfl hd) rfl (fun σ2 => ?_)
      refine j_aload_n (pc' := 53) rfl rfl rfl ?_
      refine j_gfi (pc' := 56) rfl rfl j_a75 rfl ?_
      refine j_iload (pc' := 58) rfl rfl rfl ?_
      refine j_ql (Φl := (fun r Q => j_Tr false τ M_cX12_lucky d 73 [some (.ref 75), some (.int l1), some (.int l2), some (.int r.1), some (.int r.2), some (.int l5)] [] σ2 Q)) ?_ (fun r6 => ?_)
      · refine j_twoT (pT := 61) (pF := 64) (L1 := [some (.ref 75), some (.int l1), some (.int l2), some (.int l3), some (.int l4), some (.int l5)]) (st1 := []) (fun o kT kF => ?_) (fun h1 => ?_) (fun h1 => ?_)
        · refine j_icgt (t := 64) (pc' := 61) rfl rfl rfl (fun h2 => ?_) (fun h2 => ?_)
          · exact kF (fun z => z h2)
          · exact kT h2
        · refine j_goto (t := 73) rfl rfl ?_
          exact j_end (fun _ h => h)
        · refine j_iload (pc' := 66) rfl rfl rfl ?_
          refine j_istore_n (pc' := 67) (L' := [some (.ref 75), some (.int l1), some (.int l2), some (.int l5), some (.int l4), some (.int l5)]) rfl rfl rfl ?_
          refine j_aload_n (pc' := 68) rfl rfl rfl ?_
          refine j_gfi (pc' := 71) rfl rfl j_a75 rfl ?_
          refine j_letiT (fun v5 => ?_)
          refine j_istore (pc' := 73) (L' := [some (.ref 75), some (.int l1), some (.int l2), some (.int l5), some (.int v5), some (.int l5)]) rfl rfl rfl ?_
          exact j_end (fun _ h => h)
      show j_J false τ M_cX12_lucky d 73 [some (.ref 75), some (.int l1), some (.int l2), some (.int (r6.1)), some (.int (r6.2)), some (.int l5)] [] σ2 _ _
      refine j_iincx (pc' := 76) (y := (1 : Int32)) (L' := [some (.ref 75), some (.int l1), some (.int l2), some (.int (r6.1)), some (.int (r6.2)), some (.int (l5 + (1 : Int32)))]) rfl rfl rfl rfl rfl ?_
      refine j_goto (t := 27) rfl rfl ?_
      exact ih (r6.1) (r6.2) (l5 + (1 : Int32)) σ2
    · refine j_wk [true, false, true, true, false, false] (L' := [some (.ref 75), none, some (.int l2), some (.int l3), none, none]) rfl ?_
      exact j_end (fun _ h => h)

theorem c_X12_lucky (l1 : Int32) (σ : j_G) : j_K false 6 339 [.ref 75, .int l1] σ (f_X12_lucky l1 σ) j_Ri := by
  refine j_mkK (M := M_cX12_lucky) (L := [some (.ref 75), some (.int l1), none, none, none, none]) (m := 4) t_339 rfl (j_rcvO j_a75 rfl) rfl (fun d hd τ => ?_)
  unfold f_X12_lucky
  refine j_aload_n (pc' := 1) rfl rfl rfl ?_
  refine j_iload_n (pc' := 2) rfl rfl rfl ?_
  refine j_callPi (pc' := 5) (ai := 205) (vs := [.ref 75, .int l1]) (rest := []) rfl rfl (fun _ _ => rfl) (c_X12_isPlayer l1 σ) (j_dd rfl hd) rfl (fun v1 => ?_)
  refine j_two (pT := 8) (pF := 11) (L1 := [some (.ref 75), some (.int l1), none, none, none, none]) (st1 := []) (fun o kT kF => ?_) (fun h1 => ?_) (fun h1 => ?_)
  · refine j_ifne (t := 11) (pc' := 8) rfl rfl rfl (fun h2 => ?_) (fun h2 => ?_)
    · exact kF h2
    · exact kT h2
  · refine j_bipush (pc' := 10) (x := (-2 : Int32)) rfl rfl rfl ?_
    exact j_ret rfl rfl rfl (fun _ h => h)
  · refine j_aload_n (pc' := 12) rfl rfl rfl ?_
    refine j_gfr (pc' := 15) (x := 76) rfl rfl j_a75 rfl rfl ?_
    refine j_bipush (pc' := 17) (x := (8 : Int32)) rfl rfl rfl ?_
    refine j_iald (pc' := 18) rfl rfl j_a76 ?_
    refine j_leti (fun v2 => ?_)
    refine j_istore_n (pc' := 19) (L' := [some (.ref 75), some (.int l1), some (.int v2), none, none, none]) rfl rfl rfl ?_
    refine j_iconst (pc' := 20) (x := (-1 : Int32)) rfl rfl rfl ?_
    refine j_istore_n (pc' := 21) (L' := [some (.ref 75), some (.int l1), some (.int v2), some (.int (-1 : Int32)), none, none]) rfl rfl rfl ?_
    refine j_iconst (pc' := 22) (x := (-1 : Int32)) rfl rfl rfl ?_
    refine j_istore (pc' := 24) (L' := [some (.ref 75), some (.int l1), some (.int v2), some (.int (-1 : Int32)), some (.int (-1 : Int32)), none]) rfl rfl rfl ?_
    refine j_iconst (pc' := 25) (x := (0 : Int32)) rfl rfl rfl ?_
    refine j_istore (pc' := 27) (L' := [some (.ref 75), some (.int l1), some (.int v2), some (.int (-1 : Int32)), some (.int (-1 : Int32)), some (.int (0 : Int32))]) rfl rfl rfl ?_
    refine j_q2 (l_X12_lucky_27 hd τ l1 v2 j_F (-1 : Int32) (-1 : Int32) (0 : Int32) σ) (fun v3 σ4 => ?_)
    show j_J false τ M_cX12_lucky d 79 [some (.ref 75), none, some (.int v2), some (.int v3), none, none] [] σ4 _ _
    refine j_aload_n (pc' := 80) rfl rfl rfl ?_
    refine j_gfr (pc' := 83) (x := 76) rfl rfl j_a75 rfl rfl ?_
    refine j_bipush (pc' := 85) (x := (8 : Int32)) rfl rfl rfl ?_
    refine j_iload_n (pc' := 86) rfl rfl rfl ?_
    refine j_iast (pc' := 87) rfl rfl j_a76 (fun σ5 => ?_)
    refine j_iload_n (pc' := 88) rfl rfl rfl ?_
    exact j_ret rfl rfl rfl (fun _ h => h)

noncomputable def f_X2_openHoles (σ : j_G) : Int32 :=
  ((f_X2_holes 1 σ) - (f_J6_bitCount_0f7a4 (σ.1 1 6)))
theorem c_X2_openHoles (σ : j_G) : j_K true 1 17 [.ref 1] σ (some (f_X2_openHoles σ)) (j_Pi σ) := by
  refine j_mkK (M := M_cX2_openHoles) (L := [some (.ref 1)]) (m := 0) t_17 rfl (j_rcvO j_a1 rfl) rfl (fun d hd τ => ?_)
  unfold f_X2_openHoles
  refine j_aload_n (pc' := 1) rfl rfl rfl ?_
  refine j_callTi (pc' := 4) (ai := 12) (vs := [.ref 1]) (rest := []) rfl rfl (fun _ _ => rfl) (c_X2_holes_1  σ) (j_dd rfl hd) rfl ?_
  refine j_aload_n (pc' := 5) rfl rfl rfl ?_
  refine j_gfi (pc' := 8) rfl rfl j_a1 rfl ?_
  refine j_callTi (pc' := 11) (ai := 356) (vs := [.int (σ.1 1 6)]) (rest := [.int (f_X2_holes 1 σ)]) rfl rfl (fun _ _ => rfl) (c_J6_bitCount_0f7a4 (σ.1 1 6) σ) (j_dd rfl hd) rfl ?_
  refine j_isub (pc' := 12) rfl rfl ?_
  exact j_ret rfl rfl rfl (fun _ h => h)

theorem c_X2_isShut_1 (l1 : Int32) (σ : j_G) : j_K true 0 16 [.ref 1, .int l1] σ (some (f_X2_isShut 1 l1 σ)) (j_Pi σ) := by
  refine j_mkK (M := M_cX2_isShut) (L := [some (.ref 1), some (.int l1)]) (m := 0) t_16 rfl (j_rcvO j_a1 rfl) rfl (fun d hd τ => ?_)
  unfold f_X2_isShut
  refine j_aload_n (pc' := 1) rfl rfl rfl ?_
  refine j_gfi (pc' := 4) rfl rfl j_a1 rfl ?_
  refine j_iload_n (pc' := 5) rfl rfl rfl ?_
  refine j_ishr (pc' := 6) rfl rfl ?_
  refine j_iconst (pc' := 7) (x := (1 : Int32)) rfl rfl rfl ?_
  refine j_iand (pc' := 8) rfl rfl ?_
  refine j_twoT (pT := 11) (pF := 15) (L1 := [some (.ref 1), some (.int l1)]) (st1 := []) (fun o kT kF => ?_) (fun h1 => ?_) (fun h1 => ?_)
  · refine j_ifeq (t := 15) (pc' := 11) rfl rfl rfl (fun h2 => ?_) (fun h2 => ?_)
    · exact kF (fun z => z h2)
    · exact kT h2
  · refine j_iconst (pc' := 12) (x := (1 : Int32)) rfl rfl rfl ?_
    refine j_goto (t := 16) rfl rfl ?_
    exact j_ret rfl rfl rfl (fun _ h => h)
  · refine j_iconst (pc' := 16) (x := (0 : Int32)) rfl rfl rfl ?_
    exact j_ret rfl rfl rfl (fun _ h => h)

noncomputable def p_X2_stepsToAll_4 (l1 : Int32) (σ : j_G) : Nat → Int32 → Int32 → Option Int32
  | 0, _, _ => none
  | n + 1, l2, l3 =>
    if l3 < (f_X2_holes 1 σ) then (j_b1 (if (f_X2_isShut 1 l3 σ) = 0 then (j_b1 (f_X2_apart l1 l3 σ) fun v2 =>
    j_lt (l2 + v2) fun v3 =>
    some v3) else (some l2)) fun v1 =>
    p_X2_stepsToAll_4 l1 σ n v1 (l3 + (1 : Int32))) else (some l2)

noncomputable def f_X2_stepsToAll (l1 : Int32) (σ : j_G) : Option Int32 :=
  j_b1 (p_X2_stepsToAll_4 l1 σ j_F (0 : Int32) (0 : Int32)) fun v1 =>
  some v1
theorem l_X2_stepsToAll_4 {d : Nat} (hd : 1 ≤ d) (τ : j_G) (l1 : Int32) (σ : j_G) : ∀ (n : Nat) (l2 : Int32) (l3 : Int32), j_J true τ M_cX2_stepsToAll d 4 [some (.ref 1), some (.int l1), some (.int l2), some (.int l3)] [] σ (p_X2_stepsToAll_4 l1 σ n l2 l3) (fun r Q => j_Tr true τ M_cX2_stepsToAll d 35 [none, none, some (.int r), none] [] σ Q) := by
  intro n
  induction n with
  | zero => intro l2 l3; exact j_none
  | succ n ih =>
    intro l2 l3
    unfold p_X2_stepsToAll_4
    refine j_iload_n (pc' := 5) rfl rfl rfl ?_
    refine j_aload_n (pc' := 6) rfl rfl rfl ?_
    refine j_callTi (pc' := 9) (ai := 12) (vs := [.ref 1]) (rest := [.int l3]) rfl rfl (fun _ _ => rfl) (c_X2_holes_1  σ) (j_dd rfl hd) rfl ?_
    refine j_two (pT := 12) (pF := 35) (L1 := [some (.ref 1), some (.int l1), some (.int l2), some (.int l3)]) (st1 := []) (fun o kT kF => ?_) (fun h3 => ?_) (fun h3 => ?_)
    · refine j_icge (t := 35) (pc' := 12) rfl rfl rfl (fun h4 => ?_) (fun h4 => ?_)
      · exact kF h4
      · exact kT h4
    · refine j_aload_n (pc' := 13) rfl rfl rfl ?_
      refine j_iload_n (pc' := 14) rfl rfl rfl ?_
      refine j_callTi (pc' := 17) (ai := 16) (vs := [.ref 1, .int l3]) (rest := []) rfl rfl (fun _ _ => rfl) (c_X2_isShut_1 l3 σ) (j_dd rfl hd) rfl ?_
      refine j_q1 (Φl := (fun r Q => j_Tr true τ M_cX2_stepsToAll d 29 [some (.ref 1), some (.int l1), some (.int r), some (.int l3)] [] σ Q)) ?_ (fun v1 => ?_)
      · refine j_two (pT := 20) (pF := 29) (L1 := [some (.ref 1), some (.int l1), some (.int l2), some (.int l3)]) (st1 := []) (fun o kT kF => ?_) (fun h1 => ?_) (fun h1 => ?_)
        · refine j_ifne (t := 29) (pc' := 20) rfl rfl rfl (fun h2 => ?_) (fun h2 => ?_)
          · exact kF h2
          · exact kT h2
        · refine j_iload_n (pc' := 21) rfl rfl rfl ?_
          refine j_aload_n (pc' := 22) rfl rfl rfl ?_
          refine j_iload_n (pc' := 23) rfl rfl rfl ?_
          refine j_iload_n (pc' := 24) rfl rfl rfl ?_
          refine j_callPi (pc' := 27) (ai := 18) (vs := [.ref 1, .int l1, .int l3]) (rest := [.int l2]) rfl rfl (fun _ _ => rfl) (c_X2_apart l1 l3 σ) (j_dd rfl hd) rfl (fun v2 => ?_)
          refine j_iadd (pc' := 28) rfl rfl ?_
          refine j_leti (fun v3 => ?_)
          refine j_istore_n (pc' := 29) (L' := [some (.ref 1), some (.int l1), some (.int v3), some (.int l3)]) rfl rfl rfl ?_
          exact j_end (fun _ h => h)
        · exact j_end (fun _ h => h)
      show j_J true τ M_cX2_stepsToAll d 29 [some (.ref 1), some (.int l1), some (.int v1), some (.int l3)] [] σ _ _
      refine j_iincx (pc' := 32) (y := (1 : Int32)) (L' := [some (.ref 1), some (.int l1), some (.int v1), some (.int (l3 + (1 : Int32)))]) rfl rfl rfl rfl rfl ?_
      refine j_goto (t := 4) rfl rfl ?_
      exact ih v1 (l3 + (1 : Int32))
    · refine j_wk [false, false, true, false] (L' := [none, none, some (.int l2), none]) rfl ?_
      exact j_end (fun _ h => h)

theorem c_X2_stepsToAll (l1 : Int32) (σ : j_G) : j_K true 1 19 [.ref 1, .int l1] σ (f_X2_stepsToAll l1 σ) (j_Pi σ) := by
  refine j_mkK (M := M_cX2_stepsToAll) (L := [some (.ref 1), some (.int l1), none, none]) (m := 2) t_19 rfl (j_rcvO j_a1 rfl) rfl (fun d hd τ => ?_)
  unfold f_X2_stepsToAll
  refine j_iconst (pc' := 1) (x := (0 : Int32)) rfl rfl rfl ?_
  refine j_istore_n (pc' := 2) (L' := [some (.ref 1), some (.int l1), some (.int (0 : Int32)), none]) rfl rfl rfl ?_
  refine j_iconst (pc' := 3) (x := (0 : Int32)) rfl rfl rfl ?_
  refine j_istore_n (pc' := 4) (L' := [some (.ref 1), some (.int l1), some (.int (0 : Int32)), some (.int (0 : Int32))]) rfl rfl rfl ?_
  refine j_q1 (l_X2_stepsToAll_4 hd τ l1 σ j_F (0 : Int32) (0 : Int32)) (fun v1 => ?_)
  show j_J true τ M_cX2_stepsToAll d 35 [none, none, some (.int v1), none] [] σ _ _
  refine j_iload_n (pc' := 36) rfl rfl rfl ?_
  exact j_ret rfl rfl rfl (fun _ h => h)

noncomputable def f_X11_mean (l1 : Int32) (l2 : Int32) (σ : j_G) : Option Int32 :=
  if ((f_X2_isHole 1 l1 σ) = 0) ∨ ((l2 < 0) ∨ ((1 : Int32) < l2)) then (some (-2 : Int32)) else (j_lt (f_X2_openHoles σ) fun v1 =>
  if v1 = 0 then (some (-1 : Int32)) else (if l2 = 0 then (j_b1 (f_X2_stepsToAll l1 σ) fun v2 =>
  some v2) else (some v1)))
theorem c_X11_mean (l1 : Int32) (l2 : Int32) (σ : j_G) : j_K true 2 140 [.ref 0, .int l1, .int l2] σ (f_X11_mean l1 l2 σ) (j_Pi σ) := by
  refine j_mkK (M := M_cX11_mean) (L := [some (.ref 0), some (.int l1), some (.int l2), none]) (m := 1) t_140 rfl (j_rcvO j_a0 rfl) rfl (fun d hd τ => ?_)
  unfold f_X11_mean
  refine j_aload_n (pc' := 1) rfl rfl rfl ?_
  refine j_gfr (pc' := 4) (x := 1) rfl rfl j_a0 rfl rfl ?_
  refine j_iload_n (pc' := 5) rfl rfl rfl ?_
  refine j_callTi (pc' := 8) (ai := 13) (vs := [.ref 1, .int l1]) (rest := []) rfl rfl (fun _ _ => rfl) (c_X2_isHole_1 l1 σ) (j_dd rfl hd) rfl ?_
  refine j_two (pT := 20) (pF := 23) (L1 := [some (.ref 0), some (.int l1), some (.int l2), none]) (st1 := []) (fun o kT kF => ?_) (fun h5 => ?_) (fun h5 => ?_)
  · refine j_ifeq (t := 20) (pc' := 11) rfl rfl rfl (fun h6 => ?_) (fun h6 => ?_)
    · exact kT (Or.inl h6)
    · refine j_iload_n (pc' := 12) rfl rfl rfl ?_
      refine j_iflt (t := 20) (pc' := 15) rfl rfl rfl (fun h7 => ?_) (fun h7 => ?_)
      · exact kT (Or.inr (Or.inl h7))
      · refine j_iload_n (pc' := 16) rfl rfl rfl ?_
        refine j_iconst (pc' := 17) (x := (1 : Int32)) rfl rfl rfl ?_
        refine j_icle (t := 23) (pc' := 20) rfl rfl rfl (fun h8 => ?_) (fun h8 => ?_)
        · exact kF (fun z => z.elim h6 (fun z => z.elim h7 (h8)))
        · exact kT (Or.inr (Or.inr (h8)))
  · refine j_bipush (pc' := 22) (x := (-2 : Int32)) rfl rfl rfl ?_
    exact j_ret rfl rfl rfl (fun _ h => h)
  · refine j_aload_n (pc' := 24) rfl rfl rfl ?_
    refine j_gfr (pc' := 27) (x := 1) rfl rfl j_a0 rfl rfl ?_
    refine j_callTi (pc' := 30) (ai := 17) (vs := [.ref 1]) (rest := []) rfl rfl (fun _ _ => rfl) (c_X2_openHoles  σ) (j_dd rfl hd) rfl ?_
    refine j_leti (fun v1 => ?_)
    refine j_istore_n (pc' := 31) (L' := [some (.ref 0), some (.int l1), some (.int l2), some (.int v1)]) rfl rfl rfl ?_
    refine j_iload_n (pc' := 32) rfl rfl rfl ?_
    refine j_two (pT := 35) (pF := 37) (L1 := [some (.ref 0), some (.int l1), some (.int l2), some (.int v1)]) (st1 := []) (fun o kT kF => ?_) (fun h3 => ?_) (fun h3 => ?_)
    · refine j_ifne (t := 37) (pc' := 35) rfl rfl rfl (fun h4 => ?_) (fun h4 => ?_)
      · exact kF h4
      · exact kT h4
    · refine j_iconst (pc' := 36) (x := (-1 : Int32)) rfl rfl rfl ?_
      exact j_ret rfl rfl rfl (fun _ h => h)
    · refine j_iload_n (pc' := 38) rfl rfl rfl ?_
      refine j_two (pT := 41) (pF := 52) (L1 := [some (.ref 0), some (.int l1), some (.int l2), some (.int v1)]) (st1 := []) (fun o kT kF => ?_) (fun h1 => ?_) (fun h1 => ?_)
      · refine j_ifne (t := 52) (pc' := 41) rfl rfl rfl (fun h2 => ?_) (fun h2 => ?_)
        · exact kF h2
        · exact kT h2
      · refine j_aload_n (pc' := 42) rfl rfl rfl ?_
        refine j_gfr (pc' := 45) (x := 1) rfl rfl j_a0 rfl rfl ?_
        refine j_iload_n (pc' := 46) rfl rfl rfl ?_
        refine j_callPi (pc' := 49) (ai := 19) (vs := [.ref 1, .int l1]) (rest := []) rfl rfl (fun _ _ => rfl) (c_X2_stepsToAll l1 σ) (j_dd rfl hd) rfl (fun v2 => ?_)
        refine j_goto (t := 53) rfl rfl ?_
        exact j_ret rfl rfl rfl (fun _ h => h)
      · refine j_iload_n (pc' := 53) rfl rfl rfl ?_
        exact j_ret rfl rfl rfl (fun _ h => h)

noncomputable def f_X12_isShut (l1 : Int32) (σ : j_G) : Option Int32 :=
  j_ix (7 : Int32) 116 (
  if (((σ.1 76 ((7 : Int32)).toNatClampNeg) >>> (l1 &&& 31)) &&& (1 : Int32)) = (1 : Int32) then (some (1 : Int32)) else (some (0 : Int32)))
theorem c_X12_isShut (l1 : Int32) (σ : j_G) : j_K false 0 202 [.ref 75, .int l1] σ (f_X12_isShut l1 σ) (j_Pi σ) := by
  refine j_mkK (M := M_cX12_isShut) (L := [some (.ref 75), some (.int l1)]) (m := 0) t_202 rfl (j_rcvO j_a75 rfl) rfl (fun d hd τ => ?_)
  unfold f_X12_isShut
  refine j_aload_n (pc' := 1) rfl rfl rfl ?_
  refine j_gfr (pc' := 4) (x := 76) rfl rfl j_a75 rfl rfl ?_
  refine j_bipush (pc' := 6) (x := (7 : Int32)) rfl rfl rfl ?_
  refine j_iald (pc' := 7) rfl rfl j_a76 ?_
  refine j_iload_n (pc' := 8) rfl rfl rfl ?_
  refine j_ishr (pc' := 9) rfl rfl ?_
  refine j_iconst (pc' := 10) (x := (1 : Int32)) rfl rfl rfl ?_
  refine j_iand (pc' := 11) rfl rfl ?_
  refine j_iconst (pc' := 12) (x := (1 : Int32)) rfl rfl rfl ?_
  refine j_two (pT := 15) (pF := 19) (L1 := [some (.ref 75), some (.int l1)]) (st1 := []) (fun o kT kF => ?_) (fun h1 => ?_) (fun h1 => ?_)
  · refine j_icne (t := 19) (pc' := 15) rfl rfl rfl (fun h2 => ?_) (fun h2 => ?_)
    · exact kF h2
    · exact kT h2
  · refine j_iconst (pc' := 16) (x := (1 : Int32)) rfl rfl rfl ?_
    refine j_goto (t := 20) rfl rfl ?_
    exact j_ret rfl rfl rfl (fun _ h => h)
  · refine j_iconst (pc' := 20) (x := (0 : Int32)) rfl rfl rfl ?_
    exact j_ret rfl rfl rfl (fun _ h => h)

noncomputable def p_X12_openHoles_4 (σ : j_G) : Nat → Int32 → Int32 → Option Int32
  | 0, _, _ => none
  | n + 1, l1, l2 =>
    j_b1 (f_X12_holes σ) fun v1 =>
    if l2 < v1 then (j_b1 (f_X12_isShut l2 σ) fun v2 =>
    j_lt (if ¬ v2 = 0 then ((0 : Int32)) else ((1 : Int32))) fun v3 =>
    j_lt (l1 + v3) fun v4 =>
    p_X12_openHoles_4 σ n v4 (l2 + (1 : Int32))) else (some l1)

noncomputable def f_X12_openHoles (σ : j_G) : Option Int32 :=
  j_b1 (p_X12_openHoles_4 σ j_F (0 : Int32) (0 : Int32)) fun v1 =>
  some v1
theorem l_X12_openHoles_4 {d : Nat} (hd : 1 ≤ d) (τ : j_G) (σ : j_G) : ∀ (n : Nat) (l1 : Int32) (l2 : Int32), j_J false τ M_cX12_openHoles d 4 [some (.ref 75), some (.int l1), some (.int l2)] [] σ (p_X12_openHoles_4 σ n l1 l2) (fun r Q => j_Tr false τ M_cX12_openHoles d 34 [none, some (.int r), none] [] σ Q) := by
  intro n
  induction n with
  | zero => intro l1 l2; exact j_none
  | succ n ih =>
    intro l1 l2
    unfold p_X12_openHoles_4
    refine j_iload_n (pc' := 5) rfl rfl rfl ?_
    refine j_aload_n (pc' := 6) rfl rfl rfl ?_
    refine j_callPi (pc' := 9) (ai := 200) (vs := [.ref 75]) (rest := [.int l2]) rfl rfl (fun _ _ => rfl) (c_X12_holes  σ) (j_dd rfl hd) rfl (fun v1 => ?_)
    refine j_two (pT := 12) (pF := 34) (L1 := [some (.ref 75), some (.int l1), some (.int l2)]) (st1 := []) (fun o kT kF => ?_) (fun h3 => ?_) (fun h3 => ?_)
    · refine j_icge (t := 34) (pc' := 12) rfl rfl rfl (fun h4 => ?_) (fun h4 => ?_)
      · exact kF h4
      · exact kT h4
    · refine j_iload_n (pc' := 13) rfl rfl rfl ?_
      refine j_aload_n (pc' := 14) rfl rfl rfl ?_
      refine j_iload_n (pc' := 15) rfl rfl rfl ?_
      refine j_callPi (pc' := 18) (ai := 202) (vs := [.ref 75, .int l2]) (rest := [.int l1]) rfl rfl (fun _ _ => rfl) (c_X12_isShut l2 σ) (j_dd rfl hd) rfl (fun v2 => ?_)
      refine j_ql (Φl := (fun r Q => j_Tr false τ M_cX12_openHoles d 26 [some (.ref 75), none, some (.int l2)] [.int r, .int l1] σ Q)) ?_ (fun v3 => ?_)
      · refine j_twoT (pT := 21) (pF := 25) (L1 := [some (.ref 75), some (.int l1), some (.int l2)]) (st1 := [.int l1]) (fun o kT kF => ?_) (fun h1 => ?_) (fun h1 => ?_)
        · refine j_ifeq (t := 25) (pc' := 21) rfl rfl rfl (fun h2 => ?_) (fun h2 => ?_)
          · exact kF (fun z => z h2)
          · exact kT h2
        · refine j_iconst (pc' := 22) (x := (0 : Int32)) rfl rfl rfl ?_
          refine j_goto (t := 26) rfl rfl ?_
          refine j_wk [true, false, true] (L' := [some (.ref 75), none, some (.int l2)]) rfl ?_
          exact j_end (fun _ h => h)
        · refine j_iconst (pc' := 26) (x := (1 : Int32)) rfl rfl rfl ?_
          refine j_wk [true, false, true] (L' := [some (.ref 75), none, some (.int l2)]) rfl ?_
          exact j_end (fun _ h => h)
      show j_J false τ M_cX12_openHoles d 26 [some (.ref 75), none, some (.int l2)] [.int v3, .int l1] σ _ _
      refine j_iadd (pc' := 27) rfl rfl ?_
      refine j_leti (fun v4 => ?_)
      refine j_istore_n (pc' := 28) (L' := [some (.ref 75), some (.int v4), some (.int l2)]) rfl rfl rfl ?_
      refine j_iincx (pc' := 31) (y := (1 : Int32)) (L' := [some (.ref 75), some (.int v4), some (.int (l2 + (1 : Int32)))]) rfl rfl rfl rfl rfl ?_
      refine j_goto (t := 4) rfl rfl ?_
      exact ih v4 (l2 + (1 : Int32))
    · refine j_wk [false, true, false] (L' := [none, some (.int l1), none]) rfl ?_
      exact j_end (fun _ h => h)

theorem c_X12_openHoles (σ : j_G) : j_K false 1 278 [.ref 75] σ (f_X12_openHoles σ) (j_Pi σ) := by
  refine j_mkK (M := M_cX12_openHoles) (L := [some (.ref 75), none, none]) (m := 2) t_278 rfl (j_rcvO j_a75 rfl) rfl (fun d hd τ => ?_)
  unfold f_X12_openHoles
  refine j_iconst (pc' := 1) (x := (0 : Int32)) rfl rfl rfl ?_
  refine j_istore_n (pc' := 2) (L' := [some (.ref 75), some (.int (0 : Int32)), none]) rfl rfl rfl ?_
  refine j_iconst (pc' := 3) (x := (0 : Int32)) rfl rfl rfl ?_
  refine j_istore_n (pc' := 4) (L' := [some (.ref 75), some (.int (0 : Int32)), some (.int (0 : Int32))]) rfl rfl rfl ?_
  refine j_q1 (l_X12_openHoles_4 hd τ σ j_F (0 : Int32) (0 : Int32)) (fun v1 => ?_)
  show j_J false τ M_cX12_openHoles d 34 [none, some (.int v1), none] [] σ _ _
  refine j_iload_n (pc' := 35) rfl rfl rfl ?_
  exact j_ret rfl rfl rfl (fun _ h => h)

noncomputable def p_X12_stepsToAll_4 (l1 : Int32) (σ : j_G) : Nat → Int32 → Int32 → Option Int32
  | 0, _, _ => none
  | n + 1, l2, l3 =>
    j_b1 (f_X12_holes σ) fun v1 =>
    if l3 < v1 then (j_b1 (f_X12_isShut l3 σ) fun v2 =>
    j_b1 (if ¬ v2 = 0 then (some (0 : Int32)) else (j_b1 (f_X12_stepsOf l1 l3 σ) fun v4 =>
    some v4)) fun v3 =>
    j_lt (l2 + v3) fun v5 =>
    p_X12_stepsToAll_4 l1 σ n v5 (l3 + (1 : Int32))) else (some l2)

noncomputable def f_X12_stepsToAll (l1 : Int32) (σ : j_G) : Option Int32 :=
  j_b1 (p_X12_stepsToAll_4 l1 σ j_F (0 : Int32) (0 : Int32)) fun v1 =>
  some v1
theorem l_X12_stepsToAll_4 {d : Nat} (hd : 1 ≤ d) (τ : j_G) (l1 : Int32) (σ : j_G) : ∀ (n : Nat) (l2 : Int32) (l3 : Int32), j_J false τ M_cX12_stepsToAll d 4 [some (.ref 75), some (.int l1), some (.int l2), some (.int l3)] [] σ (p_X12_stepsToAll_4 l1 σ n l2 l3) (fun r Q => j_Tr false τ M_cX12_stepsToAll d 39 [none, none, some (.int r), none] [] σ Q) := by
  intro n
  induction n with
  | zero => intro l2 l3; exact j_none
  | succ n ih =>
    intro l2 l3
    unfold p_X12_stepsToAll_4
    refine j_iload_n (pc' := 5) rfl rfl rfl ?_
    refine j_aload_n (pc' := 6) rfl rfl rfl ?_
    refine j_callPi (pc' := 9) (ai := 200) (vs := [.ref 75]) (rest := [.int l3]) rfl rfl (fun _ _ => rfl) (c_X12_holes  σ) (j_dd rfl hd) rfl (fun v1 => ?_)
    refine j_two (pT := 12) (pF := 39) (L1 := [some (.ref 75), some (.int l1), some (.int l2), some (.int l3)]) (st1 := []) (fun o kT kF => ?_) (fun h3 => ?_) (fun h3 => ?_)
    · refine j_icge (t := 39) (pc' := 12) rfl rfl rfl (fun h4 => ?_) (fun h4 => ?_)
      · exact kF h4
      · exact kT h4
    · refine j_iload_n (pc' := 13) rfl rfl rfl ?_
      refine j_aload_n (pc' := 14) rfl rfl rfl ?_
      refine j_iload_n (pc' := 15) rfl rfl rfl ?_
      refine j_callPi (pc' := 18) (ai := 202) (vs := [.ref 75, .int l3]) (rest := [.int l2]) rfl rfl (fun _ _ => rfl) (c_X12_isShut l3 σ) (j_dd rfl hd) rfl (fun v2 => ?_)
      refine j_q1 (Φl := (fun r Q => j_Tr false τ M_cX12_stepsToAll d 31 [some (.ref 75), some (.int l1), none, some (.int l3)] [.int r, .int l2] σ Q)) ?_ (fun v3 => ?_)
      · refine j_two (pT := 21) (pF := 25) (L1 := [some (.ref 75), some (.int l1), some (.int l2), some (.int l3)]) (st1 := [.int l2]) (fun o kT kF => ?_) (fun h1 => ?_) (fun h1 => ?_)
        · refine j_ifeq (t := 25) (pc' := 21) rfl rfl rfl (fun h2 => ?_) (fun h2 => ?_)
          · exact kF (fun z => z h2)
          · exact kT h2
        · refine j_iconst (pc' := 22) (x := (0 : Int32)) rfl rfl rfl ?_
          refine j_goto (t := 31) rfl rfl ?_
          refine j_wk [true, true, false, true] (L' := [some (.ref 75), some (.int l1), none, some (.int l3)]) rfl ?_
          exact j_end (fun _ h => h)
        · refine j_aload_n (pc' := 26) rfl rfl rfl ?_
          refine j_iload_n (pc' := 27) rfl rfl rfl ?_
          refine j_iload_n (pc' := 28) rfl rfl rfl ?_
          refine j_callPi (pc' := 31) (ai := 248) (vs := [.ref 75, .int l1, .int l3]) (rest := [.int l2]) rfl rfl (fun _ _ => rfl) (c_X12_stepsOf l1 l3 σ) (j_dd rfl hd) rfl (fun v4 => ?_)
          refine j_wk [true, true, false, true] (L' := [some (.ref 75), some (.int l1), none, some (.int l3)]) rfl ?_
          exact j_end (fun _ h => h)
      show j_J false τ M_cX12_stepsToAll d 31 [some (.ref 75), some (.int l1), none, some (.int l3)] [.int v3, .int l2] σ _ _
      refine j_iadd (pc' := 32) rfl rfl ?_
      refine j_leti (fun v5 => ?_)
      refine j_istore_n (pc' := 33) (L' := [some (.ref 75), some (.int l1), some (.int v5), some (.int l3)]) rfl rfl rfl ?_
      refine j_iincx (pc' := 36) (y := (1 : Int32)) (L' := [some (.ref 75), some (.int l1), some (.int v5), some (.int (l3 + (1 : Int32)))]) rfl rfl rfl rfl rfl ?_
      refine j_goto (t := 4) rfl rfl ?_
      exact ih v5 (l3 + (1 : Int32))
    · refine j_wk [false, false, true, false] (L' := [none, none, some (.int l2), none]) rfl ?_
      exact j_end (fun _ h => h)

theorem c_X12_stepsToAll (l1 : Int32) (σ : j_G) : j_K false 1 279 [.ref 75, .int l1] σ (f_X12_stepsToAll l1 σ) (j_Pi σ) := by
  refine j_mkK (M := M_cX12_stepsToAll) (L := [some (.ref 75), some (.int l1), none, none]) (m := 2) t_279 rfl (j_rcvO j_a75 rfl) rfl (fun d hd τ => ?_)
  unfold f_X12_stepsToAll
  refine j_iconst (pc' := 1) (x := (0 : Int32)) rfl rfl rfl ?_
  refine j_istore_n (pc' := 2) (L' := [some (.ref 75), some (.int l1), some (.int (0 : Int32)), none]) rfl rfl rfl ?_
  refine j_iconst (pc' := 3) (x := (0 : Int32)) rfl rfl rfl ?_
  refine j_istore_n (pc' := 4) (L' := [some (.ref 75), some (.int l1), some (.int (0 : Int32)), some (.int (0 : Int32))]) rfl rfl rfl ?_
  refine j_q1 (l_X12_stepsToAll_4 hd τ l1 σ j_F (0 : Int32) (0 : Int32)) (fun v1 => ?_)
  show j_J false τ M_cX12_stepsToAll d 39 [none, none, some (.int v1), none] [] σ _ _
  refine j_iload_n (pc' := 40) rfl rfl rfl ?_
  exact j_ret rfl rfl rfl (fun _ h => h)

noncomputable def p_X12_divisor_4 : Nat → Int32 → Int32 → Option Int32
  | 0, _, _ => none
  | n + 1, l2, l3 =>
    if ¬ l3 = 0 then (if l3 = 0 then none else (
    j_lt (l2 - l2 / l3 * l3) fun v1 =>
    p_X12_divisor_4 n l3 v1)) else (some l2)

noncomputable def f_X12_divisor (l0 : Int32) (l1 : Int32) : Option Int32 :=
  j_b1 (p_X12_divisor_4 j_F l0 l1) fun v1 =>
  some v1
theorem l_X12_divisor_4 {d : Nat} (hd : 0 ≤ d) (τ : j_G) (σ : j_G) : ∀ (n : Nat) (l2 : Int32) (l3 : Int32), j_J false τ M_cX12_divisor d 4 [none, none, some (.int l2), some (.int l3), none] [] σ (p_X12_divisor_4 n l2 l3) (fun r Q => j_Tr false τ M_cX12_divisor d 21 [none, none, some (.int r), none, none] [] σ Q) := by
  intro n
  induction n with
  | zero => intro l2 l3; exact j_none
  | succ n ih =>
    intro l2 l3
    unfold p_X12_divisor_4
    refine j_iload_n (pc' := 5) rfl rfl rfl ?_
    refine j_two (pT := 8) (pF := 21) (L1 := [none, none, some (.int l2), some (.int l3), none]) (st1 := []) (fun o kT kF => ?_) (fun h1 => ?_) (fun h1 => ?_)
    · refine j_ifeq (t := 21) (pc' := 8) rfl rfl rfl (fun h2 => ?_) (fun h2 => ?_)
      · exact kF (fun z => z h2)
      · exact kT h2
    · refine j_iload_n (pc' := 9) rfl rfl rfl ?_
      refine j_iload_n (pc' := 10) rfl rfl rfl ?_
      refine j_irem (pc' := 11) rfl rfl ?_
      refine j_leti (fun v1 => ?_)
      refine j_istore (pc' := 13) (L' := [none, none, some (.int l2), some (.int l3), some (.int v1)]) rfl rfl rfl ?_
      refine j_iload_n (pc' := 14) rfl rfl rfl ?_
      refine j_istore_n (pc' := 15) (L' := [none, none, some (.int l3), some (.int l3), some (.int v1)]) rfl rfl rfl ?_
      refine j_iload (pc' := 17) rfl rfl rfl ?_
      refine j_istore_n (pc' := 18) (L' := [none, none, some (.int l3), some (.int v1), some (.int v1)]) rfl rfl rfl ?_
      refine j_goto (t := 4) rfl rfl ?_
      refine j_wk [true, true, true, true, false] (L' := [none, none, some (.int l3), some (.int v1), none]) rfl ?_
      exact ih l3 v1
    · refine j_wk [true, true, true, false, true] (L' := [none, none, some (.int l2), none, none]) rfl ?_
      exact j_end (fun _ h => h)

theorem c_X12_divisor (l0 : Int32) (l1 : Int32) (σ : j_G) : j_K false 0 280 [.int l0, .int l1] σ (f_X12_divisor l0 l1) (j_Pi σ) := by
  refine j_mkK (M := M_cX12_divisor) (L := [some (.int l0), some (.int l1), none, none, none]) (m := 3) t_280 rfl (j_rcvS rfl) rfl (fun d hd τ => ?_)
  unfold f_X12_divisor
  refine j_iload_n (pc' := 1) rfl rfl rfl ?_
  refine j_istore_n (pc' := 2) (L' := [some (.int l0), some (.int l1), some (.int l0), none, none]) rfl rfl rfl ?_
  refine j_iload_n (pc' := 3) rfl rfl rfl ?_
  refine j_istore_n (pc' := 4) (L' := [some (.int l0), some (.int l1), some (.int l0), some (.int l1), none]) rfl rfl rfl ?_
  refine j_wk [false, false, true, true, true] (L' := [none, none, some (.int l0), some (.int l1), none]) rfl ?_
  refine j_q1 (l_X12_divisor_4 hd τ σ j_F l0 l1) (fun v1 => ?_)
  show j_J false τ M_cX12_divisor d 21 [none, none, some (.int v1), none, none] [] σ _ _
  refine j_iload_n (pc' := 22) rfl rfl rfl ?_
  exact j_ret rfl rfl rfl (fun _ h => h)

noncomputable def f_X12_mean (l1 : Int32) (l2 : Int32) (σ : j_G) : Option Int32 :=
  j_b1 (f_X12_isHole (l1).toInt64 σ) fun v1 =>
  if (v1 = 0) ∨ ((f_X12_in (l2).toInt64 (0 : Int64) (1 : Int64)) = 0) then (some (-2 : Int32)) else (j_b1 (f_X12_openHoles σ) fun v2 =>
  if v2 = 0 then (some (-1 : Int32)) else (j_b1 (f_X12_stepsToAll l1 σ) fun v3 =>
  j_lt (if l2 = 0 then (v3) else (v2)) fun v4 =>
  j_b1 (f_X12_divisor v3 v2) fun v5 =>
  if v5 = 0 then none else (
  some (v4 / v5))))
theorem c_X12_mean (l1 : Int32) (l2 : Int32) (σ : j_G) : j_K false 2 281 [.ref 75, .int l1, .int l2] σ (f_X12_mean l1 l2 σ) (j_Pi σ) := by
  refine j_mkK (M := M_cX12_mean) (L := [some (.ref 75), some (.int l1), some (.int l2), none, none]) (m := 2) t_281 rfl (j_rcvO j_a75 rfl) rfl (fun d hd τ => ?_)
  unfold f_X12_mean
  refine j_aload_n (pc' := 1) rfl rfl rfl ?_
  refine j_iload_n (pc' := 2) rfl rfl rfl ?_
  refine j_i2l (pc' := 3) rfl rfl ?_
  refine j_callPi (pc' := 6) (ai := 201) (vs := [.ref 75, .long (l1).toInt64]) (rest := []) rfl rfl (fun _ _ => rfl) (c_X12_isHole (l1).toInt64 σ) (j_dd rfl hd) rfl (fun v1 => ?_)
  refine j_two (pT := 19) (pF := 22) (L1 := [some (.ref 75), some (.int l1), some (.int l2), none, none]) (st1 := []) (fun o kT kF => ?_) (fun h5 => ?_) (fun h5 => ?_)
  · refine j_ifeq (t := 19) (pc' := 9) rfl rfl rfl (fun h6 => ?_) (fun h6 => ?_)
    · exact kT (Or.inl h6)
    · refine j_iload_n (pc' := 10) rfl rfl rfl ?_
      refine j_i2l (pc' := 11) rfl rfl ?_
      refine j_lconst (pc' := 12) (x := (0 : Int64)) rfl rfl rfl ?_
      refine j_lconst (pc' := 13) (x := (1 : Int64)) rfl rfl rfl ?_
      refine j_callTi (pc' := 16) (ai := 196) (vs := [.long (l2).toInt64, .long (0 : Int64), .long (1 : Int64)]) (rest := []) rfl rfl (fun _ _ => rfl) (c_X12_in (l2).toInt64 (0 : Int64) (1 : Int64) σ) (j_dd rfl hd) rfl ?_
      refine j_ifne (t := 22) (pc' := 19) rfl rfl rfl (fun h7 => ?_) (fun h7 => ?_)
      · exact kF (fun z => z.elim h6 (h7))
      · exact kT (Or.inr (h7))
  · refine j_bipush (pc' := 21) (x := (-2 : Int32)) rfl rfl rfl ?_
    exact j_ret rfl rfl rfl (fun _ h => h)
  · refine j_aload_n (pc' := 23) rfl rfl rfl ?_
    refine j_callPi (pc' := 26) (ai := 278) (vs := [.ref 75]) (rest := []) rfl rfl (fun _ _ => rfl) (c_X12_openHoles  σ) (j_dd rfl hd) rfl (fun v2 => ?_)
    refine j_istore_n (pc' := 27) (L' := [some (.ref 75), some (.int l1), some (.int l2), some (.int v2), none]) rfl rfl rfl ?_
    refine j_iload_n (pc' := 28) rfl rfl rfl ?_
    refine j_two (pT := 31) (pF := 33) (L1 := [some (.ref 75), some (.int l1), some (.int l2), some (.int v2), none]) (st1 := []) (fun o kT kF => ?_) (fun h3 => ?_) (fun h3 => ?_)
    · refine j_ifne (t := 33) (pc' := 31) rfl rfl rfl (fun h4 => ?_) (fun h4 => ?_)
      · exact kF h4
      · exact kT h4
    · refine j_iconst (pc' := 32) (x := (-1 : Int32)) rfl rfl rfl ?_
      exact j_ret rfl rfl rfl (fun _ h => h)
    · refine j_aload_n (pc' := 34) rfl rfl rfl ?_
      refine j_iload_n (pc' := 35) rfl rfl rfl ?_
      refine j_callPi (pc' := 38) (ai := 279) (vs := [.ref 75, .int l1]) (rest := []) rfl rfl (fun _ _ => rfl) (c_X12_stepsToAll l1 σ) (j_dd rfl hd) rfl (fun v3 => ?_)
      refine j_istore (pc' := 40) (L' := [some (.ref 75), some (.int l1), some (.int l2), some (.int v2), some (.int v3)]) rfl rfl rfl ?_
      refine j_iload_n (pc' := 41) rfl rfl rfl ?_
      refine j_ql (Φl := (fun r Q => j_Tr false τ M_cX12_mean d 50 [none, none, none, some (.int v2), some (.int v3)] [.int r] σ Q)) ?_ (fun v4 => ?_)
      · refine j_twoT (pT := 44) (pF := 49) (L1 := [some (.ref 75), some (.int l1), some (.int l2), some (.int v2), some (.int v3)]) (st1 := []) (fun o kT kF => ?_) (fun h1 => ?_) (fun h1 => ?_)
        · refine j_ifne (t := 49) (pc' := 44) rfl rfl rfl (fun h2 => ?_) (fun h2 => ?_)
          · exact kF h2
          · exact kT h2
        · refine j_iload (pc' := 46) rfl rfl rfl ?_
          refine j_goto (t := 50) rfl rfl ?_
          refine j_wk [false, false, false, true, true] (L' := [none, none, none, some (.int v2), some (.int v3)]) rfl ?_
          exact j_end (fun _ h => h)
        · refine j_iload_n (pc' := 50) rfl rfl rfl ?_
          refine j_wk [false, false, false, true, true] (L' := [none, none, none, some (.int v2), some (.int v3)]) rfl ?_
          exact j_end (fun _ h => h)
      show j_J false τ M_cX12_mean d 50 [none, none, none, some (.int v2), some (.int v3)] [.int v4] σ _ _
      refine j_iload (pc' := 52) rfl rfl rfl ?_
      refine j_iload_n (pc' := 53) rfl rfl rfl ?_
      refine j_callPi (pc' := 56) (ai := 280) (vs := [.int v3, .int v2]) (rest := [.int v4]) rfl rfl (fun _ _ => rfl) (c_X12_divisor v3 v2 σ) (j_dd rfl hd) rfl (fun v5 => ?_)
      refine j_idiv (pc' := 57) rfl rfl ?_
      exact j_ret rfl rfl rfl (fun _ h => h)

noncomputable def p_X11_middle_48 (l1 : Int32) (σ : j_G) : Nat → Int32 → Int32 → Int32 → Option Int32
  | 0, _, _, _ => none
  | n + 1, l2, l3, l4 =>
    if l4 < (f_X2_holes 1 σ) then (j_b1 (f_X2_stepsToAll l4 σ) fun v1 =>
    j_lt (if l1 = 0 then (if v1 < l3 then ((l4, v1)) else ((l2, l3))) else (if l3 < v1 then ((l4, v1)) else ((l2, l3)))) fun r4 =>
    p_X11_middle_48 l1 σ n (r4.1) (r4.2) (l4 + (1 : Int32))) else (some l2)

noncomputable def f_X11_middle (l1 : Int32) (σ : j_G) : Option Int32 :=
  if ((f_X2_isTold σ) = 0) ∨ ((l1 < 0) ∨ ((1 : Int32) < l1)) then (some (-2 : Int32)) else (if (f_X2_openHoles σ) = 0 then (some (-1 : Int32)) else (j_b1 (f_X2_stepsToAll (0 : Int32) σ) fun v1 =>
  j_b1 (p_X11_middle_48 l1 σ j_F (0 : Int32) v1 (1 : Int32)) fun v2 =>
  some v2))
theorem l_X11_middle_48 {d : Nat} (hd : 2 ≤ d) (τ : j_G) (l1 : Int32) (σ : j_G) : ∀ (n : Nat) (l2 : Int32) (l3 : Int32) (l4 : Int32), j_J true τ M_cX11_middle d 48 [some (.ref 0), some (.int l1), some (.int l2), some (.int l3), some (.int l4), none] [] σ (p_X11_middle_48 l1 σ n l2 l3 l4) (fun r Q => j_Tr true τ M_cX11_middle d 102 [none, none, some (.int r), none, none, none] [] σ Q) := by
  intro n
  induction n with
  | zero => intro l2 l3 l4; exact j_none
  | succ n ih =>
    intro l2 l3 l4
    unfold p_X11_middle_48
    refine j_iload (pc' := 50) rfl rfl rfl ?_
    refine j_aload_n (pc' := 51) rfl rfl rfl ?_
    refine j_gfr (pc' := 54) (x := 1) rfl rfl j_a0 rfl rfl ?_
    refine j_callTi (pc' := 57) (ai := 12) (vs := [.ref 1]) (rest := [.int l4]) rfl rfl (fun _ _ => rfl) (c_X2_holes_1  σ) (j_dd rfl hd) rfl ?_
    refine j_two (pT := 60) (pF := 102) (L1 := [some (.ref 0), some (.int l1), some (.int l2), some (.int l3), some (.int l4), none]) (st1 := []) (fun o kT kF => ?_) (fun h7 => ?_) (fun h7 => ?_)
    · refine j_icge (t := 102) (pc' := 60) rfl rfl rfl (fun h8 => ?_) (fun h8 => ?_)
      · exact kF h8
      · exact kT h8
    · refine j_aload_n (pc' := 61) rfl rfl rfl ?_
      refine j_gfr (pc' := 64) (x := 1) rfl rfl j_a0 rfl rfl ?_
      refine j_iload (pc' := 66) rfl rfl rfl ?_
      refine j_callPi (pc' := 69) (ai := 19) (vs := [.ref 1, .int l4]) (rest := []) rfl rfl (fun _ _ => rfl) (c_X2_stepsToAll l4 σ) (j_dd rfl hd) rfl (fun v1 => ?_)
      refine j_istore (pc' := 71) (L' := [some (.ref 0), some (.int l1), some (.int l2), some (.int l3), some (.int l4), some (.int v1)]) rfl rfl rfl ?_
      refine j_iload_n (pc' := 72) rfl rfl rfl ?_
      refine j_ql (Φl := (fun r Q => j_Tr true τ M_cX11_middle d 96 [some (.ref 0), some (.int l1), some (.int r.1), some (.int r.2), some (.int l4), none] [] σ Q)) ?_ (fun r4 => ?_)
      · refine j_twoT (pT := 75) (pF := 84) (L1 := [some (.ref 0), some (.int l1), some (.int l2), some (.int l3), some (.int l4), some (.int v1)]) (st1 := []) (fun o kT kF => ?_) (fun h5 => ?_) (fun h5 => ?_)
        · refine j_ifne (t := 84) (pc' := 75) rfl rfl rfl (fun h6 => ?_) (fun h6 => ?_)
          · exact kF h6
          · exact kT h6
        · refine j_iload (pc' := 77) rfl rfl rfl ?_
          refine j_iload_n (pc' := 78) rfl rfl rfl ?_
          refine j_twoT (pT := 81) (pF := 96) (L1 := [some (.ref 0), some (.int l1), some (.int l2), some (.int l3), some (.int l4), some (.int v1)]) (st1 := []) (fun o kT kF => ?_) (fun h1 => ?_) (fun h1 => ?_)
          · refine j_icge (t := 96) (pc' := 81) rfl rfl rfl (fun h2 => ?_) (fun h2 => ?_)
            · exact kF h2
            · exact kT h2
          · refine j_goto (t := 90) rfl rfl ?_
            refine j_iload (pc' := 92) rfl rfl rfl ?_
            refine j_istore_n (pc' := 93) (L' := [some (.ref 0), some (.int l1), some (.int l2), some (.int v1), some (.int l4), some (.int v1)]) rfl rfl rfl ?_
            refine j_iload (pc' := 95) rfl rfl rfl ?_
            refine j_istore_n (pc' := 96) (L' := [some (.ref 0), some (.int l1), some (.int l4), some (.int v1), some (.int l4), some (.int v1)]) rfl rfl rfl ?_
            refine j_wk [true, true, true, true, true, false] (L' := [some (.ref 0), some (.int l1), some (.int l4), some (.int v1), some (.int l4), none]) rfl ?_
            exact j_end (fun _ h => h)
          · refine j_wk [true, true, true, true, true, false] (L' := [some (.ref 0), some (.int l1), some (.int l2), some (.int l3), some (.int l4), none]) rfl ?_
            exact j_end (fun _ h => h)
        · refine j_iload (pc' := 86) rfl rfl rfl ?_
          refine j_iload_n (pc' := 87) rfl rfl rfl ?_
          refine j_twoT (pT := 90) (pF := 96) (L1 := [some (.ref 0), some (.int l1), some (.int l2), some (.int l3), some (.int l4), some (.int v1)]) (st1 := []) (fun o kT kF => ?_) (fun h3 => ?_) (fun h3 => ?_)
          · refine j_icle (t := 96) (pc' := 90) rfl rfl rfl (fun h4 => ?_) (fun h4 => ?_)
            · exact kF h4
            · exact kT h4
          · refine j_iload (pc' := 92) rfl rfl rfl ?_
            refine j_istore_n (pc' := 93) (L' := [some (.ref 0), some (.int l1), some (.int l2), some (.int v1), some (.int l4), some (.int v1)]) rfl rfl rfl ?_
            refine j_iload (pc' := 95) rfl rfl rfl ?_
            refine j_istore_n (pc' := 96) (L' := [some (.ref 0), some (.int l1), some (.int l4), some (.int v1), some (.int l4), some (.int v1)]) rfl rfl rfl ?_
            refine j_wk [true, true, true, true, true, false] (L' := [some (.ref 0), some (.int l1), some (.int l4), some (.int v1), some (.int l4), none]) rfl ?_
            exact j_end (fun _ h => h)
          · refine j_wk [true, true, true, true, true, false] (L' := [some (.ref 0), some (.int l1), some (.int l2), some (.int l3), some (.int l4), none]) rfl ?_
            exact j_end (fun _ h => h)
      show j_J true τ M_cX11_middle d 96 [some (.ref 0), some (.int l1), some (.int (r4.1)), some (.int (r4.2)), some (.int l4), none] [] σ _ _
      refine j_iincx (pc' := 99) (y := (1 : Int32)) (L' := [some (.ref 0), some (.int l1), some (.int (r4.1)), some (.int (r4.2)), some (.int (l4 + (1 : Int32))), none]) rfl rfl rfl rfl rfl ?_
      refine j_goto (t := 48) rfl rfl ?_
      exact ih (r4.1) (r4.2) (l4 + (1 : Int32))
    · refine j_wk [false, false, true, false, false, true] (L' := [none, none, some (.int l2), none, none, none]) rfl ?_
      exact j_end (fun _ h => h)

theorem c_X11_middle (l1 : Int32) (σ : j_G) : j_K true 2 141 [.ref 0, .int l1] σ (f_X11_middle l1 σ) (j_Pi σ) := by
  refine j_mkK (M := M_cX11_middle) (L := [some (.ref 0), some (.int l1), none, none, none, none]) (m := 4) t_141 rfl (j_rcvO j_a0 rfl) rfl (fun d hd τ => ?_)
  unfold f_X11_middle
  refine j_aload_n (pc' := 1) rfl rfl rfl ?_
  refine j_gfr (pc' := 4) (x := 1) rfl rfl j_a0 rfl rfl ?_
  refine j_callTi (pc' := 7) (ai := 11) (vs := [.ref 1]) (rest := []) rfl rfl (fun _ _ => rfl) (c_X2_isTold  σ) (j_dd rfl hd) rfl ?_
  refine j_two (pT := 19) (pF := 22) (L1 := [some (.ref 0), some (.int l1), none, none, none, none]) (st1 := []) (fun o kT kF => ?_) (fun h3 => ?_) (fun h3 => ?_)
  · refine j_ifeq (t := 19) (pc' := 10) rfl rfl rfl (fun h4 => ?_) (fun h4 => ?_)
    · exact kT (Or.inl h4)
    · refine j_iload_n (pc' := 11) rfl rfl rfl ?_
      refine j_iflt (t := 19) (pc' := 14) rfl rfl rfl (fun h5 => ?_) (fun h5 => ?_)
      · exact kT (Or.inr (Or.inl h5))
      · refine j_iload_n (pc' := 15) rfl rfl rfl ?_
        refine j_iconst (pc' := 16) (x := (1 : Int32)) rfl rfl rfl ?_
        refine j_icle (t := 22) (pc' := 19) rfl rfl rfl (fun h6 => ?_) (fun h6 => ?_)
        · exact kF (fun z => z.elim h4 (fun z => z.elim h5 (h6)))
        · exact kT (Or.inr (Or.inr (h6)))
  · refine j_bipush (pc' := 21) (x := (-2 : Int32)) rfl rfl rfl ?_
    exact j_ret rfl rfl rfl (fun _ h => h)
  · refine j_aload_n (pc' := 23) rfl rfl rfl ?_
    refine j_gfr (pc' := 26) (x := 1) rfl rfl j_a0 rfl rfl ?_
    refine j_callTi (pc' := 29) (ai := 17) (vs := [.ref 1]) (rest := []) rfl rfl (fun _ _ => rfl) (c_X2_openHoles  σ) (j_dd rfl hd) rfl ?_
    refine j_two (pT := 32) (pF := 34) (L1 := [some (.ref 0), some (.int l1), none, none, none, none]) (st1 := []) (fun o kT kF => ?_) (fun h1 => ?_) (fun h1 => ?_)
    · refine j_ifne (t := 34) (pc' := 32) rfl rfl rfl (fun h2 => ?_) (fun h2 => ?_)
      · exact kF h2
      · exact kT h2
    · refine j_iconst (pc' := 33) (x := (-1 : Int32)) rfl rfl rfl ?_
      exact j_ret rfl rfl rfl (fun _ h => h)
    · refine j_iconst (pc' := 35) (x := (0 : Int32)) rfl rfl rfl ?_
      refine j_istore_n (pc' := 36) (L' := [some (.ref 0), some (.int l1), some (.int (0 : Int32)), none, none, none]) rfl rfl rfl ?_
      refine j_aload_n (pc' := 37) rfl rfl rfl ?_
      refine j_gfr (pc' := 40) (x := 1) rfl rfl j_a0 rfl rfl ?_
      refine j_iconst (pc' := 41) (x := (0 : Int32)) rfl rfl rfl ?_
      refine j_callPi (pc' := 44) (ai := 19) (vs := [.ref 1, .int (0 : Int32)]) (rest := []) rfl rfl (fun _ _ => rfl) (c_X2_stepsToAll (0 : Int32) σ) (j_dd rfl hd) rfl (fun v1 => ?_)
      refine j_istore_n (pc' := 45) (L' := [some (.ref 0), some (.int l1), some (.int (0 : Int32)), some (.int v1), none, none]) rfl rfl rfl ?_
      refine j_iconst (pc' := 46) (x := (1 : Int32)) rfl rfl rfl ?_
      refine j_istore (pc' := 48) (L' := [some (.ref 0), some (.int l1), some (.int (0 : Int32)), some (.int v1), some (.int (1 : Int32)), none]) rfl rfl rfl ?_
      refine j_q1 (l_X11_middle_48 hd τ l1 σ j_F (0 : Int32) v1 (1 : Int32)) (fun v2 => ?_)
      show j_J true τ M_cX11_middle d 102 [none, none, some (.int v2), none, none, none] [] σ _ _
      refine j_iload_n (pc' := 103) rfl rfl rfl ?_
      exact j_ret rfl rfl rfl (fun _ h => h)

noncomputable def p_X12_middle_33 (l1 : Int32) (σ : j_G) : Nat → Int32 → Int32 → Option Int32
  | 0, _, _ => none
  | n + 1, l2, l3 =>
    j_b1 (f_X12_holes σ) fun v1 =>
    if l3 < v1 then (j_b1 (if l1 = 0 then (j_b1 (f_X12_stepsToAll l3 σ) fun v3 =>
    j_b1 (f_X12_stepsToAll l2 σ) fun v4 =>
    if v3 < v4 then (some l3) else (some l2)) else (j_b1 (f_X12_stepsToAll l3 σ) fun v5 =>
    j_b1 (f_X12_stepsToAll l2 σ) fun v6 =>
    if v6 < v5 then (some l3) else (some l2))) fun v2 =>
    p_X12_middle_33 l1 σ n v2 (l3 + (1 : Int32))) else (some l2)

noncomputable def f_X12_middle (l1 : Int32) (σ : j_G) : Option Int32 :=
  j_b1 (f_X12_isBoard σ) fun v1 =>
  if (v1 = 0) ∨ ((f_X12_in (l1).toInt64 (0 : Int64) (1 : Int64)) = 0) then (some (-2 : Int32)) else (j_b1 (f_X12_openHoles σ) fun v2 =>
  if v2 = 0 then (some (-1 : Int32)) else (j_b1 (p_X12_middle_33 l1 σ j_F (0 : Int32) (1 : Int32)) fun v3 =>
  some v3))
theorem l_X12_middle_33 {d : Nat} (hd : 2 ≤ d) (τ : j_G) (l1 : Int32) (σ : j_G) : ∀ (n : Nat) (l2 : Int32) (l3 : Int32), j_J false τ M_cX12_middle d 33 [some (.ref 75), some (.int l1), some (.int l2), some (.int l3)] [] σ (p_X12_middle_33 l1 σ n l2 l3) (fun r Q => j_Tr false τ M_cX12_middle d 82 [none, none, some (.int r), none] [] σ Q) := by
  intro n
  induction n with
  | zero => intro l2 l3; exact j_none
  | succ n ih =>
    intro l2 l3
    unfold p_X12_middle_33
    refine j_iload_n (pc' := 34) rfl rfl rfl ?_
    refine j_aload_n (pc' := 35) rfl rfl rfl ?_
    refine j_callPi (pc' := 38) (ai := 200) (vs := [.ref 75]) (rest := [.int l3]) rfl rfl (fun _ _ => rfl) (c_X12_holes  σ) (j_dd rfl hd) rfl (fun v1 => ?_)
    refine j_two (pT := 41) (pF := 82) (L1 := [some (.ref 75), some (.int l1), some (.int l2), some (.int l3)]) (st1 := []) (fun o kT kF => ?_) (fun h7 => ?_) (fun h7 => ?_)
    · refine j_icge (t := 82) (pc' := 41) rfl rfl rfl (fun h8 => ?_) (fun h8 => ?_)
      · exact kF h8
      · exact kT h8
    · refine j_iload_n (pc' := 42) rfl rfl rfl ?_
      refine j_q1 (Φl := (fun r Q => j_Tr false τ M_cX12_middle d 76 [some (.ref 75), some (.int l1), some (.int r), some (.int l3)] [] σ Q)) ?_ (fun v2 => ?_)
      · refine j_two (pT := 45) (pF := 61) (L1 := [some (.ref 75), some (.int l1), some (.int l2), some (.int l3)]) (st1 := []) (fun o kT kF => ?_) (fun h5 => ?_) (fun h5 => ?_)
        · refine j_ifne (t := 61) (pc' := 45) rfl rfl rfl (fun h6 => ?_) (fun h6 => ?_)
          · exact kF h6
          · exact kT h6
        · refine j_aload_n (pc' := 46) rfl rfl rfl ?_
          refine j_iload_n (pc' := 47) rfl rfl rfl ?_
          refine j_callPi (pc' := 50) (ai := 279) (vs := [.ref 75, .int l3]) (rest := []) rfl rfl (fun _ _ => rfl) (c_X12_stepsToAll l3 σ) (j_dd rfl hd) rfl (fun v3 => ?_)
          refine j_aload_n (pc' := 51) rfl rfl rfl ?_
          refine j_iload_n (pc' := 52) rfl rfl rfl ?_
          refine j_callPi (pc' := 55) (ai := 279) (vs := [.ref 75, .int l2]) (rest := [.int v3]) rfl rfl (fun _ _ => rfl) (c_X12_stepsToAll l2 σ) (j_dd rfl hd) rfl (fun v4 => ?_)
          refine j_two (pT := 58) (pF := 76) (L1 := [some (.ref 75), some (.int l1), some (.int l2), some (.int l3)]) (st1 := []) (fun o kT kF => ?_) (fun h1 => ?_) (fun h1 => ?_)
          · refine j_icge (t := 76) (pc' := 58) rfl rfl rfl (fun h2 => ?_) (fun h2 => ?_)
            · exact kF h2
            · exact kT h2
          · refine j_goto (t := 74) rfl rfl ?_
            refine j_iload_n (pc' := 75) rfl rfl rfl ?_
            refine j_istore_n (pc' := 76) (L' := [some (.ref 75), some (.int l1), some (.int l3), some (.int l3)]) rfl rfl rfl ?_
            exact j_end (fun _ h => h)
          · exact j_end (fun _ h => h)
        · refine j_aload_n (pc' := 62) rfl rfl rfl ?_
          refine j_iload_n (pc' := 63) rfl rfl rfl ?_
          refine j_callPi (pc' := 66) (ai := 279) (vs := [.ref 75, .int l3]) (rest := []) rfl rfl (fun _ _ => rfl) (c_X12_stepsToAll l3 σ) (j_dd rfl hd) rfl (fun v5 => ?_)
          refine j_aload_n (pc' := 67) rfl rfl rfl ?_
          refine j_iload_n (pc' := 68) rfl rfl rfl ?_
          refine j_callPi (pc' := 71) (ai := 279) (vs := [.ref 75, .int l2]) (rest := [.int v5]) rfl rfl (fun _ _ => rfl) (c_X12_stepsToAll l2 σ) (j_dd rfl hd) rfl (fun v6 => ?_)
          refine j_two (pT := 74) (pF := 76) (L1 := [some (.ref 75), some (.int l1), some (.int l2), some (.int l3)]) (st1 := []) (fun o kT kF => ?_) (fun h3 => ?_) (fun h3 => ?_)
          · refine j_icle (t := 76) (pc' := 74) rfl rfl rfl (fun h4 => ?_) (fun h4 => ?_)
            · exact kF h4
            · exact kT h4
          · refine j_iload_n (pc' := 75) rfl rfl rfl ?_
            refine j_istore_n (pc' := 76) (L' := [some (.ref 75), some (.int l1), some (.int l3), some (.int l3)]) rfl rfl rfl ?_
            exact j_end (fun _ h => h)
          · exact j_end (fun _ h => h)
      show j_J false τ M_cX12_middle d 76 [some (.ref 75), some (.int l1), some (.int v2), some (.int l3)] [] σ _ _
      refine j_iincx (pc' := 79) (y := (1 : Int32)) (L' := [some (.ref 75), some (.int l1), some (.int v2), some (.int (l3 + (1 : Int32)))]) rfl rfl rfl rfl rfl ?_
      refine j_goto (t := 33) rfl rfl ?_
      exact ih v2 (l3 + (1 : Int32))
    · refine j_wk [false, false, true, false] (L' := [none, none, some (.int l2), none]) rfl ?_
      exact j_end (fun _ h => h)

theorem c_X12_middle (l1 : Int32) (σ : j_G) : j_K false 2 282 [.ref 75, .int l1] σ (f_X12_middle l1 σ) (j_Pi σ) := by
  refine j_mkK (M := M_cX12_middle) (L := [some (.ref 75), some (.int l1), none, none]) (m := 2) t_282 rfl (j_rcvO j_a75 rfl) rfl (fun d hd τ => ?_)
  unfold f_X12_middle
  refine j_aload_n (pc' := 1) rfl rfl rfl ?_
  refine j_callPi (pc' := 4) (ai := 199) (vs := [.ref 75]) (rest := []) rfl rfl (fun _ _ => rfl) (c_X12_isBoard  σ) (j_dd rfl hd) rfl (fun v1 => ?_)
  refine j_two (pT := 17) (pF := 20) (L1 := [some (.ref 75), some (.int l1), none, none]) (st1 := []) (fun o kT kF => ?_) (fun h3 => ?_) (fun h3 => ?_)
  · refine j_ifeq (t := 17) (pc' := 7) rfl rfl rfl (fun h4 => ?_) (fun h4 => ?_)
    · exact kT (Or.inl h4)
    · refine j_iload_n (pc' := 8) rfl rfl rfl ?_
      refine j_i2l (pc' := 9) rfl rfl ?_
      refine j_lconst (pc' := 10) (x := (0 : Int64)) rfl rfl rfl ?_
      refine j_lconst (pc' := 11) (x := (1 : Int64)) rfl rfl rfl ?_
      refine j_callTi (pc' := 14) (ai := 196) (vs := [.long (l1).toInt64, .long (0 : Int64), .long (1 : Int64)]) (rest := []) rfl rfl (fun _ _ => rfl) (c_X12_in (l1).toInt64 (0 : Int64) (1 : Int64) σ) (j_dd rfl hd) rfl ?_
      refine j_ifne (t := 20) (pc' := 17) rfl rfl rfl (fun h5 => ?_) (fun h5 => ?_)
      · exact kF (fun z => z.elim h4 (h5))
      · exact kT (Or.inr (h5))
  · refine j_bipush (pc' := 19) (x := (-2 : Int32)) rfl rfl rfl ?_
    exact j_ret rfl rfl rfl (fun _ h => h)
  · refine j_aload_n (pc' := 21) rfl rfl rfl ?_
    refine j_callPi (pc' := 24) (ai := 278) (vs := [.ref 75]) (rest := []) rfl rfl (fun _ _ => rfl) (c_X12_openHoles  σ) (j_dd rfl hd) rfl (fun v2 => ?_)
    refine j_two (pT := 27) (pF := 29) (L1 := [some (.ref 75), some (.int l1), none, none]) (st1 := []) (fun o kT kF => ?_) (fun h1 => ?_) (fun h1 => ?_)
    · refine j_ifne (t := 29) (pc' := 27) rfl rfl rfl (fun h2 => ?_) (fun h2 => ?_)
      · exact kF h2
      · exact kT h2
    · refine j_iconst (pc' := 28) (x := (-1 : Int32)) rfl rfl rfl ?_
      exact j_ret rfl rfl rfl (fun _ h => h)
    · refine j_iconst (pc' := 30) (x := (0 : Int32)) rfl rfl rfl ?_
      refine j_istore_n (pc' := 31) (L' := [some (.ref 75), some (.int l1), some (.int (0 : Int32)), none]) rfl rfl rfl ?_
      refine j_iconst (pc' := 32) (x := (1 : Int32)) rfl rfl rfl ?_
      refine j_istore_n (pc' := 33) (L' := [some (.ref 75), some (.int l1), some (.int (0 : Int32)), some (.int (1 : Int32))]) rfl rfl rfl ?_
      refine j_q1 (l_X12_middle_33 hd τ l1 σ j_F (0 : Int32) (1 : Int32)) (fun v3 => ?_)
      show j_J false τ M_cX12_middle d 82 [none, none, some (.int v3), none] [] σ _ _
      refine j_iload_n (pc' := 83) rfl rfl rfl ?_
      exact j_ret rfl rfl rfl (fun _ h => h)

noncomputable def p_X6_reachFrom_5 (l2 : Int32) (σ : j_G) : Nat → Int32 → Int32 → Option Int32
  | 0, _, _ => none
  | n + 1, l3, l4 =>
    if l4 < (f_X2_holes 1 σ) then (j_b1 (if (f_X2_isShut 1 l4 σ) = 0 then (j_b1 (f_X6_there 28 l2 l4 (σ.1 28 1) σ) fun v2 =>
    j_b1 (f_X2_stayIn (0 : Int32) σ) fun v3 =>
    if v2 < v3 then (j_lt (l3 ||| ((1 : Int32) <<< (l4 &&& 31))) fun v4 =>
    some v4) else (some l3)) else (some l3)) fun v1 =>
    p_X6_reachFrom_5 l2 σ n v1 (l4 + (1 : Int32))) else (some l3)

noncomputable def f_X6_reachFrom (l2 : Int32) (σ : j_G) : Option Int32 :=
  j_b1 (p_X6_reachFrom_5 l2 σ j_F (0 : Int32) (0 : Int32)) fun v1 =>
  some v1
theorem l_X6_reachFrom_5 {d : Nat} (hd : 2 ≤ d) (τ : j_G) (l2 : Int32) (σ : j_G) : ∀ (n : Nat) (l3 : Int32) (l4 : Int32), j_J true τ M_cX6_reachFrom d 5 [some (.ref 28), some (.ref 1), some (.int l2), some (.int l3), some (.int l4)] [] σ (p_X6_reachFrom_5 l2 σ n l3 l4) (fun r Q => j_Tr true τ M_cX6_reachFrom d 56 [none, none, none, some (.int r), none] [] σ Q) := by
  intro n
  induction n with
  | zero => intro l3 l4; exact j_none
  | succ n ih =>
    intro l3 l4
    unfold p_X6_reachFrom_5
    refine j_iload (pc' := 7) rfl rfl rfl ?_
    refine j_aload_n (pc' := 8) rfl rfl rfl ?_
    refine j_callTi (pc' := 11) (ai := 12) (vs := [.ref 1]) (rest := [.int l4]) rfl rfl (fun _ _ => rfl) (c_X2_holes_1  σ) (j_dd rfl hd) rfl ?_
    refine j_two (pT := 14) (pF := 56) (L1 := [some (.ref 28), some (.ref 1), some (.int l2), some (.int l3), some (.int l4)]) (st1 := []) (fun o kT kF => ?_) (fun h5 => ?_) (fun h5 => ?_)
    · refine j_icge (t := 56) (pc' := 14) rfl rfl rfl (fun h6 => ?_) (fun h6 => ?_)
      · exact kF h6
      · exact kT h6
    · refine j_aload_n (pc' := 15) rfl rfl rfl ?_
      refine j_iload (pc' := 17) rfl rfl rfl ?_
      refine j_callTi (pc' := 20) (ai := 16) (vs := [.ref 1, .int l4]) (rest := []) rfl rfl (fun _ _ => rfl) (c_X2_isShut_1 l4 σ) (j_dd rfl hd) rfl ?_
      refine j_q1 (Φl := (fun r Q => j_Tr true τ M_cX6_reachFrom d 50 [some (.ref 28), some (.ref 1), some (.int l2), some (.int r), some (.int l4)] [] σ Q)) ?_ (fun v1 => ?_)
      · refine j_two (pT := 23) (pF := 50) (L1 := [some (.ref 28), some (.ref 1), some (.int l2), some (.int l3), some (.int l4)]) (st1 := []) (fun o kT kF => ?_) (fun h3 => ?_) (fun h3 => ?_)
        · refine j_ifne (t := 50) (pc' := 23) rfl rfl rfl (fun h4 => ?_) (fun h4 => ?_)
          · exact kF h4
          · exact kT h4
        · refine j_aload_n (pc' := 24) rfl rfl rfl ?_
          refine j_aload_n (pc' := 25) rfl rfl rfl ?_
          refine j_iload_n (pc' := 26) rfl rfl rfl ?_
          refine j_iload (pc' := 28) rfl rfl rfl ?_
          refine j_aload_n (pc' := 29) rfl rfl rfl ?_
          refine j_gfi (pc' := 32) rfl rfl j_a28 rfl ?_
          refine j_callPi (pc' := 35) (ai := 67) (vs := [.ref 28, .ref 1, .int l2, .int l4, .int (σ.1 28 1)]) (rest := []) rfl rfl (fun _ _ => rfl) (c_X6_there_28_1 l2 l4 (σ.1 28 1) σ) (j_dd rfl hd) rfl (fun v2 => ?_)
          refine j_aload_n (pc' := 36) rfl rfl rfl ?_
          refine j_iconst (pc' := 37) (x := (0 : Int32)) rfl rfl rfl ?_
          refine j_callPi (pc' := 40) (ai := 21) (vs := [.ref 1, .int (0 : Int32)]) (rest := [.int v2]) rfl rfl (fun _ _ => rfl) (c_X2_stayIn (0 : Int32) σ) (j_dd rfl hd) rfl (fun v3 => ?_)
          refine j_two (pT := 43) (pF := 50) (L1 := [some (.ref 28), some (.ref 1), some (.int l2), some (.int l3), some (.int l4)]) (st1 := []) (fun o kT kF => ?_) (fun h1 => ?_) (fun h1 => ?_)
          · refine j_icge (t := 50) (pc' := 43) rfl rfl rfl (fun h2 => ?_) (fun h2 => ?_)
            · exact kF h2
            · exact kT h2
          · refine j_iload_n (pc' := 44) rfl rfl rfl ?_
            refine j_iconst (pc' := 45) (x := (1 : Int32)) rfl rfl rfl ?_
            refine j_iload (pc' := 47) rfl rfl rfl ?_
            refine j_ishl (pc' := 48) rfl rfl ?_
            refine j_ior (pc' := 49) rfl rfl ?_
            refine j_leti (fun v4 => ?_)
            refine j_istore_n (pc' := 50) (L' := [some (.ref 28), some (.ref 1), some (.int l2), some (.int v4), some (.int l4)]) rfl rfl rfl ?_
            exact j_end (fun _ h => h)
          · exact j_end (fun _ h => h)
        · exact j_end (fun _ h => h)
      show j_J true τ M_cX6_reachFrom d 50 [some (.ref 28), some (.ref 1), some (.int l2), some (.int v1), some (.int l4)] [] σ _ _
      refine j_iincx (pc' := 53) (y := (1 : Int32)) (L' := [some (.ref 28), some (.ref 1), some (.int l2), some (.int v1), some (.int (l4 + (1 : Int32)))]) rfl rfl rfl rfl rfl ?_
      refine j_goto (t := 5) rfl rfl ?_
      exact ih v1 (l4 + (1 : Int32))
    · refine j_wk [false, false, false, true, false] (L' := [none, none, none, some (.int l3), none]) rfl ?_
      exact j_end (fun _ h => h)

theorem c_X6_reachFrom (l2 : Int32) (σ : j_G) : j_K true 2 68 [.ref 28, .ref 1, .int l2] σ (f_X6_reachFrom l2 σ) (j_Pi σ) := by
  refine j_mkK (M := M_cX6_reachFrom) (L := [some (.ref 28), some (.ref 1), some (.int l2), none, none]) (m := 2) t_68 rfl (j_rcvO j_a28 rfl) rfl (fun d hd τ => ?_)
  unfold f_X6_reachFrom
  refine j_iconst (pc' := 1) (x := (0 : Int32)) rfl rfl rfl ?_
  refine j_istore_n (pc' := 2) (L' := [some (.ref 28), some (.ref 1), some (.int l2), some (.int (0 : Int32)), none]) rfl rfl rfl ?_
  refine j_iconst (pc' := 3) (x := (0 : Int32)) rfl rfl rfl ?_
  refine j_istore (pc' := 5) (L' := [some (.ref 28), some (.ref 1), some (.int l2), some (.int (0 : Int32)), some (.int (0 : Int32))]) rfl rfl rfl ?_
  refine j_q1 (l_X6_reachFrom_5 hd τ l2 σ j_F (0 : Int32) (0 : Int32)) (fun v1 => ?_)
  show j_J true τ M_cX6_reachFrom d 56 [none, none, none, some (.int v1), none] [] σ _ _
  refine j_iload_n (pc' := 57) rfl rfl rfl ?_
  exact j_ret rfl rfl rfl (fun _ h => h)

noncomputable def f_X11_reach (l1 : Int32) (l2 : Int32) (σ : j_G) : Option (Int32 × j_G) :=
  if ((f_X2_isPlayer l1 σ) = 0) ∨ ((f_X2_isHole 1 l2 σ) = 0) then (some ((-2 : Int32), σ)) else (j_b1 (f_X6_take 28 l1 σ) fun σ1 =>
  j_b1 (f_X6_reachFrom l2 σ1) fun v2 =>
  some (v2, σ1))
theorem c_X11_reach (l1 : Int32) (l2 : Int32) (σ : j_G) : j_K true 3 142 [.ref 0, .int l1, .int l2] σ (f_X11_reach l1 l2 σ) j_Ri := by
  refine j_mkK (M := M_cX11_reach) (L := [some (.ref 0), some (.int l1), some (.int l2)]) (m := 0) t_142 rfl (j_rcvO j_a0 rfl) rfl (fun d hd τ => ?_)
  unfold f_X11_reach
  refine j_aload_n (pc' := 1) rfl rfl rfl ?_
  refine j_gfr (pc' := 4) (x := 1) rfl rfl j_a0 rfl rfl ?_
  refine j_iload_n (pc' := 5) rfl rfl rfl ?_
  refine j_callTi (pc' := 8) (ai := 15) (vs := [.ref 1, .int l1]) (rest := []) rfl rfl (fun _ _ => rfl) (c_X2_isPlayer l1 σ) (j_dd rfl hd) rfl ?_
  refine j_two (pT := 22) (pF := 25) (L1 := [some (.ref 0), some (.int l1), some (.int l2)]) (st1 := []) (fun o kT kF => ?_) (fun h1 => ?_) (fun h1 => ?_)
  · refine j_ifeq (t := 22) (pc' := 11) rfl rfl rfl (fun h2 => ?_) (fun h2 => ?_)
    · exact kT (Or.inl h2)
    · refine j_aload_n (pc' := 12) rfl rfl rfl ?_
      refine j_gfr (pc' := 15) (x := 1) rfl rfl j_a0 rfl rfl ?_
      refine j_iload_n (pc' := 16) rfl rfl rfl ?_
      refine j_callTi (pc' := 19) (ai := 13) (vs := [.ref 1, .int l2]) (rest := []) rfl rfl (fun _ _ => rfl) (c_X2_isHole_1 l2 σ) (j_dd rfl hd) rfl ?_
      refine j_ifne (t := 25) (pc' := 22) rfl rfl rfl (fun h3 => ?_) (fun h3 => ?_)
      · exact kF (fun z => z.elim h2 (h3))
      · exact kT (Or.inr (h3))
  · refine j_bipush (pc' := 24) (x := (-2 : Int32)) rfl rfl rfl ?_
    exact j_ret rfl rfl rfl (fun _ h => h)
  · refine j_aload_n (pc' := 26) rfl rfl rfl ?_
    refine j_gfr (pc' := 29) (x := 28) rfl rfl j_a0 rfl rfl ?_
    refine j_aload_n (pc' := 30) rfl rfl rfl ?_
    refine j_gfr (pc' := 33) (x := 1) rfl rfl j_a0 rfl rfl ?_
    refine j_iload_n (pc' := 34) rfl rfl rfl ?_
    refine j_callRv (pc' := 37) (ai := 64) (vs := [.ref 28, .ref 1, .int l1]) (rest := []) rfl rfl (fun _ _ => rfl) (c_X6_take_28_1 l1 σ) (j_dd rfl hd) rfl (fun σ1 => ?_)
    refine j_aload_n (pc' := 38) rfl rfl rfl ?_
    refine j_gfr (pc' := 41) (x := 28) rfl rfl j_a0 rfl rfl ?_
    refine j_aload_n (pc' := 42) rfl rfl rfl ?_
    refine j_gfr (pc' := 45) (x := 1) rfl rfl j_a0 rfl rfl ?_
    refine j_iload_n (pc' := 46) rfl rfl rfl ?_
    refine j_callPi (pc' := 49) (ai := 68) (vs := [.ref 28, .ref 1, .int l2]) (rest := []) rfl rfl (fun _ _ => rfl) (c_X6_reachFrom l2 σ1) (j_dd rfl hd) rfl (fun v2 => ?_)
    exact j_ret rfl rfl rfl (fun _ h => h)

noncomputable def p_X12_reachOf_14 (l1 : Int32) (l2 : Int32) (l4 : Int32) (σ : j_G) : Nat → Int32 → Int32 → Option Int32
  | 0, _, _ => none
  | n + 1, l3, l5 =>
    j_b1 (f_X12_holes σ) fun v1 =>
    if l5 < v1 then (j_b1 (f_X12_isShut l5 σ) fun v2 =>
    j_b1 (if v2 = 0 then (j_b1 (f_X12_of l1 (1 : Int32) σ) fun v4 =>
    j_b1 (f_X12_stepsOf l2 l5 σ) fun v5 =>
    j_b1 (f_X12_of l1 (1 : Int32) σ) fun v6 =>
    j_b1 (f_X12_paceIn l1 v6 σ) fun v7 =>
    if ¬ l4 < (v4 + (v5 * v7)) then (j_lt (l3 ||| ((1 : Int32) <<< (l5 &&& 31))) fun v8 =>
    some v8) else (some l3)) else (some l3)) fun v3 =>
    p_X12_reachOf_14 l1 l2 l4 σ n v3 (l5 + (1 : Int32))) else (some l3)

noncomputable def f_X12_reachOf (l1 : Int32) (l2 : Int32) (σ : j_G) : Option Int32 :=
  j_b1 (f_X12_stayIn (0 : Int32) σ) fun v1 =>
  j_lt (v1 - (1 : Int32)) fun v2 =>
  j_b1 (p_X12_reachOf_14 l1 l2 v2 σ j_F (0 : Int32) (0 : Int32)) fun v3 =>
  some v3
theorem l_X12_reachOf_14 {d : Nat} (hd : 2 ≤ d) (τ : j_G) (l1 : Int32) (l2 : Int32) (l4 : Int32) (σ : j_G) : ∀ (n : Nat) (l3 : Int32) (l5 : Int32), j_J false τ M_cX12_reachOf d 14 [some (.ref 75), some (.int l1), some (.int l2), some (.int l3), some (.int l4), some (.int l5)] [] σ (p_X12_reachOf_14 l1 l2 l4 σ n l3 l5) (fun r Q => j_Tr false τ M_cX12_reachOf d 76 [none, none, none, some (.int r), none, none] [] σ Q) := by
  intro n
  induction n with
  | zero => intro l3 l5; exact j_none
  | succ n ih =>
    intro l3 l5
    unfold p_X12_reachOf_14
    refine j_iload (pc' := 16) rfl rfl rfl ?_
    refine j_aload_n (pc' := 17) rfl rfl rfl ?_
    refine j_callPi (pc' := 20) (ai := 200) (vs := [.ref 75]) (rest := [.int l5]) rfl rfl (fun _ _ => rfl) (c_X12_holes  σ) (j_dd rfl hd) rfl (fun v1 => ?_)
    refine j_two (pT := 23) (pF := 76) (L1 := [some (.ref 75), some (.int l1), some (.int l2), some (.int l3), some (.int l4), some (.int l5)]) (st1 := []) (fun o kT kF => ?_) (fun h5 => ?_) (fun h5 => ?_)
    · refine j_icge (t := 76) (pc' := 23) rfl rfl rfl (fun h6 => ?_) (fun h6 => ?_)
      · exact kF h6
      · exact kT h6
    · refine j_aload_n (pc' := 24) rfl rfl rfl ?_
      refine j_iload (pc' := 26) rfl rfl rfl ?_
      refine j_callPi (pc' := 29) (ai := 202) (vs := [.ref 75, .int l5]) (rest := []) rfl rfl (fun _ _ => rfl) (c_X12_isShut l5 σ) (j_dd rfl hd) rfl (fun v2 => ?_)
      refine j_q1 (Φl := (fun r Q => j_Tr false τ M_cX12_reachOf d 70 [some (.ref 75), some (.int l1), some (.int l2), some (.int r), some (.int l4), some (.int l5)] [] σ Q)) ?_ (fun v3 => ?_)
      · refine j_two (pT := 32) (pF := 70) (L1 := [some (.ref 75), some (.int l1), some (.int l2), some (.int l3), some (.int l4), some (.int l5)]) (st1 := []) (fun o kT kF => ?_) (fun h3 => ?_) (fun h3 => ?_)
        · refine j_ifne (t := 70) (pc' := 32) rfl rfl rfl (fun h4 => ?_) (fun h4 => ?_)
          · exact kF h4
          · exact kT h4
        · refine j_aload_n (pc' := 33) rfl rfl rfl ?_
          refine j_iload_n (pc' := 34) rfl rfl rfl ?_
          refine j_iconst (pc' := 35) (x := (1 : Int32)) rfl rfl rfl ?_
          refine j_callPi (pc' := 38) (ai := 207) (vs := [.ref 75, .int l1, .int (1 : Int32)]) (rest := []) rfl rfl (fun _ _ => rfl) (c_X12_of l1 (1 : Int32) σ) (j_dd rfl hd) rfl (fun v4 => ?_)
          refine j_aload_n (pc' := 39) rfl rfl rfl ?_
          refine j_iload_n (pc' := 40) rfl rfl rfl ?_
          refine j_iload (pc' := 42) rfl rfl rfl ?_
          refine j_callPi (pc' := 45) (ai := 248) (vs := [.ref 75, .int l2, .int l5]) (rest := [.int v4]) rfl rfl (fun _ _ => rfl) (c_X12_stepsOf l2 l5 σ) (j_dd rfl hd) rfl (fun v5 => ?_)
          refine j_aload_n (pc' := 46) rfl rfl rfl ?_
          refine j_iload_n (pc' := 47) rfl rfl rfl ?_
          refine j_aload_n (pc' := 48) rfl rfl rfl ?_
          refine j_iload_n (pc' := 49) rfl rfl rfl ?_
          refine j_iconst (pc' := 50) (x := (1 : Int32)) rfl rfl rfl ?_
          refine j_callPi (pc' := 53) (ai := 207) (vs := [.ref 75, .int l1, .int (1 : Int32)]) (rest := [.int l1, .ref 75, .int v5, .int v4]) rfl rfl (fun _ _ => rfl) (c_X12_of l1 (1 : Int32) σ) (j_dd rfl hd) rfl (fun v6 => ?_)
          refine j_callPi (pc' := 56) (ai := 250) (vs := [.ref 75, .int l1, .int v6]) (rest := [.int v5, .int v4]) rfl rfl (fun _ _ => rfl) (c_X12_paceIn l1 v6 σ) (j_dd rfl hd) rfl (fun v7 => ?_)
          refine j_imul (pc' := 57) rfl rfl ?_
          refine j_iadd (pc' := 58) rfl rfl ?_
          refine j_iload (pc' := 60) rfl rfl rfl ?_
          refine j_two (pT := 63) (pF := 70) (L1 := [some (.ref 75), some (.int l1), some (.int l2), some (.int l3), some (.int l4), some (.int l5)]) (st1 := []) (fun o kT kF => ?_) (fun h1 => ?_) (fun h1 => ?_)
          · refine j_icgt (t := 70) (pc' := 63) rfl rfl rfl (fun h2 => ?_) (fun h2 => ?_)
            · exact kF (fun z => z h2)
            · exact kT h2
          · refine j_iload_n (pc' := 64) rfl rfl rfl ?_
            refine j_iconst (pc' := 65) (x := (1 : Int32)) rfl rfl rfl ?_
            refine j_iload (pc' := 67) rfl rfl rfl ?_
            refine j_ishl (pc' := 68) rfl rfl ?_
            refine j_ior (pc' := 69) rfl rfl ?_
            refine j_leti (fun v8 => ?_)
            refine j_istore_n (pc' := 70) (L' := [some (.ref 75), some (.int l1), some (.int l2), some (.int v8), some (.int l4), some (.int l5)]) rfl rfl rfl ?_
            exact j_end (fun _ h => h)
          · exact j_end (fun _ h => h)
        · exact j_end (fun _ h => h)
      show j_J false τ M_cX12_reachOf d 70 [some (.ref 75), some (.int l1), some (.int l2), some (.int v3), some (.int l4), some (.int l5)] [] σ _ _
      refine j_iincx (pc' := 73) (y := (1 : Int32)) (L' := [some (.ref 75), some (.int l1), some (.int l2), some (.int v3), some (.int l4), some (.int (l5 + (1 : Int32)))]) rfl rfl rfl rfl rfl ?_
      refine j_goto (t := 14) rfl rfl ?_
      exact ih v3 (l5 + (1 : Int32))
    · refine j_wk [false, false, false, true, false, false] (L' := [none, none, none, some (.int l3), none, none]) rfl ?_
      exact j_end (fun _ h => h)

theorem c_X12_reachOf (l1 : Int32) (l2 : Int32) (σ : j_G) : j_K false 2 283 [.ref 75, .int l1, .int l2] σ (f_X12_reachOf l1 l2 σ) (j_Pi σ) := by
  refine j_mkK (M := M_cX12_reachOf) (L := [some (.ref 75), some (.int l1), some (.int l2), none, none, none]) (m := 3) t_283 rfl (j_rcvO j_a75 rfl) rfl (fun d hd τ => ?_)
  unfold f_X12_reachOf
  refine j_iconst (pc' := 1) (x := (0 : Int32)) rfl rfl rfl ?_
  refine j_istore_n (pc' := 2) (L' := [some (.ref 75), some (.int l1), some (.int l2), some (.int (0 : Int32)), none, none]) rfl rfl rfl ?_
  refine j_aload_n (pc' := 3) rfl rfl rfl ?_
  refine j_iconst (pc' := 4) (x := (0 : Int32)) rfl rfl rfl ?_
  refine j_callPi (pc' := 7) (ai := 233) (vs := [.ref 75, .int (0 : Int32)]) (rest := []) rfl rfl (fun _ _ => rfl) (c_X12_stayIn (0 : Int32) σ) (j_dd rfl hd) rfl (fun v1 => ?_)
  refine j_iconst (pc' := 8) (x := (1 : Int32)) rfl rfl rfl ?_
  refine j_isub (pc' := 9) rfl rfl ?_
  refine j_leti (fun v2 => ?_)
  refine j_istore (pc' := 11) (L' := [some (.ref 75), some (.int l1), some (.int l2), some (.int (0 : Int32)), some (.int v2), none]) rfl rfl rfl ?_
  refine j_iconst (pc' := 12) (x := (0 : Int32)) rfl rfl rfl ?_
  refine j_istore (pc' := 14) (L' := [some (.ref 75), some (.int l1), some (.int l2), some (.int (0 : Int32)), some (.int v2), some (.int (0 : Int32))]) rfl rfl rfl ?_
  refine j_q1 (l_X12_reachOf_14 hd τ l1 l2 v2 σ j_F (0 : Int32) (0 : Int32)) (fun v3 => ?_)
  show j_J false τ M_cX12_reachOf d 76 [none, none, none, some (.int v3), none, none] [] σ _ _
  refine j_iload_n (pc' := 77) rfl rfl rfl ?_
  exact j_ret rfl rfl rfl (fun _ h => h)

noncomputable def f_X12_reach (l1 : Int32) (l2 : Int32) (σ : j_G) : Option Int32 :=
  j_b1 (f_X12_isPlayer l1 σ) fun v1 =>
  if ¬ v1 = 0 then (j_b1 (f_X12_isHole (l2).toInt64 σ) fun v2 =>
  if ¬ v2 = 0 then (j_b1 (f_X12_reachOf l1 l2 σ) fun v3 =>
  some v3) else (some (-2 : Int32))) else (some (-2 : Int32))
theorem c_X12_reach (l1 : Int32) (l2 : Int32) (σ : j_G) : j_K false 3 284 [.ref 75, .int l1, .int l2] σ (f_X12_reach l1 l2 σ) (j_Pi σ) := by
  refine j_mkK (M := M_cX12_reach) (L := [some (.ref 75), some (.int l1), some (.int l2)]) (m := 0) t_284 rfl (j_rcvO j_a75 rfl) rfl (fun d hd τ => ?_)
  unfold f_X12_reach
  refine j_aload_n (pc' := 1) rfl rfl rfl ?_
  refine j_iload_n (pc' := 2) rfl rfl rfl ?_
  refine j_callPi (pc' := 5) (ai := 205) (vs := [.ref 75, .int l1]) (rest := []) rfl rfl (fun _ _ => rfl) (c_X12_isPlayer l1 σ) (j_dd rfl hd) rfl (fun v1 => ?_)
  refine j_two (pT := 8) (pF := 26) (L1 := [some (.ref 75), some (.int l1), some (.int l2)]) (st1 := []) (fun o kT kF => ?_) (fun h3 => ?_) (fun h3 => ?_)
  · refine j_ifeq (t := 26) (pc' := 8) rfl rfl rfl (fun h4 => ?_) (fun h4 => ?_)
    · exact kF (fun z => z h4)
    · exact kT h4
  · refine j_aload_n (pc' := 9) rfl rfl rfl ?_
    refine j_iload_n (pc' := 10) rfl rfl rfl ?_
    refine j_i2l (pc' := 11) rfl rfl ?_
    refine j_callPi (pc' := 14) (ai := 201) (vs := [.ref 75, .long (l2).toInt64]) (rest := []) rfl rfl (fun _ _ => rfl) (c_X12_isHole (l2).toInt64 σ) (j_dd rfl hd) rfl (fun v2 => ?_)
    refine j_two (pT := 17) (pF := 26) (L1 := [some (.ref 75), some (.int l1), some (.int l2)]) (st1 := []) (fun o kT kF => ?_) (fun h1 => ?_) (fun h1 => ?_)
    · refine j_ifeq (t := 26) (pc' := 17) rfl rfl rfl (fun h2 => ?_) (fun h2 => ?_)
      · exact kF (fun z => z h2)
      · exact kT h2
    · refine j_aload_n (pc' := 18) rfl rfl rfl ?_
      refine j_iload_n (pc' := 19) rfl rfl rfl ?_
      refine j_iload_n (pc' := 20) rfl rfl rfl ?_
      refine j_callPi (pc' := 23) (ai := 283) (vs := [.ref 75, .int l1, .int l2]) (rest := []) rfl rfl (fun _ _ => rfl) (c_X12_reachOf l1 l2 σ) (j_dd rfl hd) rfl (fun v3 => ?_)
      refine j_goto (t := 28) rfl rfl ?_
      exact j_ret rfl rfl rfl (fun _ h => h)
    · refine j_bipush (pc' := 28) (x := (-2 : Int32)) rfl rfl rfl ?_
      exact j_ret rfl rfl rfl (fun _ h => h)
  · refine j_bipush (pc' := 28) (x := (-2 : Int32)) rfl rfl rfl ?_
    exact j_ret rfl rfl rfl (fun _ h => h)

noncomputable def p_X11_post_33 (σ : j_G) : Nat → Int32 → Int32 → Int32 → Option Int32
  | 0, _, _, _ => none
  | n + 1, l2, l3, l4 =>
    if l4 < (f_X2_holes 1 σ) then (j_b1 (f_X6_reachFrom l4 σ) fun v1 =>
    j_lt (f_J6_bitCount_0f7a4 v1) fun v2 =>
    j_lt (if l3 < v2 then ((l4, v2)) else ((l2, l3))) fun r5 =>
    p_X11_post_33 σ n (r5.1) (r5.2) (l4 + (1 : Int32))) else (some l2)

noncomputable def f_X11_post (l1 : Int32) (σ : j_G) : Option (Int32 × j_G) :=
  if (f_X2_isPlayer l1 σ) = 0 then (some ((-2 : Int32), σ)) else (j_b1 (f_X6_take 28 l1 σ) fun σ1 =>
  j_b1 (p_X11_post_33 σ1 j_F (0 : Int32) (-1 : Int32) (0 : Int32)) fun v2 =>
  some (v2, σ1))
theorem l_X11_post_33 {d : Nat} (hd : 3 ≤ d) (τ : j_G) (σ : j_G) : ∀ (n : Nat) (l2 : Int32) (l3 : Int32) (l4 : Int32), j_J true τ M_cX11_post d 33 [some (.ref 0), none, some (.int l2), some (.int l3), some (.int l4), none] [] σ (p_X11_post_33 σ n l2 l3 l4) (fun r Q => j_Tr true τ M_cX11_post d 81 [none, none, some (.int r), none, none, none] [] σ Q) := by
  intro n
  induction n with
  | zero => intro l2 l3 l4; exact j_none
  | succ n ih =>
    intro l2 l3 l4
    unfold p_X11_post_33
    refine j_iload (pc' := 35) rfl rfl rfl ?_
    refine j_aload_n (pc' := 36) rfl rfl rfl ?_
    refine j_gfr (pc' := 39) (x := 1) rfl rfl j_a0 rfl rfl ?_
    refine j_callTi (pc' := 42) (ai := 12) (vs := [.ref 1]) (rest := [.int l4]) rfl rfl (fun _ _ => rfl) (c_X2_holes_1  σ) (j_dd rfl hd) rfl ?_
    refine j_two (pT := 45) (pF := 81) (L1 := [some (.ref 0), none, some (.int l2), some (.int l3), some (.int l4), none]) (st1 := []) (fun o kT kF => ?_) (fun h3 => ?_) (fun h3 => ?_)
    · refine j_icge (t := 81) (pc' := 45) rfl rfl rfl (fun h4 => ?_) (fun h4 => ?_)
      · exact kF h4
      · exact kT h4
    · refine j_aload_n (pc' := 46) rfl rfl rfl ?_
      refine j_gfr (pc' := 49) (x := 28) rfl rfl j_a0 rfl rfl ?_
      refine j_aload_n (pc' := 50) rfl rfl rfl ?_
      refine j_gfr (pc' := 53) (x := 1) rfl rfl j_a0 rfl rfl ?_
      refine j_iload (pc' := 55) rfl rfl rfl ?_
      refine j_callPi (pc' := 58) (ai := 68) (vs := [.ref 28, .ref 1, .int l4]) (rest := []) rfl rfl (fun _ _ => rfl) (c_X6_reachFrom l4 σ) (j_dd rfl hd) rfl (fun v1 => ?_)
      refine j_callTi (pc' := 61) (ai := 356) (vs := [.int v1]) (rest := []) rfl rfl (fun _ _ => rfl) (c_J6_bitCount_0f7a4 v1 σ) (j_dd rfl hd) rfl ?_
      refine j_leti (fun v2 => ?_)
      refine j_istore (pc' := 63) (L' := [some (.ref 0), none, some (.int l2), some (.int l3), some (.int l4), some (.int v2)]) rfl rfl rfl ?_
      refine j_iload (pc' := 65) rfl rfl rfl ?_
      refine j_iload_n (pc' := 66) rfl rfl rfl ?_
      refine j_ql (Φl := (fun r Q => j_Tr true τ M_cX11_post d 75 [some (.ref 0), none, some (.int r.1), some (.int r.2), some (.int l4), none] [] σ Q)) ?_ (fun r5 => ?_)
      · refine j_twoT (pT := 69) (pF := 75) (L1 := [some (.ref 0), none, some (.int l2), some (.int l3), some (.int l4), some (.int v2)]) (st1 := []) (fun o kT kF => ?_) (fun h1 => ?_) (fun h1 => ?_)
        · refine j_icle (t := 75) (pc' := 69) rfl rfl rfl (fun h2 => ?_) (fun h2 => ?_)
          · exact kF h2
          · exact kT h2
        · refine j_iload (pc' := 71) rfl rfl rfl ?_
          refine j_istore_n (pc' := 72) (L' := [some (.ref 0), none, some (.int l2), some (.int v2), some (.int l4), some (.int v2)]) rfl rfl rfl ?_
          refine j_iload (pc' := 74) rfl rfl rfl ?_
          refine j_istore_n (pc' := 75) (L' := [some (.ref 0), none, some (.int l4), some (.int v2), some (.int l4), some (.int v2)]) rfl rfl rfl ?_
          refine j_wk [true, true, true, true, true, false] (L' := [some (.ref 0), none, some (.int l4), some (.int v2), some (.int l4), none]) rfl ?_
          exact j_end (fun _ h => h)
        · refine j_wk [true, true, true, true, true, false] (L' := [some (.ref 0), none, some (.int l2), some (.int l3), some (.int l4), none]) rfl ?_
          exact j_end (fun _ h => h)
      show j_J true τ M_cX11_post d 75 [some (.ref 0), none, some (.int (r5.1)), some (.int (r5.2)), some (.int l4), none] [] σ _ _
      refine j_iincx (pc' := 78) (y := (1 : Int32)) (L' := [some (.ref 0), none, some (.int (r5.1)), some (.int (r5.2)), some (.int (l4 + (1 : Int32))), none]) rfl rfl rfl rfl rfl ?_
      refine j_goto (t := 33) rfl rfl ?_
      exact ih (r5.1) (r5.2) (l4 + (1 : Int32))
    · refine j_wk [false, true, true, false, false, true] (L' := [none, none, some (.int l2), none, none, none]) rfl ?_
      exact j_end (fun _ h => h)

theorem c_X11_post (l1 : Int32) (σ : j_G) : j_K true 3 143 [.ref 0, .int l1] σ (f_X11_post l1 σ) j_Ri := by
  refine j_mkK (M := M_cX11_post) (L := [some (.ref 0), some (.int l1), none, none, none, none]) (m := 4) t_143 rfl (j_rcvO j_a0 rfl) rfl (fun d hd τ => ?_)
  unfold f_X11_post
  refine j_aload_n (pc' := 1) rfl rfl rfl ?_
  refine j_gfr (pc' := 4) (x := 1) rfl rfl j_a0 rfl rfl ?_
  refine j_iload_n (pc' := 5) rfl rfl rfl ?_
  refine j_callTi (pc' := 8) (ai := 15) (vs := [.ref 1, .int l1]) (rest := []) rfl rfl (fun _ _ => rfl) (c_X2_isPlayer l1 σ) (j_dd rfl hd) rfl ?_
  refine j_two (pT := 11) (pF := 14) (L1 := [some (.ref 0), some (.int l1), none, none, none, none]) (st1 := []) (fun o kT kF => ?_) (fun h1 => ?_) (fun h1 => ?_)
  · refine j_ifne (t := 14) (pc' := 11) rfl rfl rfl (fun h2 => ?_) (fun h2 => ?_)
    · exact kF h2
    · exact kT h2
  · refine j_bipush (pc' := 13) (x := (-2 : Int32)) rfl rfl rfl ?_
    exact j_ret rfl rfl rfl (fun _ h => h)
  · refine j_aload_n (pc' := 15) rfl rfl rfl ?_
    refine j_gfr (pc' := 18) (x := 28) rfl rfl j_a0 rfl rfl ?_
    refine j_aload_n (pc' := 19) rfl rfl rfl ?_
    refine j_gfr (pc' := 22) (x := 1) rfl rfl j_a0 rfl rfl ?_
    refine j_iload_n (pc' := 23) rfl rfl rfl ?_
    refine j_callRv (pc' := 26) (ai := 64) (vs := [.ref 28, .ref 1, .int l1]) (rest := []) rfl rfl (fun _ _ => rfl) (c_X6_take_28_1 l1 σ) (j_dd rfl hd) rfl (fun σ1 => ?_)
    refine j_iconst (pc' := 27) (x := (0 : Int32)) rfl rfl rfl ?_
    refine j_istore_n (pc' := 28) (L' := [some (.ref 0), some (.int l1), some (.int (0 : Int32)), none, none, none]) rfl rfl rfl ?_
    refine j_iconst (pc' := 29) (x := (-1 : Int32)) rfl rfl rfl ?_
    refine j_istore_n (pc' := 30) (L' := [some (.ref 0), some (.int l1), some (.int (0 : Int32)), some (.int (-1 : Int32)), none, none]) rfl rfl rfl ?_
    refine j_iconst (pc' := 31) (x := (0 : Int32)) rfl rfl rfl ?_
    refine j_istore (pc' := 33) (L' := [some (.ref 0), some (.int l1), some (.int (0 : Int32)), some (.int (-1 : Int32)), some (.int (0 : Int32)), none]) rfl rfl rfl ?_
    refine j_wk [true, false, true, true, true, true] (L' := [some (.ref 0), none, some (.int (0 : Int32)), some (.int (-1 : Int32)), some (.int (0 : Int32)), none]) rfl ?_
    refine j_q1 (l_X11_post_33 hd τ σ1 j_F (0 : Int32) (-1 : Int32) (0 : Int32)) (fun v2 => ?_)
    show j_J true τ M_cX11_post d 81 [none, none, some (.int v2), none, none, none] [] σ1 _ _
    refine j_iload_n (pc' := 82) rfl rfl rfl ?_
    exact j_ret rfl rfl rfl (fun _ h => h)

noncomputable def p_X12_bits_4 (l0 : Int32) : Nat → Int32 → Int32 → Option Int32
  | 0, _, _ => none
  | n + 1, l1, l2 =>
    if l2 < (12 : Int32) then (j_lt (l1 + ((l0 >>> (l2 &&& 31)) &&& (1 : Int32))) fun v1 =>
    p_X12_bits_4 l0 n v1 (l2 + (1 : Int32))) else (some l1)

noncomputable def f_X12_bits (l0 : Int32) : Option Int32 :=
  j_b1 (p_X12_bits_4 l0 j_F (0 : Int32) (0 : Int32)) fun v1 =>
  some v1
theorem l_X12_bits_4 {d : Nat} (hd : 0 ≤ d) (τ : j_G) (l0 : Int32) (σ : j_G) : ∀ (n : Nat) (l1 : Int32) (l2 : Int32), j_J false τ M_cX12_bits d 4 [some (.int l0), some (.int l1), some (.int l2)] [] σ (p_X12_bits_4 l0 n l1 l2) (fun r Q => j_Tr false τ M_cX12_bits d 24 [none, some (.int r), none] [] σ Q) := by
  intro n
  induction n with
  | zero => intro l1 l2; exact j_none
  | succ n ih =>
    intro l1 l2
    unfold p_X12_bits_4
    refine j_iload_n (pc' := 5) rfl rfl rfl ?_
    refine j_bipush (pc' := 7) (x := (12 : Int32)) rfl rfl rfl ?_
    refine j_two (pT := 10) (pF := 24) (L1 := [some (.int l0), some (.int l1), some (.int l2)]) (st1 := []) (fun o kT kF => ?_) (fun h1 => ?_) (fun h1 => ?_)
    · refine j_icge (t := 24) (pc' := 10) rfl rfl rfl (fun h2 => ?_) (fun h2 => ?_)
      · exact kF h2
      · exact kT h2
    · refine j_iload_n (pc' := 11) rfl rfl rfl ?_
      refine j_iload_n (pc' := 12) rfl rfl rfl ?_
      refine j_iload_n (pc' := 13) rfl rfl rfl ?_
      refine j_ishr (pc' := 14) rfl rfl ?_
      refine j_iconst (pc' := 15) (x := (1 : Int32)) rfl rfl rfl ?_
      refine j_iand (pc' := 16) rfl rfl ?_
      refine j_iadd (pc' := 17) rfl rfl ?_
      refine j_leti (fun v1 => ?_)
      refine j_istore_n (pc' := 18) (L' := [some (.int l0), some (.int v1), some (.int l2)]) rfl rfl rfl ?_
      refine j_iincx (pc' := 21) (y := (1 : Int32)) (L' := [some (.int l0), some (.int v1), some (.int (l2 + (1 : Int32)))]) rfl rfl rfl rfl rfl ?_
      refine j_goto (t := 4) rfl rfl ?_
      exact ih v1 (l2 + (1 : Int32))
    · refine j_wk [false, true, false] (L' := [none, some (.int l1), none]) rfl ?_
      exact j_end (fun _ h => h)

theorem c_X12_bits (l0 : Int32) (σ : j_G) : j_K false 0 285 [.int l0] σ (f_X12_bits l0) (j_Pi σ) := by
  refine j_mkK (M := M_cX12_bits) (L := [some (.int l0), none, none]) (m := 2) t_285 rfl (j_rcvS rfl) rfl (fun d hd τ => ?_)
  unfold f_X12_bits
  refine j_iconst (pc' := 1) (x := (0 : Int32)) rfl rfl rfl ?_
  refine j_istore_n (pc' := 2) (L' := [some (.int l0), some (.int (0 : Int32)), none]) rfl rfl rfl ?_
  refine j_iconst (pc' := 3) (x := (0 : Int32)) rfl rfl rfl ?_
  refine j_istore_n (pc' := 4) (L' := [some (.int l0), some (.int (0 : Int32)), some (.int (0 : Int32))]) rfl rfl rfl ?_
  refine j_q1 (l_X12_bits_4 hd τ l0 σ j_F (0 : Int32) (0 : Int32)) (fun v1 => ?_)
  show j_J false τ M_cX12_bits d 24 [none, some (.int v1), none] [] σ _ _
  refine j_iload_n (pc' := 25) rfl rfl rfl ?_
  exact j_ret rfl rfl rfl (fun _ h => h)

noncomputable def p_X12_post_15 (l1 : Int32) (σ : j_G) : Nat → Int32 → Int32 → Option Int32
  | 0, _, _ => none
  | n + 1, l2, l3 =>
    j_b1 (f_X12_holes σ) fun v1 =>
    if l3 < v1 then (j_b1 (f_X12_reachOf l1 l3 σ) fun v2 =>
    j_b1 (f_X12_bits v2) fun v3 =>
    j_b1 (f_X12_reachOf l1 l2 σ) fun v4 =>
    j_b1 (f_X12_bits v4) fun v5 =>
    j_lt (if v5 < v3 then (l3) else (l2)) fun v6 =>
    p_X12_post_15 l1 σ n v6 (l3 + (1 : Int32))) else (some l2)

noncomputable def f_X12_post (l1 : Int32) (σ : j_G) : Option Int32 :=
  j_b1 (f_X12_isPlayer l1 σ) fun v1 =>
  if v1 = 0 then (some (-2 : Int32)) else (j_b1 (p_X12_post_15 l1 σ j_F (0 : Int32) (1 : Int32)) fun v2 =>
  some v2)
theorem l_X12_post_15 {d : Nat} (hd : 3 ≤ d) (τ : j_G) (l1 : Int32) (σ : j_G) : ∀ (n : Nat) (l2 : Int32) (l3 : Int32), j_J false τ M_cX12_post d 15 [some (.ref 75), some (.int l1), some (.int l2), some (.int l3)] [] σ (p_X12_post_15 l1 σ n l2 l3) (fun r Q => j_Tr false τ M_cX12_post d 56 [none, none, some (.int r), none] [] σ Q) := by
  intro n
  induction n with
  | zero => intro l2 l3; exact j_none
  | succ n ih =>
    intro l2 l3
    unfold p_X12_post_15
    refine j_iload_n (pc' := 16) rfl rfl rfl ?_
    refine j_aload_n (pc' := 17) rfl rfl rfl ?_
    refine j_callPi (pc' := 20) (ai := 200) (vs := [.ref 75]) (rest := [.int l3]) rfl rfl (fun _ _ => rfl) (c_X12_holes  σ) (j_dd rfl hd) rfl (fun v1 => ?_)
    refine j_two (pT := 23) (pF := 56) (L1 := [some (.ref 75), some (.int l1), some (.int l2), some (.int l3)]) (st1 := []) (fun o kT kF => ?_) (fun h3 => ?_) (fun h3 => ?_)
    · refine j_icge (t := 56) (pc' := 23) rfl rfl rfl (fun h4 => ?_) (fun h4 => ?_)
      · exact kF h4
      · exact kT h4
    · refine j_aload_n (pc' := 24) rfl rfl rfl ?_
      refine j_iload_n (pc' := 25) rfl rfl rfl ?_
      refine j_iload_n (pc' := 26) rfl rfl rfl ?_
      refine j_callPi (pc' := 29) (ai := 283) (vs := [.ref 75, .int l1, .int l3]) (rest := []) rfl rfl (fun _ _ => rfl) (c_X12_reachOf l1 l3 σ) (j_dd rfl hd) rfl (fun v2 => ?_)
      refine j_callPi (pc' := 32) (ai := 285) (vs := [.int v2]) (rest := []) rfl rfl (fun _ _ => rfl) (c_X12_bits v2 σ) (j_dd rfl hd) rfl (fun v3 => ?_)
      refine j_aload_n (pc' := 33) rfl rfl rfl ?_
      refine j_iload_n (pc' := 34) rfl rfl rfl ?_
      refine j_iload_n (pc' := 35) rfl rfl rfl ?_
      refine j_callPi (pc' := 38) (ai := 283) (vs := [.ref 75, .int l1, .int l2]) (rest := [.int v3]) rfl rfl (fun _ _ => rfl) (c_X12_reachOf l1 l2 σ) (j_dd rfl hd) rfl (fun v4 => ?_)
      refine j_callPi (pc' := 41) (ai := 285) (vs := [.int v4]) (rest := [.int v3]) rfl rfl (fun _ _ => rfl) (c_X12_bits v4 σ) (j_dd rfl hd) rfl (fun v5 => ?_)
      refine j_ql (Φl := (fun r Q => j_Tr false τ M_cX12_post d 49 [some (.ref 75), some (.int l1), none, some (.int l3)] [.int r] σ Q)) ?_ (fun v6 => ?_)
      · refine j_twoT (pT := 44) (pF := 48) (L1 := [some (.ref 75), some (.int l1), some (.int l2), some (.int l3)]) (st1 := []) (fun o kT kF => ?_) (fun h1 => ?_) (fun h1 => ?_)
        · refine j_icle (t := 48) (pc' := 44) rfl rfl rfl (fun h2 => ?_) (fun h2 => ?_)
          · exact kF h2
          · exact kT h2
        · refine j_iload_n (pc' := 45) rfl rfl rfl ?_
          refine j_goto (t := 49) rfl rfl ?_
          refine j_wk [true, true, false, true] (L' := [some (.ref 75), some (.int l1), none, some (.int l3)]) rfl ?_
          exact j_end (fun _ h => h)
        · refine j_iload_n (pc' := 49) rfl rfl rfl ?_
          refine j_wk [true, true, false, true] (L' := [some (.ref 75), some (.int l1), none, some (.int l3)]) rfl ?_
          exact j_end (fun _ h => h)
      show j_J false τ M_cX12_post d 49 [some (.ref 75), some (.int l1), none, some (.int l3)] [.int v6] σ _ _
      refine j_istore_n (pc' := 50) (L' := [some (.ref 75), some (.int l1), some (.int v6), some (.int l3)]) rfl rfl rfl ?_
      refine j_iincx (pc' := 53) (y := (1 : Int32)) (L' := [some (.ref 75), some (.int l1), some (.int v6), some (.int (l3 + (1 : Int32)))]) rfl rfl rfl rfl rfl ?_
      refine j_goto (t := 15) rfl rfl ?_
      exact ih v6 (l3 + (1 : Int32))
    · refine j_wk [false, false, true, false] (L' := [none, none, some (.int l2), none]) rfl ?_
      exact j_end (fun _ h => h)

theorem c_X12_post (l1 : Int32) (σ : j_G) : j_K false 3 286 [.ref 75, .int l1] σ (f_X12_post l1 σ) (j_Pi σ) := by
  refine j_mkK (M := M_cX12_post) (L := [some (.ref 75), some (.int l1), none, none]) (m := 2) t_286 rfl (j_rcvO j_a75 rfl) rfl (fun d hd τ => ?_)
  unfold f_X12_post
  refine j_aload_n (pc' := 1) rfl rfl rfl ?_
  refine j_iload_n (pc' := 2) rfl rfl rfl ?_
  refine j_callPi (pc' := 5) (ai := 205) (vs := [.ref 75, .int l1]) (rest := []) rfl rfl (fun _ _ => rfl) (c_X12_isPlayer l1 σ) (j_dd rfl hd) rfl (fun v1 => ?_)
  refine j_two (pT := 8) (pF := 11) (L1 := [some (.ref 75), some (.int l1), none, none]) (st1 := []) (fun o kT kF => ?_) (fun h1 => ?_) (fun h1 => ?_)
  · refine j_ifne (t := 11) (pc' := 8) rfl rfl rfl (fun h2 => ?_) (fun h2 => ?_)
    · exact kF h2
    · exact kT h2
  · refine j_bipush (pc' := 10) (x := (-2 : Int32)) rfl rfl rfl ?_
    exact j_ret rfl rfl rfl (fun _ h => h)
  · refine j_iconst (pc' := 12) (x := (0 : Int32)) rfl rfl rfl ?_
    refine j_istore_n (pc' := 13) (L' := [some (.ref 75), some (.int l1), some (.int (0 : Int32)), none]) rfl rfl rfl ?_
    refine j_iconst (pc' := 14) (x := (1 : Int32)) rfl rfl rfl ?_
    refine j_istore_n (pc' := 15) (L' := [some (.ref 75), some (.int l1), some (.int (0 : Int32)), some (.int (1 : Int32))]) rfl rfl rfl ?_
    refine j_q1 (l_X12_post_15 hd τ l1 σ j_F (0 : Int32) (1 : Int32)) (fun v2 => ?_)
    show j_J false τ M_cX12_post d 56 [none, none, some (.int v2), none] [] σ _ _
    refine j_iload_n (pc' := 57) rfl rfl rfl ?_
    exact j_ret rfl rfl rfl (fun _ h => h)

noncomputable def f_X11_isLaw (l0 : Int32) : Int32 :=
  if (¬ l0 < 0) ∧ (l0 < (4 : Int32)) then ((1 : Int32)) else ((0 : Int32))

theorem b_X11_isLaw (l0 : Int32) : f_X11_isLaw l0 = 0 ∨ f_X11_isLaw l0 = 1 := by
  unfold f_X11_isLaw
  repeat' split
  all_goals first | exact Or.inl rfl | exact Or.inr rfl
theorem c_X11_isLaw (l0 : Int32) (σ : j_G) : j_K true 0 183 [.int l0] σ (some (f_X11_isLaw l0)) (j_Pi σ) := by
  refine j_mkK (M := M_cX11_isLaw) (L := [some (.int l0)]) (m := 0) t_183 rfl (j_rcvS rfl) rfl (fun d hd τ => ?_)
  unfold f_X11_isLaw
  refine j_iload_n (pc' := 1) rfl rfl rfl ?_
  refine j_twoT (pT := 9) (pF := 13) (L1 := [some (.int l0)]) (st1 := []) (fun o kT kF => ?_) (fun h1 => ?_) (fun h1 => ?_)
  · refine j_iflt (t := 13) (pc' := 4) rfl rfl rfl (fun h2 => ?_) (fun h2 => ?_)
    · exact kF (fun z => z.1 h2)
    · refine j_iload_n (pc' := 5) rfl rfl rfl ?_
      refine j_iconst (pc' := 6) (x := (4 : Int32)) rfl rfl rfl ?_
      refine j_icge (t := 13) (pc' := 9) rfl rfl rfl (fun h3 => ?_) (fun h3 => ?_)
      · exact kF (fun z => (h3) z.2)
      · exact kT (⟨h2, h3⟩)
  · refine j_iconst (pc' := 10) (x := (1 : Int32)) rfl rfl rfl ?_
    refine j_goto (t := 14) rfl rfl ?_
    exact j_ret rfl rfl rfl (fun _ h => h)
  · refine j_iconst (pc' := 14) (x := (0 : Int32)) rfl rfl rfl ?_
    exact j_ret rfl rfl rfl (fun _ h => h)

noncomputable def f_X5_at (l0 : Int32) (l1 : Int32) : Int32 :=
  (((l0 + (1 : Int32)) * (12 : Int32)) + l1)
theorem c_X5_at (l0 : Int32) (l1 : Int32) (σ : j_G) : j_K true 0 57 [.int l0, .int l1] σ (some (f_X5_at l0 l1)) (j_Pi σ) := by
  refine j_mkK (M := M_cX5_at) (L := [some (.int l0), some (.int l1)]) (m := 0) t_57 rfl (j_rcvS rfl) rfl (fun d hd τ => ?_)
  unfold f_X5_at
  refine j_iload_n (pc' := 1) rfl rfl rfl ?_
  refine j_iconst (pc' := 2) (x := (1 : Int32)) rfl rfl rfl ?_
  refine j_iadd (pc' := 3) rfl rfl ?_
  refine j_bipush (pc' := 5) (x := (12 : Int32)) rfl rfl rfl ?_
  refine j_imul (pc' := 6) rfl rfl ?_
  refine j_iload_n (pc' := 7) rfl rfl rfl ?_
  refine j_iadd (pc' := 8) rfl rfl ?_
  exact j_ret rfl rfl rfl (fun _ h => h)

noncomputable def f_X5_add (a0 : Nat) (l1 : Int32) (l2 : Int32) (l3 : Int64) (σ : j_G) : Option j_G :=
  j_lt (f_X5_at l1 l2) fun v1 =>
  if (¬ v1 < 0) ∧ (v1 < (156 : Int32)) then (j_ix v1 156 (
  j_ix v1 156 (
  j_lt (j_sl σ a0 (v1).toNatClampNeg ((σ.2 a0 (v1).toNatClampNeg) + l3)) fun σ2 =>
  some σ2))) else (some σ)
theorem c_X5_add_38 (l1 : Int32) (l2 : Int32) (l3 : Int64) (σ : j_G) : j_K true 1 59 [.ref 38, .int l1, .int l2, .long l3] σ (f_X5_add 38 l1 l2 l3 σ) j_Rv := by
  refine j_mkK (M := M_cX5_add) (L := [some (.ref 38), some (.int l1), some (.int l2), some (.long l3), none, none]) (m := 1) t_59 rfl (j_rcvS rfl) rfl (fun d hd τ => ?_)
  unfold f_X5_add
  refine j_iload_n (pc' := 1) rfl rfl rfl ?_
  refine j_iload_n (pc' := 2) rfl rfl rfl ?_
  refine j_callTi (pc' := 5) (ai := 57) (vs := [.int l1, .int l2]) (rest := []) rfl rfl (fun _ _ => rfl) (c_X5_at l1 l2 σ) (j_dd rfl hd) rfl ?_
  refine j_leti (fun v1 => ?_)
  refine j_istore (pc' := 7) (L' := [some (.ref 38), some (.int l1), some (.int l2), some (.long l3), none, some (.int v1)]) rfl rfl rfl ?_
  refine j_iload (pc' := 9) rfl rfl rfl ?_
  refine j_two (pT := 19) (pF := 27) (L1 := [some (.ref 38), some (.int l1), some (.int l2), some (.long l3), none, some (.int v1)]) (st1 := []) (fun o kT kF => ?_) (fun h1 => ?_) (fun h1 => ?_)
  · refine j_iflt (t := 27) (pc' := 12) rfl rfl rfl (fun h2 => ?_) (fun h2 => ?_)
    · exact kF (fun z => z.1 h2)
    · refine j_iload (pc' := 14) rfl rfl rfl ?_
      refine j_aload_n (pc' := 15) rfl rfl rfl ?_
      refine j_alen (pc' := 16) (v := (156 : Int32)) rfl rfl j_a38 rfl ?_
      refine j_icge (t := 27) (pc' := 19) rfl rfl rfl (fun h3 => ?_) (fun h3 => ?_)
      · exact kF (fun z => (h3) z.2)
      · exact kT (⟨h2, h3⟩)
  · refine j_aload_n (pc' := 20) rfl rfl rfl ?_
    refine j_iload (pc' := 22) rfl rfl rfl ?_
    refine j_dup2 (pc' := 23) rfl rfl rfl rfl ?_
    refine j_lald (pc' := 24) rfl rfl j_a38 ?_
    refine j_lload_n (pc' := 25) rfl rfl rfl ?_
    refine j_ladd (pc' := 26) rfl rfl ?_
    refine j_last (pc' := 27) rfl rfl j_a38 (fun σ2 => ?_)
    exact j_ret rfl rfl rfl (fun _ h => h)
  · exact j_ret rfl rfl rfl (fun _ h => h)

noncomputable def p_X5_begin_2 : Nat → Int32 → j_G → Option j_G
  | 0, _, _ => none
  | n + 1, l2, σ =>
    if l2 < (156 : Int32) then (j_ix l2 156 (
    j_lt (j_sl σ 38 (l2).toNatClampNeg (0 : Int64)) fun σ1 =>
    p_X5_begin_2 n (l2 + (1 : Int32)) σ1)) else (some σ)

noncomputable def p_X5_begin_24 : Nat → Int32 → j_G → Option j_G
  | 0, _, _ => none
  | n + 1, l2, σ =>
    if l2 < (f_X2_holes 1 σ) then (j_b1 (if (f_X2_isShut 1 l2 σ) = 0 then (j_b1 (f_X5_add 38 (-1 : Int32) l2 (1 : Int64) σ) fun σ2 =>
    some σ2) else (some σ)) fun σ1 =>
    p_X5_begin_24 n (l2 + (1 : Int32)) σ1) else (some σ)

noncomputable def f_X5_begin (σ : j_G) : Option j_G :=
  j_b1 (p_X5_begin_2 j_F (0 : Int32) σ) fun σ1 =>
  j_b1 (p_X5_begin_24 j_F (0 : Int32) σ1) fun σ2 =>
  some σ2
theorem l_X5_begin_2 {d : Nat} (hd : 2 ≤ d) (τ : j_G) : ∀ (n : Nat) (l2 : Int32) (σ : j_G), j_J true τ M_cX5_begin d 2 [some (.ref 37), some (.ref 1), some (.int l2)] [] σ (p_X5_begin_2 n l2 σ) (fun r Q => j_Tr true τ M_cX5_begin d 22 [some (.ref 37), some (.ref 1), none] [] r Q) := by
  intro n
  induction n with
  | zero => intro l2 σ; exact j_none
  | succ n ih =>
    intro l2 σ
    unfold p_X5_begin_2
    refine j_iload_n (pc' := 3) rfl rfl rfl ?_
    refine j_sipush (pc' := 6) (x := (156 : Int32)) rfl rfl rfl ?_
    refine j_two (pT := 9) (pF := 22) (L1 := [some (.ref 37), some (.ref 1), some (.int l2)]) (st1 := []) (fun o kT kF => ?_) (fun h1 => ?_) (fun h1 => ?_)
    · refine j_icge (t := 22) (pc' := 9) rfl rfl rfl (fun h2 => ?_) (fun h2 => ?_)
      · exact kF h2
      · exact kT h2
    · refine j_aload_n (pc' := 10) rfl rfl rfl ?_
      refine j_gfr (pc' := 13) (x := 38) rfl rfl j_a37 rfl rfl ?_
      refine j_iload_n (pc' := 14) rfl rfl rfl ?_
      refine j_lconst (pc' := 15) (x := (0 : Int64)) rfl rfl rfl ?_
      refine j_last (pc' := 16) rfl rfl j_a38 (fun σ1 => ?_)
      refine j_iincx (pc' := 19) (y := (1 : Int32)) (L' := [some (.ref 37), some (.ref 1), some (.int (l2 + (1 : Int32)))]) rfl rfl rfl rfl rfl ?_
      refine j_goto (t := 2) rfl rfl ?_
      exact ih (l2 + (1 : Int32)) σ1
    · refine j_wk [true, true, false] (L' := [some (.ref 37), some (.ref 1), none]) rfl ?_
      exact j_end (fun _ h => h)

theorem l_X5_begin_24 {d : Nat} (hd : 2 ≤ d) (τ : j_G) : ∀ (n : Nat) (l2 : Int32) (σ : j_G), j_J true τ M_cX5_begin d 24 [some (.ref 37), some (.ref 1), some (.int l2)] [] σ (p_X5_begin_24 n l2 σ) (fun r Q => j_Tr true τ M_cX5_begin d 56 [none, none, none] [] r Q) := by
  intro n
  induction n with
  | zero => intro l2 σ; exact j_none
  | succ n ih =>
    intro l2 σ
    unfold p_X5_begin_24
    refine j_iload_n (pc' := 25) rfl rfl rfl ?_
    refine j_aload_n (pc' := 26) rfl rfl rfl ?_
    refine j_callTi (pc' := 29) (ai := 12) (vs := [.ref 1]) (rest := [.int l2]) rfl rfl (fun _ _ => rfl) (c_X2_holes_1  σ) (j_dd rfl hd) rfl ?_
    refine j_two (pT := 32) (pF := 56) (L1 := [some (.ref 37), some (.ref 1), some (.int l2)]) (st1 := []) (fun o kT kF => ?_) (fun h3 => ?_) (fun h3 => ?_)
    · refine j_icge (t := 56) (pc' := 32) rfl rfl rfl (fun h4 => ?_) (fun h4 => ?_)
      · exact kF h4
      · exact kT h4
    · refine j_aload_n (pc' := 33) rfl rfl rfl ?_
      refine j_iload_n (pc' := 34) rfl rfl rfl ?_
      refine j_callTi (pc' := 37) (ai := 16) (vs := [.ref 1, .int l2]) (rest := []) rfl rfl (fun _ _ => rfl) (c_X2_isShut_1 l2 σ) (j_dd rfl hd) rfl ?_
      refine j_q1 (Φl := (fun r Q => j_Tr true τ M_cX5_begin d 50 [some (.ref 37), some (.ref 1), some (.int l2)] [] r Q)) ?_ (fun σ1 => ?_)
      · refine j_two (pT := 40) (pF := 50) (L1 := [some (.ref 37), some (.ref 1), some (.int l2)]) (st1 := []) (fun o kT kF => ?_) (fun h1 => ?_) (fun h1 => ?_)
        · refine j_ifne (t := 50) (pc' := 40) rfl rfl rfl (fun h2 => ?_) (fun h2 => ?_)
          · exact kF h2
          · exact kT h2
        · refine j_aload_n (pc' := 41) rfl rfl rfl ?_
          refine j_gfr (pc' := 44) (x := 38) rfl rfl j_a37 rfl rfl ?_
          refine j_iconst (pc' := 45) (x := (-1 : Int32)) rfl rfl rfl ?_
          refine j_iload_n (pc' := 46) rfl rfl rfl ?_
          refine j_lconst (pc' := 47) (x := (1 : Int64)) rfl rfl rfl ?_
          refine j_callRv (pc' := 50) (ai := 59) (vs := [.ref 38, .int (-1 : Int32), .int l2, .long (1 : Int64)]) (rest := []) rfl rfl (fun _ _ => rfl) (c_X5_add_38 (-1 : Int32) l2 (1 : Int64) σ) (j_dd rfl hd) rfl (fun σ2 => ?_)
          exact j_end (fun _ h => h)
        · exact j_end (fun _ h => h)
      show j_J true τ M_cX5_begin d 50 [some (.ref 37), some (.ref 1), some (.int l2)] [] σ1 _ _
      refine j_iincx (pc' := 53) (y := (1 : Int32)) (L' := [some (.ref 37), some (.ref 1), some (.int (l2 + (1 : Int32)))]) rfl rfl rfl rfl rfl ?_
      refine j_goto (t := 24) rfl rfl ?_
      exact ih (l2 + (1 : Int32)) σ1
    · refine j_wk [false, false, false] (L' := [none, none, none]) rfl ?_
      exact j_end (fun _ h => h)

theorem c_X5_begin (σ : j_G) : j_K true 2 54 [.ref 37, .ref 1] σ (f_X5_begin σ) j_Rv := by
  refine j_mkK (M := M_cX5_begin) (L := [some (.ref 37), some (.ref 1), none]) (m := 1) t_54 rfl (j_rcvO j_a37 rfl) rfl (fun d hd τ => ?_)
  unfold f_X5_begin
  refine j_iconst (pc' := 1) (x := (0 : Int32)) rfl rfl rfl ?_
  refine j_istore_n (pc' := 2) (L' := [some (.ref 37), some (.ref 1), some (.int (0 : Int32))]) rfl rfl rfl ?_
  refine j_q1 (l_X5_begin_2 hd τ j_F (0 : Int32) σ) (fun σ1 => ?_)
  show j_J true τ M_cX5_begin d 22 [some (.ref 37), some (.ref 1), none] [] σ1 _ _
  refine j_iconst (pc' := 23) (x := (0 : Int32)) rfl rfl rfl ?_
  refine j_istore_n (pc' := 24) (L' := [some (.ref 37), some (.ref 1), some (.int (0 : Int32))]) rfl rfl rfl ?_
  refine j_q1 (l_X5_begin_24 hd τ j_F (0 : Int32) σ1) (fun σ2 => ?_)
  show j_J true τ M_cX5_begin d 56 [none, none, none] [] σ2 _ _
  exact j_ret rfl rfl rfl (fun _ h => h)

noncomputable def f_X5_waysTo (l1 : Int32) (l2 : Int32) (σ : j_G) : Option Int64 :=
  j_lt (f_X5_at l1 l2) fun v1 =>
  if (¬ v1 < 0) ∧ (v1 < (156 : Int32)) then (j_ix v1 156 (
  some (σ.2 38 (v1).toNatClampNeg))) else (some (0 : Int64))
theorem c_X5_waysTo (l1 : Int32) (l2 : Int32) (σ : j_G) : j_K true 1 58 [.ref 37, .int l1, .int l2] σ (f_X5_waysTo l1 l2 σ) (j_Pl σ) := by
  refine j_mkK (M := M_cX5_waysTo) (L := [some (.ref 37), some (.int l1), some (.int l2), none]) (m := 1) t_58 rfl (j_rcvO j_a37 rfl) rfl (fun d hd τ => ?_)
  unfold f_X5_waysTo
  refine j_iload_n (pc' := 1) rfl rfl rfl ?_
  refine j_iload_n (pc' := 2) rfl rfl rfl ?_
  refine j_callTi (pc' := 5) (ai := 57) (vs := [.int l1, .int l2]) (rest := []) rfl rfl (fun _ _ => rfl) (c_X5_at l1 l2 σ) (j_dd rfl hd) rfl ?_
  refine j_leti (fun v1 => ?_)
  refine j_istore_n (pc' := 6) (L' := [some (.ref 37), some (.int l1), some (.int l2), some (.int v1)]) rfl rfl rfl ?_
  refine j_iload_n (pc' := 7) rfl rfl rfl ?_
  refine j_two (pT := 17) (pF := 26) (L1 := [some (.ref 37), some (.int l1), some (.int l2), some (.int v1)]) (st1 := []) (fun o kT kF => ?_) (fun h1 => ?_) (fun h1 => ?_)
  · refine j_iflt (t := 26) (pc' := 10) rfl rfl rfl (fun h2 => ?_) (fun h2 => ?_)
    · exact kF (fun z => z.1 h2)
    · refine j_iload_n (pc' := 11) rfl rfl rfl ?_
      refine j_sipush (pc' := 14) (x := (156 : Int32)) rfl rfl rfl ?_
      refine j_icge (t := 26) (pc' := 17) rfl rfl rfl (fun h3 => ?_) (fun h3 => ?_)
      · exact kF (fun z => (h3) z.2)
      · exact kT (⟨h2, h3⟩)
  · refine j_aload_n (pc' := 18) rfl rfl rfl ?_
    refine j_gfr (pc' := 21) (x := 38) rfl rfl j_a37 rfl rfl ?_
    refine j_iload_n (pc' := 22) rfl rfl rfl ?_
    refine j_lald (pc' := 23) rfl rfl j_a38 ?_
    refine j_goto (t := 27) rfl rfl ?_
    exact j_ret rfl rfl rfl (fun _ h => h)
  · refine j_lconst (pc' := 27) (x := (0 : Int64)) rfl rfl rfl ?_
    exact j_ret rfl rfl rfl (fun _ h => h)

noncomputable def f_X2_lets (l1 : Int32) (l2 : Int32) (l3 : Int32) (l4 : Int32) (σ : j_G) : Option Int32 :=
  if (l1 = 0) ∨ (l3 = (-1 : Int32)) then (some (1 : Int32)) else (if l1 = (2 : Int32) then (j_b1 (f_X2_apart l3 l4 σ) fun v1 =>
  if (1 : Int32) < v1 then (some (1 : Int32)) else (some (0 : Int32))) else (if ¬ l4 = l3 then (if (¬ l1 = (3 : Int32)) ∨ (¬ l4 = l2) then (some (1 : Int32)) else (some (0 : Int32))) else (some (0 : Int32))))
theorem c_X2_lets (l1 : Int32) (l2 : Int32) (l3 : Int32) (l4 : Int32) (σ : j_G) : j_K true 1 27 [.ref 1, .int l1, .int l2, .int l3, .int l4] σ (f_X2_lets l1 l2 l3 l4 σ) (j_Pi σ) := by
  refine j_mkK (M := M_cX2_lets) (L := [some (.ref 1), some (.int l1), some (.int l2), some (.int l3), some (.int l4)]) (m := 0) t_27 rfl (j_rcvO j_a1 rfl) rfl (fun d hd τ => ?_)
  unfold f_X2_lets
  refine j_iload_n (pc' := 1) rfl rfl rfl ?_
  refine j_two (pT := 9) (pF := 11) (L1 := [some (.ref 1), some (.int l1), some (.int l2), some (.int l3), some (.int l4)]) (st1 := []) (fun o kT kF => ?_) (fun h10 => ?_) (fun h10 => ?_)
  · refine j_ifeq (t := 9) (pc' := 4) rfl rfl rfl (fun h11 => ?_) (fun h11 => ?_)
    · exact kT (Or.inl h11)
    · refine j_iload_n (pc' := 5) rfl rfl rfl ?_
      refine j_iconst (pc' := 6) (x := (-1 : Int32)) rfl rfl rfl ?_
      refine j_icne (t := 11) (pc' := 9) rfl rfl rfl (fun h12 => ?_) (fun h12 => ?_)
      · exact kF (fun z => z.elim h11 (h12))
      · exact kT (Or.inr (h12))
  · refine j_iconst (pc' := 10) (x := (1 : Int32)) rfl rfl rfl ?_
    exact j_ret rfl rfl rfl (fun _ h => h)
  · refine j_iload_n (pc' := 12) rfl rfl rfl ?_
    refine j_iconst (pc' := 13) (x := (2 : Int32)) rfl rfl rfl ?_
    refine j_two (pT := 16) (pF := 33) (L1 := [some (.ref 1), some (.int l1), some (.int l2), some (.int l3), some (.int l4)]) (st1 := []) (fun o kT kF => ?_) (fun h8 => ?_) (fun h8 => ?_)
    · refine j_icne (t := 33) (pc' := 16) rfl rfl rfl (fun h9 => ?_) (fun h9 => ?_)
      · exact kF h9
      · exact kT h9
    · refine j_aload_n (pc' := 17) rfl rfl rfl ?_
      refine j_iload_n (pc' := 18) rfl rfl rfl ?_
      refine j_iload (pc' := 20) rfl rfl rfl ?_
      refine j_callPi (pc' := 23) (ai := 18) (vs := [.ref 1, .int l3, .int l4]) (rest := []) rfl rfl (fun _ _ => rfl) (c_X2_apart l3 l4 σ) (j_dd rfl hd) rfl (fun v1 => ?_)
      refine j_iconst (pc' := 24) (x := (1 : Int32)) rfl rfl rfl ?_
      refine j_two (pT := 27) (pF := 31) (L1 := [some (.ref 1), some (.int l1), some (.int l2), some (.int l3), some (.int l4)]) (st1 := []) (fun o kT kF => ?_) (fun h1 => ?_) (fun h1 => ?_)
      · refine j_icle (t := 31) (pc' := 27) rfl rfl rfl (fun h2 => ?_) (fun h2 => ?_)
        · exact kF h2
        · exact kT h2
      · refine j_iconst (pc' := 28) (x := (1 : Int32)) rfl rfl rfl ?_
        refine j_goto (t := 32) rfl rfl ?_
        exact j_ret rfl rfl rfl (fun _ h => h)
      · refine j_iconst (pc' := 32) (x := (0 : Int32)) rfl rfl rfl ?_
        exact j_ret rfl rfl rfl (fun _ h => h)
    · refine j_iload (pc' := 35) rfl rfl rfl ?_
      refine j_iload_n (pc' := 36) rfl rfl rfl ?_
      refine j_two (pT := 39) (pF := 54) (L1 := [some (.ref 1), some (.int l1), some (.int l2), some (.int l3), some (.int l4)]) (st1 := []) (fun o kT kF => ?_) (fun h6 => ?_) (fun h6 => ?_)
      · refine j_iceq (t := 54) (pc' := 39) rfl rfl rfl (fun h7 => ?_) (fun h7 => ?_)
        · exact kF (fun z => z h7)
        · exact kT h7
      · refine j_iload_n (pc' := 40) rfl rfl rfl ?_
        refine j_iconst (pc' := 41) (x := (3 : Int32)) rfl rfl rfl ?_
        refine j_two (pT := 50) (pF := 54) (L1 := [some (.ref 1), some (.int l1), some (.int l2), some (.int l3), some (.int l4)]) (st1 := []) (fun o kT kF => ?_) (fun h3 => ?_) (fun h3 => ?_)
        · refine j_icne (t := 50) (pc' := 44) rfl rfl rfl (fun h4 => ?_) (fun h4 => ?_)
          · exact kT (Or.inl h4)
          · refine j_iload (pc' := 46) rfl rfl rfl ?_
            refine j_iload_n (pc' := 47) rfl rfl rfl ?_
            refine j_iceq (t := 54) (pc' := 50) rfl rfl rfl (fun h5 => ?_) (fun h5 => ?_)
            · exact kF (fun z => z.elim (fun z => z h4) (fun z => z h5))
            · exact kT (Or.inr (h5))
        · refine j_iconst (pc' := 51) (x := (1 : Int32)) rfl rfl rfl ?_
          refine j_goto (t := 55) rfl rfl ?_
          exact j_ret rfl rfl rfl (fun _ h => h)
        · refine j_iconst (pc' := 55) (x := (0 : Int32)) rfl rfl rfl ?_
          exact j_ret rfl rfl rfl (fun _ h => h)
      · refine j_iconst (pc' := 55) (x := (0 : Int32)) rfl rfl rfl ?_
        exact j_ret rfl rfl rfl (fun _ h => h)

theorem c_X5_add_39 (l1 : Int32) (l2 : Int32) (l3 : Int64) (σ : j_G) : j_K true 1 59 [.ref 39, .int l1, .int l2, .long l3] σ (f_X5_add 39 l1 l2 l3 σ) j_Rv := by
  refine j_mkK (M := M_cX5_add) (L := [some (.ref 39), some (.int l1), some (.int l2), some (.long l3), none, none]) (m := 1) t_59 rfl (j_rcvS rfl) rfl (fun d hd τ => ?_)
  unfold f_X5_add
  refine j_iload_n (pc' := 1) rfl rfl rfl ?_
  refine j_iload_n (pc' := 2) rfl rfl rfl ?_
  refine j_callTi (pc' := 5) (ai := 57) (vs := [.int l1, .int l2]) (rest := []) rfl rfl (fun _ _ => rfl) (c_X5_at l1 l2 σ) (j_dd rfl hd) rfl ?_
  refine j_leti (fun v1 => ?_)
  refine j_istore (pc' := 7) (L' := [some (.ref 39), some (.int l1), some (.int l2), some (.long l3), none, some (.int v1)]) rfl rfl rfl ?_
  refine j_iload (pc' := 9) rfl rfl rfl ?_
  refine j_two (pT := 19) (pF := 27) (L1 := [some (.ref 39), some (.int l1), some (.int l2), some (.long l3), none, some (.int v1)]) (st1 := []) (fun o kT kF => ?_) (fun h1 => ?_) (fun h1 => ?_)
  · refine j_iflt (t := 27) (pc' := 12) rfl rfl rfl (fun h2 => ?_) (fun h2 => ?_)
    · exact kF (fun z => z.1 h2)
    · refine j_iload (pc' := 14) rfl rfl rfl ?_
      refine j_aload_n (pc' := 15) rfl rfl rfl ?_
      refine j_alen (pc' := 16) (v := (156 : Int32)) rfl rfl j_a39 rfl ?_
      refine j_icge (t := 27) (pc' := 19) rfl rfl rfl (fun h3 => ?_) (fun h3 => ?_)
      · exact kF (fun z => (h3) z.2)
      · exact kT (⟨h2, h3⟩)
  · refine j_aload_n (pc' := 20) rfl rfl rfl ?_
    refine j_iload (pc' := 22) rfl rfl rfl ?_
    refine j_dup2 (pc' := 23) rfl rfl rfl rfl ?_
    refine j_lald (pc' := 24) rfl rfl j_a39 ?_
    refine j_lload_n (pc' := 25) rfl rfl rfl ?_
    refine j_ladd (pc' := 26) rfl rfl ?_
    refine j_last (pc' := 27) rfl rfl j_a39 (fun σ2 => ?_)
    exact j_ret rfl rfl rfl (fun _ h => h)
  · exact j_ret rfl rfl rfl (fun _ h => h)

noncomputable def p_X5_growFrom_16 (l2 : Int32) (l3 : Int32) (l4 : Int32) (l5 : Int32) : Nat → Int32 → j_G → Option j_G
  | 0, _, _ => none
  | n + 1, l6, σ =>
    if l6 < (f_X2_holes 1 σ) then (j_b1 (if (f_X2_isShut 1 l6 σ) = 0 then (j_b1 (f_X2_lets l2 l3 l4 l6 σ) fun v2 =>
    if ¬ v2 = 0 then (j_b1 (f_X5_waysTo l3 l4 σ) fun v3 =>
    j_b1 (f_X5_add 39 l5 l6 v3 σ) fun σ4 =>
    some σ4) else (some σ)) else (some σ)) fun σ1 =>
    p_X5_growFrom_16 l2 l3 l4 l5 n (l6 + (1 : Int32)) σ1) else (some σ)

noncomputable def f_X5_growFrom (l2 : Int32) (l3 : Int32) (l4 : Int32) (σ : j_G) : Option j_G :=
  j_lt (if l2 = (3 : Int32) then (l4) else ((-1 : Int32))) fun v1 =>
  j_b1 (p_X5_growFrom_16 l2 l3 l4 v1 j_F (0 : Int32) σ) fun σ2 =>
  some σ2
theorem l_X5_growFrom_16 {d : Nat} (hd : 2 ≤ d) (τ : j_G) (l2 : Int32) (l3 : Int32) (l4 : Int32) (l5 : Int32) : ∀ (n : Nat) (l6 : Int32) (σ : j_G), j_J true τ M_cX5_growFrom d 16 [some (.ref 37), some (.ref 1), some (.int l2), some (.int l3), some (.int l4), some (.int l5), some (.int l6)] [] σ (p_X5_growFrom_16 l2 l3 l4 l5 n l6 σ) (fun r Q => j_Tr true τ M_cX5_growFrom d 71 [none, none, none, none, none, none, none] [] r Q) := by
  intro n
  induction n with
  | zero => intro l6 σ; exact j_none
  | succ n ih =>
    intro l6 σ
    unfold p_X5_growFrom_16
    refine j_iload (pc' := 18) rfl rfl rfl ?_
    refine j_aload_n (pc' := 19) rfl rfl rfl ?_
    refine j_callTi (pc' := 22) (ai := 12) (vs := [.ref 1]) (rest := [.int l6]) rfl rfl (fun _ _ => rfl) (c_X2_holes_1  σ) (j_dd rfl hd) rfl ?_
    refine j_two (pT := 25) (pF := 71) (L1 := [some (.ref 37), some (.ref 1), some (.int l2), some (.int l3), some (.int l4), some (.int l5), some (.int l6)]) (st1 := []) (fun o kT kF => ?_) (fun h5 => ?_) (fun h5 => ?_)
    · refine j_icge (t := 71) (pc' := 25) rfl rfl rfl (fun h6 => ?_) (fun h6 => ?_)
      · exact kF h6
      · exact kT h6
    · refine j_aload_n (pc' := 26) rfl rfl rfl ?_
      refine j_iload (pc' := 28) rfl rfl rfl ?_
      refine j_callTi (pc' := 31) (ai := 16) (vs := [.ref 1, .int l6]) (rest := []) rfl rfl (fun _ _ => rfl) (c_X2_isShut_1 l6 σ) (j_dd rfl hd) rfl ?_
      refine j_q1 (Φl := (fun r Q => j_Tr true τ M_cX5_growFrom d 65 [some (.ref 37), some (.ref 1), some (.int l2), some (.int l3), some (.int l4), some (.int l5), some (.int l6)] [] r Q)) ?_ (fun σ1 => ?_)
      · refine j_two (pT := 34) (pF := 65) (L1 := [some (.ref 37), some (.ref 1), some (.int l2), some (.int l3), some (.int l4), some (.int l5), some (.int l6)]) (st1 := []) (fun o kT kF => ?_) (fun h3 => ?_) (fun h3 => ?_)
        · refine j_ifne (t := 65) (pc' := 34) rfl rfl rfl (fun h4 => ?_) (fun h4 => ?_)
          · exact kF h4
          · exact kT h4
        · refine j_aload_n (pc' := 35) rfl rfl rfl ?_
          refine j_iload_n (pc' := 36) rfl rfl rfl ?_
          refine j_iload_n (pc' := 37) rfl rfl rfl ?_
          refine j_iload (pc' := 39) rfl rfl rfl ?_
          refine j_iload (pc' := 41) rfl rfl rfl ?_
          refine j_callPi (pc' := 44) (ai := 27) (vs := [.ref 1, .int l2, .int l3, .int l4, .int l6]) (rest := []) rfl rfl (fun _ _ => rfl) (c_X2_lets l2 l3 l4 l6 σ) (j_dd rfl hd) rfl (fun v2 => ?_)
          refine j_two (pT := 47) (pF := 65) (L1 := [some (.ref 37), some (.ref 1), some (.int l2), some (.int l3), some (.int l4), some (.int l5), some (.int l6)]) (st1 := []) (fun o kT kF => ?_) (fun h1 => ?_) (fun h1 => ?_)
          · refine j_ifeq (t := 65) (pc' := 47) rfl rfl rfl (fun h2 => ?_) (fun h2 => ?_)
            · exact kF (fun z => z h2)
            · exact kT h2
          · refine j_aload_n (pc' := 48) rfl rfl rfl ?_
            refine j_gfr (pc' := 51) (x := 39) rfl rfl j_a37 rfl rfl ?_
            refine j_iload (pc' := 53) rfl rfl rfl ?_
            refine j_iload (pc' := 55) rfl rfl rfl ?_
            refine j_aload_n (pc' := 56) rfl rfl rfl ?_
            refine j_iload_n (pc' := 57) rfl rfl rfl ?_
            refine j_iload (pc' := 59) rfl rfl rfl ?_
            refine j_callPl (pc' := 62) (ai := 58) (vs := [.ref 37, .int l3, .int l4]) (rest := [.int l6, .int l5, .ref 39]) rfl rfl (fun _ _ => rfl) (c_X5_waysTo l3 l4 σ) (j_dd rfl hd) rfl (fun v3 => ?_)
            refine j_callRv (pc' := 65) (ai := 59) (vs := [.ref 39, .int l5, .int l6, .long v3]) (rest := []) rfl rfl (fun _ _ => rfl) (c_X5_add_39 l5 l6 v3 σ) (j_dd rfl hd) rfl (fun σ4 => ?_)
            exact j_end (fun _ h => h)
          · exact j_end (fun _ h => h)
        · exact j_end (fun _ h => h)
      show j_J true τ M_cX5_growFrom d 65 [some (.ref 37), some (.ref 1), some (.int l2), some (.int l3), some (.int l4), some (.int l5), some (.int l6)] [] σ1 _ _
      refine j_iincx (pc' := 68) (y := (1 : Int32)) (L' := [some (.ref 37), some (.ref 1), some (.int l2), some (.int l3), some (.int l4), some (.int l5), some (.int (l6 + (1 : Int32)))]) rfl rfl rfl rfl rfl ?_
      refine j_goto (t := 16) rfl rfl ?_
      exact ih (l6 + (1 : Int32)) σ1
    · refine j_wk [false, false, false, false, false, false, false] (L' := [none, none, none, none, none, none, none]) rfl ?_
      exact j_end (fun _ h => h)

theorem c_X5_growFrom (l2 : Int32) (l3 : Int32) (l4 : Int32) (σ : j_G) : j_K true 2 56 [.ref 37, .ref 1, .int l2, .int l3, .int l4] σ (f_X5_growFrom l2 l3 l4 σ) j_Rv := by
  refine j_mkK (M := M_cX5_growFrom) (L := [some (.ref 37), some (.ref 1), some (.int l2), some (.int l3), some (.int l4), none, none]) (m := 2) t_56 rfl (j_rcvO j_a37 rfl) rfl (fun d hd τ => ?_)
  unfold f_X5_growFrom
  refine j_iload_n (pc' := 1) rfl rfl rfl ?_
  refine j_iconst (pc' := 2) (x := (3 : Int32)) rfl rfl rfl ?_
  refine j_ql (Φl := (fun r Q => j_Tr true τ M_cX5_growFrom d 11 [some (.ref 37), some (.ref 1), some (.int l2), some (.int l3), some (.int l4), none, none] [.int r] σ Q)) ?_ (fun v1 => ?_)
  · refine j_twoT (pT := 5) (pF := 10) (L1 := [some (.ref 37), some (.ref 1), some (.int l2), some (.int l3), some (.int l4), none, none]) (st1 := []) (fun o kT kF => ?_) (fun h1 => ?_) (fun h1 => ?_)
    · refine j_icne (t := 10) (pc' := 5) rfl rfl rfl (fun h2 => ?_) (fun h2 => ?_)
      · exact kF h2
      · exact kT h2
    · refine j_iload (pc' := 7) rfl rfl rfl ?_
      refine j_goto (t := 11) rfl rfl ?_
      exact j_end (fun _ h => h)
    · refine j_iconst (pc' := 11) (x := (-1 : Int32)) rfl rfl rfl ?_
      exact j_end (fun _ h => h)
  show j_J true τ M_cX5_growFrom d 11 [some (.ref 37), some (.ref 1), some (.int l2), some (.int l3), some (.int l4), none, none] [.int v1] σ _ _
  refine j_istore (pc' := 13) (L' := [some (.ref 37), some (.ref 1), some (.int l2), some (.int l3), some (.int l4), some (.int v1), none]) rfl rfl rfl ?_
  refine j_iconst (pc' := 14) (x := (0 : Int32)) rfl rfl rfl ?_
  refine j_istore (pc' := 16) (L' := [some (.ref 37), some (.ref 1), some (.int l2), some (.int l3), some (.int l4), some (.int v1), some (.int (0 : Int32))]) rfl rfl rfl ?_
  refine j_q1 (l_X5_growFrom_16 hd τ l2 l3 l4 v1 j_F (0 : Int32) σ) (fun σ2 => ?_)
  show j_J true τ M_cX5_growFrom d 71 [none, none, none, none, none, none, none] [] σ2 _ _
  exact j_ret rfl rfl rfl (fun _ h => h)

noncomputable def p_X5_grow_2 (l2 : Int32) : Nat → Int32 → j_G → Option j_G
  | 0, _, _ => none
  | n + 1, l3, σ =>
    if l3 < (156 : Int32) then (j_ix l3 156 (
    j_lt (j_sl σ 39 (l3).toNatClampNeg (0 : Int64)) fun σ1 =>
    p_X5_grow_2 l2 n (l3 + (1 : Int32)) σ1)) else (some σ)

noncomputable def p_X5_grow_35 (l2 : Int32) (l3 : Int32) : Nat → Int32 → j_G → Option j_G
  | 0, _, _ => none
  | n + 1, l4, σ =>
    if l4 < (f_X2_holes 1 σ) then (j_b1 (f_X5_waysTo l3 l4 σ) fun v1 =>
    j_b1 (if (0 : Int64) < v1 then (j_b1 (f_X5_growFrom l2 l3 l4 σ) fun σ3 =>
    some σ3) else (some σ)) fun σ2 =>
    p_X5_grow_35 l2 l3 n (l4 + (1 : Int32)) σ2) else (some σ)

noncomputable def p_X5_grow_24 (l2 : Int32) : Nat → Int32 → j_G → Option j_G
  | 0, _, _ => none
  | n + 1, l3, σ =>
    if l3 < (f_X2_holes 1 σ) then (j_b1 (p_X5_grow_35 l2 l3 j_F (0 : Int32) σ) fun σ1 =>
    p_X5_grow_24 l2 n (l3 + (1 : Int32)) σ1) else (some σ)

noncomputable def f_X5_grow (l2 : Int32) (σ : j_G) : Option j_G :=
  j_b1 (p_X5_grow_2 l2 j_F (0 : Int32) σ) fun σ1 =>
  j_b1 (p_X5_grow_24 l2 j_F (-1 : Int32) σ1) fun σ2 =>
  j_cg (0 : Int32) (0 : Int32) (156 : Int32) 156 156 (
  j_lt (j_cl σ2 39 ((0 : Int32)).toNatClampNeg 38 ((0 : Int32)).toNatClampNeg ((156 : Int32)).toNatClampNeg) fun σ3 =>
  some σ3)
theorem l_X5_grow_2 {d : Nat} (hd : 3 ≤ d) (τ : j_G) (l2 : Int32) : ∀ (n : Nat) (l3 : Int32) (σ : j_G), j_J true τ M_cX5_grow d 2 [some (.ref 37), some (.ref 1), some (.int l2), some (.int l3), none] [] σ (p_X5_grow_2 l2 n l3 σ) (fun r Q => j_Tr true τ M_cX5_grow d 22 [some (.ref 37), some (.ref 1), some (.int l2), none, none] [] r Q) := by
  intro n
  induction n with
  | zero => intro l3 σ; exact j_none
  | succ n ih =>
    intro l3 σ
    unfold p_X5_grow_2
    refine j_iload_n (pc' := 3) rfl rfl rfl ?_
    refine j_sipush (pc' := 6) (x := (156 : Int32)) rfl rfl rfl ?_
    refine j_two (pT := 9) (pF := 22) (L1 := [some (.ref 37), some (.ref 1), some (.int l2), some (.int l3), none]) (st1 := []) (fun o kT kF => ?_) (fun h1 => ?_) (fun h1 => ?_)
    · refine j_icge (t := 22) (pc' := 9) rfl rfl rfl (fun h2 => ?_) (fun h2 => ?_)
      · exact kF h2
      · exact kT h2
    · refine j_aload_n (pc' := 10) rfl rfl rfl ?_
      refine j_gfr (pc' := 13) (x := 39) rfl rfl j_a37 rfl rfl ?_
      refine j_iload_n (pc' := 14) rfl rfl rfl ?_
      refine j_lconst (pc' := 15) (x := (0 : Int64)) rfl rfl rfl ?_
      refine j_last (pc' := 16) rfl rfl j_a39 (fun σ1 => ?_)
      refine j_iincx (pc' := 19) (y := (1 : Int32)) (L' := [some (.ref 37), some (.ref 1), some (.int l2), some (.int (l3 + (1 : Int32))), none]) rfl rfl rfl rfl rfl ?_
      refine j_goto (t := 2) rfl rfl ?_
      exact ih (l3 + (1 : Int32)) σ1
    · refine j_wk [true, true, true, false, true] (L' := [some (.ref 37), some (.ref 1), some (.int l2), none, none]) rfl ?_
      exact j_end (fun _ h => h)

theorem l_X5_grow_35 {d : Nat} (hd : 3 ≤ d) (τ : j_G) (l2 : Int32) (l3 : Int32) : ∀ (n : Nat) (l4 : Int32) (σ : j_G), j_J true τ M_cX5_grow d 35 [some (.ref 37), some (.ref 1), some (.int l2), some (.int l3), some (.int l4)] [] σ (p_X5_grow_35 l2 l3 n l4 σ) (fun r Q => j_Tr true τ M_cX5_grow d 71 [some (.ref 37), some (.ref 1), some (.int l2), some (.int l3), none] [] r Q) := by
  intro n
  induction n with
  | zero => intro l4 σ; exact j_none
  | succ n ih =>
    intro l4 σ
    unfold p_X5_grow_35
    refine j_iload (pc' := 37) rfl rfl rfl ?_
    refine j_aload_n (pc' := 38) rfl rfl rfl ?_
    refine j_callTi (pc' := 41) (ai := 12) (vs := [.ref 1]) (rest := [.int l4]) rfl rfl (fun _ _ => rfl) (c_X2_holes_1  σ) (j_dd rfl hd) rfl ?_
    refine j_two (pT := 44) (pF := 71) (L1 := [some (.ref 37), some (.ref 1), some (.int l2), some (.int l3), some (.int l4)]) (st1 := []) (fun o kT kF => ?_) (fun h3 => ?_) (fun h3 => ?_)
    · refine j_icge (t := 71) (pc' := 44) rfl rfl rfl (fun h4 => ?_) (fun h4 => ?_)
      · exact kF h4
      · exact kT h4
    · refine j_aload_n (pc' := 45) rfl rfl rfl ?_
      refine j_iload_n (pc' := 46) rfl rfl rfl ?_
      refine j_iload (pc' := 48) rfl rfl rfl ?_
      refine j_callPl (pc' := 51) (ai := 58) (vs := [.ref 37, .int l3, .int l4]) (rest := []) rfl rfl (fun _ _ => rfl) (c_X5_waysTo l3 l4 σ) (j_dd rfl hd) rfl (fun v1 => ?_)
      refine j_lconst (pc' := 52) (x := (0 : Int64)) rfl rfl rfl ?_
      refine j_lcmp (pc' := 53) rfl rfl ?_
      refine j_q1 (Φl := (fun r Q => j_Tr true τ M_cX5_grow d 65 [some (.ref 37), some (.ref 1), some (.int l2), some (.int l3), some (.int l4)] [] r Q)) ?_ (fun σ2 => ?_)
      · refine j_two (pT := 56) (pF := 65) (L1 := [some (.ref 37), some (.ref 1), some (.int l2), some (.int l3), some (.int l4)]) (st1 := []) (fun o kT kF => ?_) (fun h1 => ?_) (fun h1 => ?_)
        · refine j_ifleL (t := 65) (pc' := 56) rfl rfl rfl (fun h2 => ?_) (fun h2 => ?_)
          · exact kF h2
          · exact kT h2
        · refine j_aload_n (pc' := 57) rfl rfl rfl ?_
          refine j_aload_n (pc' := 58) rfl rfl rfl ?_
          refine j_iload_n (pc' := 59) rfl rfl rfl ?_
          refine j_iload_n (pc' := 60) rfl rfl rfl ?_
          refine j_iload (pc' := 62) rfl rfl rfl ?_
          refine j_callRv (pc' := 65) (ai := 56) (vs := [.ref 37, .ref 1, .int l2, .int l3, .int l4]) (rest := []) rfl rfl (fun _ _ => rfl) (c_X5_growFrom l2 l3 l4 σ) (j_dd rfl hd) rfl (fun σ3 => ?_)
          exact j_end (fun _ h => h)
        · exact j_end (fun _ h => h)
      show j_J true τ M_cX5_grow d 65 [some (.ref 37), some (.ref 1), some (.int l2), some (.int l3), some (.int l4)] [] σ2 _ _
      refine j_iincx (pc' := 68) (y := (1 : Int32)) (L' := [some (.ref 37), some (.ref 1), some (.int l2), some (.int l3), some (.int (l4 + (1 : Int32)))]) rfl rfl rfl rfl rfl ?_
      refine j_goto (t := 35) rfl rfl ?_
      exact ih (l4 + (1 : Int32)) σ2
    · refine j_wk [true, true, true, true, false] (L' := [some (.ref 37), some (.ref 1), some (.int l2), some (.int l3), none]) rfl ?_
      exact j_end (fun _ h => h)

theorem l_X5_grow_24 {d : Nat} (hd : 3 ≤ d) (τ : j_G) (l2 : Int32) : ∀ (n : Nat) (l3 : Int32) (σ : j_G), j_J true τ M_cX5_grow d 24 [some (.ref 37), some (.ref 1), some (.int l2), some (.int l3), none] [] σ (p_X5_grow_24 l2 n l3 σ) (fun r Q => j_Tr true τ M_cX5_grow d 77 [some (.ref 37), none, none, none, none] [] r Q) := by
  intro n
  induction n with
  | zero => intro l3 σ; exact j_none
  | succ n ih =>
    intro l3 σ
    unfold p_X5_grow_24
    refine j_iload_n (pc' := 25) rfl rfl rfl ?_
    refine j_aload_n (pc' := 26) rfl rfl rfl ?_
    refine j_callTi (pc' := 29) (ai := 12) (vs := [.ref 1]) (rest := [.int l3]) rfl rfl (fun _ _ => rfl) (c_X2_holes_1  σ) (j_dd rfl hd) rfl ?_
    refine j_two (pT := 32) (pF := 77) (L1 := [some (.ref 37), some (.ref 1), some (.int l2), some (.int l3), none]) (st1 := []) (fun o kT kF => ?_) (fun h1 => ?_) (fun h1 => ?_)
    · refine j_icge (t := 77) (pc' := 32) rfl rfl rfl (fun h2 => ?_) (fun h2 => ?_)
      · exact kF h2
      · exact kT h2
    · refine j_iconst (pc' := 33) (x := (0 : Int32)) rfl rfl rfl ?_
      refine j_istore (pc' := 35) (L' := [some (.ref 37), some (.ref 1), some (.int l2), some (.int l3), some (.int (0 : Int32))]) rfl rfl rfl ?_
      refine j_q1 (l_X5_grow_35 hd τ l2 l3 j_F (0 : Int32) σ) (fun σ1 => ?_)
      show j_J true τ M_cX5_grow d 71 [some (.ref 37), some (.ref 1), some (.int l2), some (.int l3), none] [] σ1 _ _
      refine j_iincx (pc' := 74) (y := (1 : Int32)) (L' := [some (.ref 37), some (.ref 1), some (.int l2), some (.int (l3 + (1 : Int32))), none]) rfl rfl rfl rfl rfl ?_
      refine j_goto (t := 24) rfl rfl ?_
      exact ih (l3 + (1 : Int32)) σ1
    · refine j_wk [true, false, false, false, true] (L' := [some (.ref 37), none, none, none, none]) rfl ?_
      exact j_end (fun _ h => h)

theorem c_X5_grow (l2 : Int32) (σ : j_G) : j_K true 3 55 [.ref 37, .ref 1, .int l2] σ (f_X5_grow l2 σ) j_Rv := by
  refine j_mkK (M := M_cX5_grow) (L := [some (.ref 37), some (.ref 1), some (.int l2), none, none]) (m := 2) t_55 rfl (j_rcvO j_a37 rfl) rfl (fun d hd τ => ?_)
  unfold f_X5_grow
  refine j_iconst (pc' := 1) (x := (0 : Int32)) rfl rfl rfl ?_
  refine j_istore_n (pc' := 2) (L' := [some (.ref 37), some (.ref 1), some (.int l2), some (.int (0 : Int32)), none]) rfl rfl rfl ?_
  refine j_q1 (l_X5_grow_2 hd τ l2 j_F (0 : Int32) σ) (fun σ1 => ?_)
  show j_J true τ M_cX5_grow d 22 [some (.ref 37), some (.ref 1), some (.int l2), none, none] [] σ1 _ _
  refine j_iconst (pc' := 23) (x := (-1 : Int32)) rfl rfl rfl ?_
  refine j_istore_n (pc' := 24) (L' := [some (.ref 37), some (.ref 1), some (.int l2), some (.int (-1 : Int32)), none]) rfl rfl rfl ?_
  refine j_q1 (l_X5_grow_24 hd τ l2 j_F (-1 : Int32) σ1) (fun σ2 => ?_)
  show j_J true τ M_cX5_grow d 77 [some (.ref 37), none, none, none, none] [] σ2 _ _
  refine j_aload_n (pc' := 78) rfl rfl rfl ?_
  refine j_gfr (pc' := 81) (x := 39) rfl rfl j_a37 rfl rfl ?_
  refine j_iconst (pc' := 82) (x := (0 : Int32)) rfl rfl rfl ?_
  refine j_aload_n (pc' := 83) rfl rfl rfl ?_
  refine j_gfr (pc' := 86) (x := 38) rfl rfl j_a37 rfl rfl ?_
  refine j_iconst (pc' := 87) (x := (0 : Int32)) rfl rfl rfl ?_
  refine j_sipush (pc' := 90) (x := (156 : Int32)) rfl rfl rfl ?_
  refine j_cpl (pc' := 93) rfl rfl rfl j_a39 j_a38 (fun σ3 => ?_)
  exact j_ret rfl rfl rfl (fun _ h => h)

noncomputable def p_X11_countLots_43 (l1 : Int32) (l2 : Int32) : Nat → Int32 → j_G → Option j_G
  | 0, _, _ => none
  | n + 1, l3, σ =>
    if l3 < l2 then (j_b1 (f_X5_grow l1 σ) fun σ1 =>
    p_X11_countLots_43 l1 l2 n (l3 + (1 : Int32)) σ1) else (some σ)

noncomputable def f_X11_countLots (l1 : Int32) (l2 : Int32) (σ : j_G) : Option (Int32 × j_G) :=
  if ((f_X2_isTold σ) = 0) ∨ (((f_X11_isLaw l1) = 0) ∨ ((l2 < (1 : Int32)) ∨ ((12 : Int32) < l2))) then (some ((0 : Int32), σ)) else (j_b1 (f_X5_begin σ) fun σ1 =>
  j_b1 (p_X11_countLots_43 l1 l2 j_F (1 : Int32) σ1) fun σ2 =>
  some ((1 : Int32), σ2))
theorem l_X11_countLots_43 {d : Nat} (hd : 4 ≤ d) (τ : j_G) (l1 : Int32) (l2 : Int32) : ∀ (n : Nat) (l3 : Int32) (σ : j_G), j_J true τ M_cX11_countLots d 43 [some (.ref 0), some (.int l1), some (.int l2), some (.int l3)] [] σ (p_X11_countLots_43 l1 l2 n l3 σ) (fun r Q => j_Tr true τ M_cX11_countLots d 66 [none, none, none, none] [] r Q) := by
  intro n
  induction n with
  | zero => intro l3 σ; exact j_none
  | succ n ih =>
    intro l3 σ
    unfold p_X11_countLots_43
    refine j_iload_n (pc' := 44) rfl rfl rfl ?_
    refine j_iload_n (pc' := 45) rfl rfl rfl ?_
    refine j_two (pT := 48) (pF := 66) (L1 := [some (.ref 0), some (.int l1), some (.int l2), some (.int l3)]) (st1 := []) (fun o kT kF => ?_) (fun h1 => ?_) (fun h1 => ?_)
    · refine j_icge (t := 66) (pc' := 48) rfl rfl rfl (fun h2 => ?_) (fun h2 => ?_)
      · exact kF h2
      · exact kT h2
    · refine j_aload_n (pc' := 49) rfl rfl rfl ?_
      refine j_gfr (pc' := 52) (x := 37) rfl rfl j_a0 rfl rfl ?_
      refine j_aload_n (pc' := 53) rfl rfl rfl ?_
      refine j_gfr (pc' := 56) (x := 1) rfl rfl j_a0 rfl rfl ?_
      refine j_iload_n (pc' := 57) rfl rfl rfl ?_
      refine j_callRv (pc' := 60) (ai := 55) (vs := [.ref 37, .ref 1, .int l1]) (rest := []) rfl rfl (fun _ _ => rfl) (c_X5_grow l1 σ) (j_dd rfl hd) rfl (fun σ1 => ?_)
      refine j_iincx (pc' := 63) (y := (1 : Int32)) (L' := [some (.ref 0), some (.int l1), some (.int l2), some (.int (l3 + (1 : Int32)))]) rfl rfl rfl rfl rfl ?_
      refine j_goto (t := 43) rfl rfl ?_
      exact ih (l3 + (1 : Int32)) σ1
    · refine j_wk [false, false, false, false] (L' := [none, none, none, none]) rfl ?_
      exact j_end (fun _ h => h)

theorem c_X11_countLots (l1 : Int32) (l2 : Int32) (σ : j_G) : j_K true 4 192 [.ref 0, .int l1, .int l2] σ (f_X11_countLots l1 l2 σ) j_Ri := by
  refine j_mkK (M := M_cX11_countLots) (L := [some (.ref 0), some (.int l1), some (.int l2), none]) (m := 1) t_192 rfl (j_rcvO j_a0 rfl) rfl (fun d hd τ => ?_)
  unfold f_X11_countLots
  refine j_aload_n (pc' := 1) rfl rfl rfl ?_
  refine j_gfr (pc' := 4) (x := 1) rfl rfl j_a0 rfl rfl ?_
  refine j_callTi (pc' := 7) (ai := 11) (vs := [.ref 1]) (rest := []) rfl rfl (fun _ _ => rfl) (c_X2_isTold  σ) (j_dd rfl hd) rfl ?_
  refine j_two (pT := 28) (pF := 30) (L1 := [some (.ref 0), some (.int l1), some (.int l2), none]) (st1 := []) (fun o kT kF => ?_) (fun h1 => ?_) (fun h1 => ?_)
  · refine j_ifeq (t := 28) (pc' := 10) rfl rfl rfl (fun h2 => ?_) (fun h2 => ?_)
    · exact kT (Or.inl h2)
    · refine j_iload_n (pc' := 11) rfl rfl rfl ?_
      refine j_callTi (pc' := 14) (ai := 183) (vs := [.int l1]) (rest := []) rfl rfl (fun _ _ => rfl) (c_X11_isLaw l1 σ) (j_dd rfl hd) rfl ?_
      refine j_ifeq (t := 28) (pc' := 17) rfl rfl rfl (fun h3 => ?_) (fun h3 => ?_)
      · exact kT (Or.inr (Or.inl h3))
      · refine j_iload_n (pc' := 18) rfl rfl rfl ?_
        refine j_iconst (pc' := 19) (x := (1 : Int32)) rfl rfl rfl ?_
        refine j_iclt (t := 28) (pc' := 22) rfl rfl rfl (fun h4 => ?_) (fun h4 => ?_)
        · exact kT (Or.inr (Or.inr (Or.inl h4)))
        · refine j_iload_n (pc' := 23) rfl rfl rfl ?_
          refine j_bipush (pc' := 25) (x := (12 : Int32)) rfl rfl rfl ?_
          refine j_icle (t := 30) (pc' := 28) rfl rfl rfl (fun h5 => ?_) (fun h5 => ?_)
          · exact kF (fun z => z.elim h2 (fun z => z.elim h3 (fun z => z.elim h4 (h5))))
          · exact kT (Or.inr (Or.inr (Or.inr (h5))))
  · refine j_iconst (pc' := 29) (x := (0 : Int32)) rfl rfl rfl ?_
    exact j_ret rfl rfl rfl (fun _ h => h)
  · refine j_aload_n (pc' := 31) rfl rfl rfl ?_
    refine j_gfr (pc' := 34) (x := 37) rfl rfl j_a0 rfl rfl ?_
    refine j_aload_n (pc' := 35) rfl rfl rfl ?_
    refine j_gfr (pc' := 38) (x := 1) rfl rfl j_a0 rfl rfl ?_
    refine j_callRv (pc' := 41) (ai := 54) (vs := [.ref 37, .ref 1]) (rest := []) rfl rfl (fun _ _ => rfl) (c_X5_begin  σ) (j_dd rfl hd) rfl (fun σ1 => ?_)
    refine j_iconst (pc' := 42) (x := (1 : Int32)) rfl rfl rfl ?_
    refine j_istore_n (pc' := 43) (L' := [some (.ref 0), some (.int l1), some (.int l2), some (.int (1 : Int32))]) rfl rfl rfl ?_
    refine j_q1 (l_X11_countLots_43 hd τ l1 l2 j_F (1 : Int32) σ1) (fun σ2 => ?_)
    show j_J true τ M_cX11_countLots d 66 [none, none, none, none] [] σ2 _ _
    refine j_iconst (pc' := 67) (x := (1 : Int32)) rfl rfl rfl ?_
    exact j_ret rfl rfl rfl (fun _ h => h)

noncomputable def p_X5_rowsTo_5 (l2 : Int32) (σ : j_G) : Nat → Int64 → Int32 → Option Int64
  | 0, _, _ => none
  | n + 1, l3, l5 =>
    if l5 < (f_X2_holes 1 σ) then (j_b1 (f_X5_waysTo l5 l2 σ) fun v1 =>
    j_lt (l3 + v1) fun v2 =>
    p_X5_rowsTo_5 l2 σ n v2 (l5 + (1 : Int32))) else (some l3)

noncomputable def f_X5_rowsTo (l2 : Int32) (σ : j_G) : Option Int64 :=
  j_b1 (p_X5_rowsTo_5 l2 σ j_F (0 : Int64) (-1 : Int32)) fun v1 =>
  some v1
theorem l_X5_rowsTo_5 {d : Nat} (hd : 2 ≤ d) (τ : j_G) (l2 : Int32) (σ : j_G) : ∀ (n : Nat) (l3 : Int64) (l5 : Int32), j_J true τ M_cX5_rowsTo d 5 [some (.ref 37), some (.ref 1), some (.int l2), some (.long l3), none, some (.int l5)] [] σ (p_X5_rowsTo_5 l2 σ n l3 l5) (fun r Q => j_Tr true τ M_cX5_rowsTo d 30 [none, none, none, some (.long r), none, none] [] σ Q) := by
  intro n
  induction n with
  | zero => intro l3 l5; exact j_none
  | succ n ih =>
    intro l3 l5
    unfold p_X5_rowsTo_5
    refine j_iload (pc' := 7) rfl rfl rfl ?_
    refine j_aload_n (pc' := 8) rfl rfl rfl ?_
    refine j_callTi (pc' := 11) (ai := 12) (vs := [.ref 1]) (rest := [.int l5]) rfl rfl (fun _ _ => rfl) (c_X2_holes_1  σ) (j_dd rfl hd) rfl ?_
    refine j_two (pT := 14) (pF := 30) (L1 := [some (.ref 37), some (.ref 1), some (.int l2), some (.long l3), none, some (.int l5)]) (st1 := []) (fun o kT kF => ?_) (fun h1 => ?_) (fun h1 => ?_)
    · refine j_icge (t := 30) (pc' := 14) rfl rfl rfl (fun h2 => ?_) (fun h2 => ?_)
      · exact kF h2
      · exact kT h2
    · refine j_lload_n (pc' := 15) rfl rfl rfl ?_
      refine j_aload_n (pc' := 16) rfl rfl rfl ?_
      refine j_iload (pc' := 18) rfl rfl rfl ?_
      refine j_iload_n (pc' := 19) rfl rfl rfl ?_
      refine j_callPl (pc' := 22) (ai := 58) (vs := [.ref 37, .int l5, .int l2]) (rest := [.long l3]) rfl rfl (fun _ _ => rfl) (c_X5_waysTo l5 l2 σ) (j_dd rfl hd) rfl (fun v1 => ?_)
      refine j_ladd (pc' := 23) rfl rfl ?_
      refine j_letl (fun v2 => ?_)
      refine j_lstore_n (pc' := 24) (L' := [some (.ref 37), some (.ref 1), some (.int l2), some (.long v2), none, some (.int l5)]) rfl rfl rfl ?_
      refine j_iincx (pc' := 27) (y := (1 : Int32)) (L' := [some (.ref 37), some (.ref 1), some (.int l2), some (.long v2), none, some (.int (l5 + (1 : Int32)))]) rfl rfl rfl rfl rfl ?_
      refine j_goto (t := 5) rfl rfl ?_
      exact ih v2 (l5 + (1 : Int32))
    · refine j_wk [false, false, false, true, true, false] (L' := [none, none, none, some (.long l3), none, none]) rfl ?_
      exact j_end (fun _ h => h)

theorem c_X5_rowsTo (l2 : Int32) (σ : j_G) : j_K true 2 60 [.ref 37, .ref 1, .int l2] σ (f_X5_rowsTo l2 σ) (j_Pl σ) := by
  refine j_mkK (M := M_cX5_rowsTo) (L := [some (.ref 37), some (.ref 1), some (.int l2), none, none, none]) (m := 3) t_60 rfl (j_rcvO j_a37 rfl) rfl (fun d hd τ => ?_)
  unfold f_X5_rowsTo
  refine j_lconst (pc' := 1) (x := (0 : Int64)) rfl rfl rfl ?_
  refine j_lstore_n (pc' := 2) (L' := [some (.ref 37), some (.ref 1), some (.int l2), some (.long (0 : Int64)), none, none]) rfl rfl rfl ?_
  refine j_iconst (pc' := 3) (x := (-1 : Int32)) rfl rfl rfl ?_
  refine j_istore (pc' := 5) (L' := [some (.ref 37), some (.ref 1), some (.int l2), some (.long (0 : Int64)), none, some (.int (-1 : Int32))]) rfl rfl rfl ?_
  refine j_q1 (l_X5_rowsTo_5 hd τ l2 σ j_F (0 : Int64) (-1 : Int32)) (fun v1 => ?_)
  show j_J true τ M_cX5_rowsTo d 30 [none, none, none, some (.long v1), none, none] [] σ _ _
  refine j_lload_n (pc' := 31) rfl rfl rfl ?_
  exact j_ret rfl rfl rfl (fun _ h => h)

noncomputable def p_X5_rowsInAll_5 (σ : j_G) : Nat → Int64 → Int32 → Option Int64
  | 0, _, _ => none
  | n + 1, l2, l4 =>
    if l4 < (f_X2_holes 1 σ) then (j_b1 (f_X5_rowsTo l4 σ) fun v1 =>
    j_lt (l2 + v1) fun v2 =>
    p_X5_rowsInAll_5 σ n v2 (l4 + (1 : Int32))) else (some l2)

noncomputable def f_X5_rowsInAll (σ : j_G) : Option Int64 :=
  j_b1 (p_X5_rowsInAll_5 σ j_F (0 : Int64) (0 : Int32)) fun v1 =>
  some v1
theorem l_X5_rowsInAll_5 {d : Nat} (hd : 3 ≤ d) (τ : j_G) (σ : j_G) : ∀ (n : Nat) (l2 : Int64) (l4 : Int32), j_J true τ M_cX5_rowsInAll d 5 [some (.ref 37), some (.ref 1), some (.long l2), none, some (.int l4)] [] σ (p_X5_rowsInAll_5 σ n l2 l4) (fun r Q => j_Tr true τ M_cX5_rowsInAll d 30 [none, none, some (.long r), none, none] [] σ Q) := by
  intro n
  induction n with
  | zero => intro l2 l4; exact j_none
  | succ n ih =>
    intro l2 l4
    unfold p_X5_rowsInAll_5
    refine j_iload (pc' := 7) rfl rfl rfl ?_
    refine j_aload_n (pc' := 8) rfl rfl rfl ?_
    refine j_callTi (pc' := 11) (ai := 12) (vs := [.ref 1]) (rest := [.int l4]) rfl rfl (fun _ _ => rfl) (c_X2_holes_1  σ) (j_dd rfl hd) rfl ?_
    refine j_two (pT := 14) (pF := 30) (L1 := [some (.ref 37), some (.ref 1), some (.long l2), none, some (.int l4)]) (st1 := []) (fun o kT kF => ?_) (fun h1 => ?_) (fun h1 => ?_)
    · refine j_icge (t := 30) (pc' := 14) rfl rfl rfl (fun h2 => ?_) (fun h2 => ?_)
      · exact kF h2
      · exact kT h2
    · refine j_lload_n (pc' := 15) rfl rfl rfl ?_
      refine j_aload_n (pc' := 16) rfl rfl rfl ?_
      refine j_aload_n (pc' := 17) rfl rfl rfl ?_
      refine j_iload (pc' := 19) rfl rfl rfl ?_
      refine j_callPl (pc' := 22) (ai := 60) (vs := [.ref 37, .ref 1, .int l4]) (rest := [.long l2]) rfl rfl (fun _ _ => rfl) (c_X5_rowsTo l4 σ) (j_dd rfl hd) rfl (fun v1 => ?_)
      refine j_ladd (pc' := 23) rfl rfl ?_
      refine j_letl (fun v2 => ?_)
      refine j_lstore_n (pc' := 24) (L' := [some (.ref 37), some (.ref 1), some (.long v2), none, some (.int l4)]) rfl rfl rfl ?_
      refine j_iincx (pc' := 27) (y := (1 : Int32)) (L' := [some (.ref 37), some (.ref 1), some (.long v2), none, some (.int (l4 + (1 : Int32)))]) rfl rfl rfl rfl rfl ?_
      refine j_goto (t := 5) rfl rfl ?_
      exact ih v2 (l4 + (1 : Int32))
    · refine j_wk [false, false, true, true, false] (L' := [none, none, some (.long l2), none, none]) rfl ?_
      exact j_end (fun _ h => h)

theorem c_X5_rowsInAll (σ : j_G) : j_K true 3 61 [.ref 37, .ref 1] σ (f_X5_rowsInAll σ) (j_Pl σ) := by
  refine j_mkK (M := M_cX5_rowsInAll) (L := [some (.ref 37), some (.ref 1), none, none, none]) (m := 3) t_61 rfl (j_rcvO j_a37 rfl) rfl (fun d hd τ => ?_)
  unfold f_X5_rowsInAll
  refine j_lconst (pc' := 1) (x := (0 : Int64)) rfl rfl rfl ?_
  refine j_lstore_n (pc' := 2) (L' := [some (.ref 37), some (.ref 1), some (.long (0 : Int64)), none, none]) rfl rfl rfl ?_
  refine j_iconst (pc' := 3) (x := (0 : Int32)) rfl rfl rfl ?_
  refine j_istore (pc' := 5) (L' := [some (.ref 37), some (.ref 1), some (.long (0 : Int64)), none, some (.int (0 : Int32))]) rfl rfl rfl ?_
  refine j_q1 (l_X5_rowsInAll_5 hd τ σ j_F (0 : Int64) (0 : Int32)) (fun v1 => ?_)
  show j_J true τ M_cX5_rowsInAll d 30 [none, none, some (.long v1), none, none] [] σ _ _
  refine j_lload_n (pc' := 31) rfl rfl rfl ?_
  exact j_ret rfl rfl rfl (fun _ h => h)

noncomputable def f_X11_rows (l1 : Int32) (l2 : Int32) (σ : j_G) : Option (Int64 × j_G) :=
  j_b2 (f_X11_countLots l1 l2 σ) fun v2 σ1 =>
  if ¬ v2 = 0 then (j_b1 (f_X5_rowsInAll σ1) fun v3 =>
  some (v3, σ1)) else (some ((-2 : Int64), σ1))
theorem c_X11_rows (l1 : Int32) (l2 : Int32) (σ : j_G) : j_K true 5 144 [.ref 0, .int l1, .int l2] σ (f_X11_rows l1 l2 σ) j_Rl := by
  refine j_mkK (M := M_cX11_rows) (L := [some (.ref 0), some (.int l1), some (.int l2)]) (m := 0) t_144 rfl (j_rcvO j_a0 rfl) rfl (fun d hd τ => ?_)
  unfold f_X11_rows
  refine j_aload_n (pc' := 1) rfl rfl rfl ?_
  refine j_iload_n (pc' := 2) rfl rfl rfl ?_
  refine j_iload_n (pc' := 3) rfl rfl rfl ?_
  refine j_callRi (pc' := 6) (ai := 192) (vs := [.ref 0, .int l1, .int l2]) (rest := []) rfl rfl (fun _ _ => rfl) (c_X11_countLots l1 l2 σ) (j_dd rfl hd) rfl (fun v2 σ1 => ?_)
  refine j_two (pT := 9) (pF := 23) (L1 := [some (.ref 0), some (.int l1), some (.int l2)]) (st1 := []) (fun o kT kF => ?_) (fun h1 => ?_) (fun h1 => ?_)
  · refine j_ifeq (t := 23) (pc' := 9) rfl rfl rfl (fun h2 => ?_) (fun h2 => ?_)
    · exact kF (fun z => z h2)
    · exact kT h2
  · refine j_aload_n (pc' := 10) rfl rfl rfl ?_
    refine j_gfr (pc' := 13) (x := 37) rfl rfl j_a0 rfl rfl ?_
    refine j_aload_n (pc' := 14) rfl rfl rfl ?_
    refine j_gfr (pc' := 17) (x := 1) rfl rfl j_a0 rfl rfl ?_
    refine j_callPl (pc' := 20) (ai := 61) (vs := [.ref 37, .ref 1]) (rest := []) rfl rfl (fun _ _ => rfl) (c_X5_rowsInAll  σ1) (j_dd rfl hd) rfl (fun v3 => ?_)
    refine j_goto (t := 26) rfl rfl ?_
    exact j_ret rfl rfl rfl (fun _ h => h)
  · refine j_ldc2_w (pc' := 26) (x := (-2 : Int64)) rfl rfl rfl ?_
    exact j_ret rfl rfl rfl (fun _ h => h)

noncomputable def f_X12_isLaw (l0 : Int32) : Int32 :=
  (f_X12_in (l0).toInt64 (0 : Int64) (3 : Int64))

theorem b_X12_isLaw (l0 : Int32) : f_X12_isLaw l0 = 0 ∨ f_X12_isLaw l0 = 1 := by
  unfold f_X12_isLaw
  exact (b_X12_in (l0).toInt64 (0 : Int64) (3 : Int64))
theorem c_X12_isLaw (l0 : Int32) (σ : j_G) : j_K false 1 289 [.int l0] σ (some (f_X12_isLaw l0)) (j_Pi σ) := by
  refine j_mkK (M := M_cX12_isLaw) (L := [some (.int l0)]) (m := 0) t_289 rfl (j_rcvS rfl) rfl (fun d hd τ => ?_)
  unfold f_X12_isLaw
  refine j_iload_n (pc' := 1) rfl rfl rfl ?_
  refine j_i2l (pc' := 2) rfl rfl ?_
  refine j_lconst (pc' := 3) (x := (0 : Int64)) rfl rfl rfl ?_
  refine j_ldc2_w (pc' := 6) (x := (3 : Int64)) rfl rfl rfl ?_
  refine j_callTi (pc' := 9) (ai := 196) (vs := [.long (l0).toInt64, .long (0 : Int64), .long (3 : Int64)]) (rest := []) rfl rfl (fun _ _ => rfl) (c_X12_in (l0).toInt64 (0 : Int64) (3 : Int64) σ) (j_dd rfl hd) rfl ?_
  exact j_retb rfl rfl (b_X12_in (l0).toInt64 (0 : Int64) (3 : Int64)) (fun _ h => h)

noncomputable def f_X12_lets (l1 : Int32) (l2 : Int32) (l3 : Int32) (l4 : Int32) (σ : j_G) : Option Int32 :=
  j_b1 (f_X12_isShut l2 σ) fun v1 =>
  if ¬ v1 = 0 then (some (0 : Int32)) else (if l1 = (1 : Int32) then (if ¬ l2 = l3 then (some (1 : Int32)) else (some (0 : Int32))) else (if l1 = (2 : Int32) then (if ¬ l3 = (-1 : Int32) then (j_b1 (f_X12_stepsOf l2 l3 σ) fun v2 =>
  if (1 : Int32) < v2 then (some (1 : Int32)) else (some (0 : Int32))) else (some (1 : Int32))) else (if ¬ l1 = 0 then (if (¬ l2 = l3) ∧ (¬ l2 = l4) then (some (1 : Int32)) else (some (0 : Int32))) else (some (1 : Int32)))))
theorem c_X12_lets (l1 : Int32) (l2 : Int32) (l3 : Int32) (l4 : Int32) (σ : j_G) : j_K false 1 290 [.ref 75, .int l1, .int l2, .int l3, .int l4] σ (f_X12_lets l1 l2 l3 l4 σ) (j_Pi σ) := by
  refine j_mkK (M := M_cX12_lets) (L := [some (.ref 75), some (.int l1), some (.int l2), some (.int l3), some (.int l4)]) (m := 0) t_290 rfl (j_rcvO j_a75 rfl) rfl (fun d hd τ => ?_)
  unfold f_X12_lets
  refine j_aload_n (pc' := 1) rfl rfl rfl ?_
  refine j_iload_n (pc' := 2) rfl rfl rfl ?_
  refine j_callPi (pc' := 5) (ai := 202) (vs := [.ref 75, .int l2]) (rest := []) rfl rfl (fun _ _ => rfl) (c_X12_isShut l2 σ) (j_dd rfl hd) rfl (fun v1 => ?_)
  refine j_two (pT := 8) (pF := 10) (L1 := [some (.ref 75), some (.int l1), some (.int l2), some (.int l3), some (.int l4)]) (st1 := []) (fun o kT kF => ?_) (fun h16 => ?_) (fun h16 => ?_)
  · refine j_ifeq (t := 10) (pc' := 8) rfl rfl rfl (fun h17 => ?_) (fun h17 => ?_)
    · exact kF (fun z => z h17)
    · exact kT h17
  · refine j_iconst (pc' := 9) (x := (0 : Int32)) rfl rfl rfl ?_
    exact j_ret rfl rfl rfl (fun _ h => h)
  · refine j_iload_n (pc' := 11) rfl rfl rfl ?_
    refine j_iconst (pc' := 12) (x := (1 : Int32)) rfl rfl rfl ?_
    refine j_two (pT := 15) (pF := 26) (L1 := [some (.ref 75), some (.int l1), some (.int l2), some (.int l3), some (.int l4)]) (st1 := []) (fun o kT kF => ?_) (fun h14 => ?_) (fun h14 => ?_)
    · refine j_icne (t := 26) (pc' := 15) rfl rfl rfl (fun h15 => ?_) (fun h15 => ?_)
      · exact kF h15
      · exact kT h15
    · refine j_iload_n (pc' := 16) rfl rfl rfl ?_
      refine j_iload_n (pc' := 17) rfl rfl rfl ?_
      refine j_two (pT := 20) (pF := 24) (L1 := [some (.ref 75), some (.int l1), some (.int l2), some (.int l3), some (.int l4)]) (st1 := []) (fun o kT kF => ?_) (fun h1 => ?_) (fun h1 => ?_)
      · refine j_iceq (t := 24) (pc' := 20) rfl rfl rfl (fun h2 => ?_) (fun h2 => ?_)
        · exact kF (fun z => z h2)
        · exact kT h2
      · refine j_iconst (pc' := 21) (x := (1 : Int32)) rfl rfl rfl ?_
        refine j_goto (t := 25) rfl rfl ?_
        exact j_ret rfl rfl rfl (fun _ h => h)
      · refine j_iconst (pc' := 25) (x := (0 : Int32)) rfl rfl rfl ?_
        exact j_ret rfl rfl rfl (fun _ h => h)
    · refine j_iload_n (pc' := 27) rfl rfl rfl ?_
      refine j_iconst (pc' := 28) (x := (2 : Int32)) rfl rfl rfl ?_
      refine j_two (pT := 31) (pF := 52) (L1 := [some (.ref 75), some (.int l1), some (.int l2), some (.int l3), some (.int l4)]) (st1 := []) (fun o kT kF => ?_) (fun h12 => ?_) (fun h12 => ?_)
      · refine j_icne (t := 52) (pc' := 31) rfl rfl rfl (fun h13 => ?_) (fun h13 => ?_)
        · exact kF h13
        · exact kT h13
      · refine j_iload_n (pc' := 32) rfl rfl rfl ?_
        refine j_iconst (pc' := 33) (x := (-1 : Int32)) rfl rfl rfl ?_
        refine j_two (pT := 36) (pF := 46) (L1 := [some (.ref 75), some (.int l1), some (.int l2), some (.int l3), some (.int l4)]) (st1 := []) (fun o kT kF => ?_) (fun h5 => ?_) (fun h5 => ?_)
        · refine j_iceq (t := 46) (pc' := 36) rfl rfl rfl (fun h6 => ?_) (fun h6 => ?_)
          · exact kF (fun z => z h6)
          · exact kT h6
        · refine j_aload_n (pc' := 37) rfl rfl rfl ?_
          refine j_iload_n (pc' := 38) rfl rfl rfl ?_
          refine j_iload_n (pc' := 39) rfl rfl rfl ?_
          refine j_callPi (pc' := 42) (ai := 248) (vs := [.ref 75, .int l2, .int l3]) (rest := []) rfl rfl (fun _ _ => rfl) (c_X12_stepsOf l2 l3 σ) (j_dd rfl hd) rfl (fun v2 => ?_)
          refine j_iconst (pc' := 43) (x := (1 : Int32)) rfl rfl rfl ?_
          refine j_two (pT := 46) (pF := 50) (L1 := [some (.ref 75), some (.int l1), some (.int l2), some (.int l3), some (.int l4)]) (st1 := []) (fun o kT kF => ?_) (fun h3 => ?_) (fun h3 => ?_)
          · refine j_icle (t := 50) (pc' := 46) rfl rfl rfl (fun h4 => ?_) (fun h4 => ?_)
            · exact kF h4
            · exact kT h4
          · refine j_iconst (pc' := 47) (x := (1 : Int32)) rfl rfl rfl ?_
            refine j_goto (t := 51) rfl rfl ?_
            exact j_ret rfl rfl rfl (fun _ h => h)
          · refine j_iconst (pc' := 51) (x := (0 : Int32)) rfl rfl rfl ?_
            exact j_ret rfl rfl rfl (fun _ h => h)
        · refine j_iconst (pc' := 47) (x := (1 : Int32)) rfl rfl rfl ?_
          refine j_goto (t := 51) rfl rfl ?_
          exact j_ret rfl rfl rfl (fun _ h => h)
      · refine j_iload_n (pc' := 53) rfl rfl rfl ?_
        refine j_two (pT := 56) (pF := 67) (L1 := [some (.ref 75), some (.int l1), some (.int l2), some (.int l3), some (.int l4)]) (st1 := []) (fun o kT kF => ?_) (fun h10 => ?_) (fun h10 => ?_)
        · refine j_ifeq (t := 67) (pc' := 56) rfl rfl rfl (fun h11 => ?_) (fun h11 => ?_)
          · exact kF (fun z => z h11)
          · exact kT h11
        · refine j_iload_n (pc' := 57) rfl rfl rfl ?_
          refine j_iload_n (pc' := 58) rfl rfl rfl ?_
          refine j_two (pT := 67) (pF := 71) (L1 := [some (.ref 75), some (.int l1), some (.int l2), some (.int l3), some (.int l4)]) (st1 := []) (fun o kT kF => ?_) (fun h7 => ?_) (fun h7 => ?_)
          · refine j_iceq (t := 71) (pc' := 61) rfl rfl rfl (fun h8 => ?_) (fun h8 => ?_)
            · exact kF (fun z => z.1 h8)
            · refine j_iload_n (pc' := 62) rfl rfl rfl ?_
              refine j_iload (pc' := 64) rfl rfl rfl ?_
              refine j_iceq (t := 71) (pc' := 67) rfl rfl rfl (fun h9 => ?_) (fun h9 => ?_)
              · exact kF (fun z => (fun z => z h9) z.2)
              · exact kT (⟨h8, h9⟩)
          · refine j_iconst (pc' := 68) (x := (1 : Int32)) rfl rfl rfl ?_
            refine j_goto (t := 72) rfl rfl ?_
            exact j_ret rfl rfl rfl (fun _ h => h)
          · refine j_iconst (pc' := 72) (x := (0 : Int32)) rfl rfl rfl ?_
            exact j_ret rfl rfl rfl (fun _ h => h)
        · refine j_iconst (pc' := 68) (x := (1 : Int32)) rfl rfl rfl ?_
          refine j_goto (t := 72) rfl rfl ?_
          exact j_ret rfl rfl rfl (fun _ h => h)

noncomputable def p_X12_fillRows_2 (l1 : Int32) (l2 : Int32) : Nat → Int32 → j_G → Option j_G
  | 0, _, _ => none
  | n + 1, l3, σ =>
    if l3 < (169 : Int32) then (j_lt (if l3 = 0 then ((1 : Int64)) else ((0 : Int64))) fun v1 =>
    j_ix l3 169 (
    j_lt (j_sl σ 91 (l3).toNatClampNeg v1) fun σ2 =>
    p_X12_fillRows_2 l1 l2 n (l3 + (1 : Int32)) σ2)) else (some σ)

noncomputable def p_X12_fillRows_42 (l1 : Int32) (l2 : Int32) (l3 : Int32) : Nat → Int32 → j_G → Option j_G
  | 0, _, _ => none
  | n + 1, l4, σ =>
    if l4 < (169 : Int32) then (j_ix l4 169 (
    j_ix l4 169 (
    j_lt (j_sl σ 92 (l4).toNatClampNeg (σ.2 91 (l4).toNatClampNeg)) fun σ1 =>
    j_ix l4 169 (
    j_lt (j_sl σ1 91 (l4).toNatClampNeg (0 : Int64)) fun σ2 =>
    p_X12_fillRows_42 l1 l2 l3 n (l4 + (1 : Int32)) σ2)))) else (some σ)

noncomputable def p_X12_fillRows_136 (l1 : Int32) (l2 : Int32) (l3 : Int32) (l4 : Int32) (l5 : Int32) (l6 : Int64) : Nat → Int32 → j_G → Option j_G
  | 0, _, _ => none
  | n + 1, l8, σ =>
    j_b1 (f_X12_holes σ) fun v1 =>
    if l8 < v1 then (j_b1 (f_X12_lets l1 l8 l4 l5 σ) fun v2 =>
    j_b1 (if ¬ v2 = 0 then (j_ix ((((13 : Int32) * (l8 + (1 : Int32))) + l4) + (1 : Int32)) 169 (
    j_ix ((((13 : Int32) * (l8 + (1 : Int32))) + l4) + (1 : Int32)) 169 (
    j_lt (j_sl σ 91 (((((13 : Int32) * (l8 + (1 : Int32))) + l4) + (1 : Int32))).toNatClampNeg ((σ.2 91 (((((13 : Int32) * (l8 + (1 : Int32))) + l4) + (1 : Int32))).toNatClampNeg) + l6)) fun σ4 =>
    some σ4))) else (some σ)) fun σ3 =>
    p_X12_fillRows_136 l1 l2 l3 l4 l5 l6 n (l8 + (1 : Int32)) σ3) else (some σ)

noncomputable def p_X12_fillRows_95 (l1 : Int32) (l2 : Int32) (l3 : Int32) (l4 : Int32) : Nat → Int32 → j_G → Option j_G
  | 0, _, _ => none
  | n + 1, l5, σ =>
    j_b1 (f_X12_holes σ) fun v1 =>
    if l5 < v1 then (j_ix ((((13 : Int32) * (l4 + (1 : Int32))) + l5) + (1 : Int32)) 169 (
    j_lt (σ.2 92 (((((13 : Int32) * (l4 + (1 : Int32))) + l5) + (1 : Int32))).toNatClampNeg) fun v2 =>
    j_b1 (if v2 = (0 : Int64) then (some σ) else (j_b1 (p_X12_fillRows_136 l1 l2 l3 l4 l5 v2 j_F (0 : Int32) σ) fun σ4 =>
    some σ4)) fun σ3 =>
    p_X12_fillRows_95 l1 l2 l3 l4 n (l5 + (1 : Int32)) σ3)) else (some σ)

noncomputable def p_X12_fillRows_83 (l1 : Int32) (l2 : Int32) (l3 : Int32) : Nat → Int32 → j_G → Option j_G
  | 0, _, _ => none
  | n + 1, l4, σ =>
    j_b1 (f_X12_holes σ) fun v1 =>
    if l4 < v1 then (j_b1 (p_X12_fillRows_95 l1 l2 l3 l4 j_F (-1 : Int32) σ) fun σ2 =>
    p_X12_fillRows_83 l1 l2 l3 n (l4 + (1 : Int32)) σ2) else (some σ)

noncomputable def p_X12_fillRows_34 (l1 : Int32) (l2 : Int32) : Nat → Int32 → j_G → Option j_G
  | 0, _, _ => none
  | n + 1, l3, σ =>
    if l3 < l2 then (j_b1 (p_X12_fillRows_42 l1 l2 l3 j_F (0 : Int32) σ) fun σ1 =>
    j_b1 (p_X12_fillRows_83 l1 l2 l3 j_F (-1 : Int32) σ1) fun σ2 =>
    p_X12_fillRows_34 l1 l2 n (l3 + (1 : Int32)) σ2) else (some σ)

noncomputable def f_X12_fillRows (l1 : Int32) (l2 : Int32) (σ : j_G) : Option j_G :=
  j_b1 (p_X12_fillRows_2 l1 l2 j_F (0 : Int32) σ) fun σ1 =>
  j_b1 (p_X12_fillRows_34 l1 l2 j_F (0 : Int32) σ1) fun σ2 =>
  some σ2
theorem l_X12_fillRows_2 {d : Nat} (hd : 2 ≤ d) (τ : j_G) (l1 : Int32) (l2 : Int32) : ∀ (n : Nat) (l3 : Int32) (σ : j_G), j_J false τ M_cX12_fillRows d 2 [some (.ref 75), some (.int l1), some (.int l2), some (.int l3), none, none, none, none, none] [] σ (p_X12_fillRows_2 l1 l2 n l3 σ) (fun r Q => j_Tr false τ M_cX12_fillRows d 32 [some (.ref 75), some (.int l1), some (.int l2), none, none, none, none, none, none] [] r Q) := by
  intro n
  induction n with
  | zero => intro l3 σ; exact j_none
  | succ n ih =>
    intro l3 σ
    unfold p_X12_fillRows_2
    refine j_iload_n (pc' := 3) rfl rfl rfl ?_
    refine j_aload_n (pc' := 4) rfl rfl rfl ?_
    refine j_gfr (pc' := 7) (x := 91) rfl rfl j_a75 rfl rfl ?_
    refine j_alen (pc' := 8) (v := (169 : Int32)) rfl rfl j_a91 rfl ?_
    refine j_two (pT := 11) (pF := 32) (L1 := [some (.ref 75), some (.int l1), some (.int l2), some (.int l3), none, none, none, none, none]) (st1 := []) (fun o kT kF => ?_) (fun h3 => ?_) (fun h3 => ?_)
    · refine j_icge (t := 32) (pc' := 11) rfl rfl rfl (fun h4 => ?_) (fun h4 => ?_)
      · exact kF h4
      · exact kT h4
    · refine j_aload_n (pc' := 12) rfl rfl rfl ?_
      refine j_gfr (pc' := 15) (x := 91) rfl rfl j_a75 rfl rfl ?_
      refine j_iload_n (pc' := 16) rfl rfl rfl ?_
      refine j_iload_n (pc' := 17) rfl rfl rfl ?_
      refine j_ql (Φl := (fun r Q => j_Tr false τ M_cX12_fillRows d 25 [some (.ref 75), some (.int l1), some (.int l2), some (.int l3), none, none, none, none, none] [.long r, .int l3, .ref 91] σ Q)) ?_ (fun v1 => ?_)
      · refine j_twoT (pT := 20) (pF := 24) (L1 := [some (.ref 75), some (.int l1), some (.int l2), some (.int l3), none, none, none, none, none]) (st1 := [.int l3, .ref 91]) (fun o kT kF => ?_) (fun h1 => ?_) (fun h1 => ?_)
        · refine j_ifne (t := 24) (pc' := 20) rfl rfl rfl (fun h2 => ?_) (fun h2 => ?_)
          · exact kF h2
          · exact kT h2
        · refine j_lconst (pc' := 21) (x := (1 : Int64)) rfl rfl rfl ?_
          refine j_goto (t := 25) rfl rfl ?_
          exact j_end (fun _ h => h)
        · refine j_lconst (pc' := 25) (x := (0 : Int64)) rfl rfl rfl ?_
          exact j_end (fun _ h => h)
      show j_J false τ M_cX12_fillRows d 25 [some (.ref 75), some (.int l1), some (.int l2), some (.int l3), none, none, none, none, none] [.long v1, .int l3, .ref 91] σ _ _
      refine j_last (pc' := 26) rfl rfl j_a91 (fun σ2 => ?_)
      refine j_iincx (pc' := 29) (y := (1 : Int32)) (L' := [some (.ref 75), some (.int l1), some (.int l2), some (.int (l3 + (1 : Int32))), none, none, none, none, none]) rfl rfl rfl rfl rfl ?_
      refine j_goto (t := 2) rfl rfl ?_
      exact ih (l3 + (1 : Int32)) σ2
    · refine j_wk [true, true, true, false, true, true, true, true, true] (L' := [some (.ref 75), some (.int l1), some (.int l2), none, none, none, none, none, none]) rfl ?_
      exact j_end (fun _ h => h)

theorem l_X12_fillRows_42 {d : Nat} (hd : 2 ≤ d) (τ : j_G) (l1 : Int32) (l2 : Int32) (l3 : Int32) : ∀ (n : Nat) (l4 : Int32) (σ : j_G), j_J false τ M_cX12_fillRows d 42 [some (.ref 75), some (.int l1), some (.int l2), some (.int l3), some (.int l4), none, none, none, none] [] σ (p_X12_fillRows_42 l1 l2 l3 n l4 σ) (fun r Q => j_Tr false τ M_cX12_fillRows d 80 [some (.ref 75), some (.int l1), some (.int l2), some (.int l3), none, none, none, none, none] [] r Q) := by
  intro n
  induction n with
  | zero => intro l4 σ; exact j_none
  | succ n ih =>
    intro l4 σ
    unfold p_X12_fillRows_42
    refine j_iload (pc' := 44) rfl rfl rfl ?_
    refine j_aload_n (pc' := 45) rfl rfl rfl ?_
    refine j_gfr (pc' := 48) (x := 91) rfl rfl j_a75 rfl rfl ?_
    refine j_alen (pc' := 49) (v := (169 : Int32)) rfl rfl j_a91 rfl ?_
    refine j_two (pT := 52) (pF := 80) (L1 := [some (.ref 75), some (.int l1), some (.int l2), some (.int l3), some (.int l4), none, none, none, none]) (st1 := []) (fun o kT kF => ?_) (fun h1 => ?_) (fun h1 => ?_)
    · refine j_icge (t := 80) (pc' := 52) rfl rfl rfl (fun h2 => ?_) (fun h2 => ?_)
      · exact kF h2
      · exact kT h2
    · refine j_aload_n (pc' := 53) rfl rfl rfl ?_
      refine j_gfr (pc' := 56) (x := 92) rfl rfl j_a75 rfl rfl ?_
      refine j_iload (pc' := 58) rfl rfl rfl ?_
      refine j_aload_n (pc' := 59) rfl rfl rfl ?_
      refine j_gfr (pc' := 62) (x := 91) rfl rfl j_a75 rfl rfl ?_
      refine j_iload (pc' := 64) rfl rfl rfl ?_
      refine j_lald (pc' := 65) rfl rfl j_a91 ?_
      refine j_last (pc' := 66) rfl rfl j_a92 (fun σ1 => ?_)
      refine j_aload_n (pc' := 67) rfl rfl rfl ?_
      refine j_gfr (pc' := 70) (x := 91) rfl rfl j_a75 rfl rfl ?_
      refine j_iload (pc' := 72) rfl rfl rfl ?_
      refine j_lconst (pc' := 73) (x := (0 : Int64)) rfl rfl rfl ?_
      refine j_last (pc' := 74) rfl rfl j_a91 (fun σ2 => ?_)
      refine j_iincx (pc' := 77) (y := (1 : Int32)) (L' := [some (.ref 75), some (.int l1), some (.int l2), some (.int l3), some (.int (l4 + (1 : Int32))), none, none, none, none]) rfl rfl rfl rfl rfl ?_
      refine j_goto (t := 42) rfl rfl ?_
      exact ih (l4 + (1 : Int32)) σ2
    · refine j_wk [true, true, true, true, false, true, true, true, true] (L' := [some (.ref 75), some (.int l1), some (.int l2), some (.int l3), none, none, none, none, none]) rfl ?_
      exact j_end (fun _ h => h)

theorem l_X12_fillRows_136 {d : Nat} (hd : 2 ≤ d) (τ : j_G) (l1 : Int32) (l2 : Int32) (l3 : Int32) (l4 : Int32) (l5 : Int32) (l6 : Int64) : ∀ (n : Nat) (l8 : Int32) (σ : j_G), j_J false τ M_cX12_fillRows d 136 [some (.ref 75), some (.int l1), some (.int l2), some (.int l3), some (.int l4), some (.int l5), some (.long l6), none, some (.int l8)] [] σ (p_X12_fillRows_136 l1 l2 l3 l4 l5 l6 n l8 σ) (fun r Q => j_Tr false τ M_cX12_fillRows d 187 [some (.ref 75), some (.int l1), some (.int l2), some (.int l3), some (.int l4), some (.int l5), none, none, none] [] r Q) := by
  intro n
  induction n with
  | zero => intro l8 σ; exact j_none
  | succ n ih =>
    intro l8 σ
    unfold p_X12_fillRows_136
    refine j_iload (pc' := 138) rfl rfl rfl ?_
    refine j_aload_n (pc' := 139) rfl rfl rfl ?_
    refine j_callPi (pc' := 142) (ai := 200) (vs := [.ref 75]) (rest := [.int l8]) rfl rfl (fun _ _ => rfl) (c_X12_holes  σ) (j_dd rfl hd) rfl (fun v1 => ?_)
    refine j_two (pT := 145) (pF := 187) (L1 := [some (.ref 75), some (.int l1), some (.int l2), some (.int l3), some (.int l4), some (.int l5), some (.long l6), none, some (.int l8)]) (st1 := []) (fun o kT kF => ?_) (fun h3 => ?_) (fun h3 => ?_)
    · refine j_icge (t := 187) (pc' := 145) rfl rfl rfl (fun h4 => ?_) (fun h4 => ?_)
      · exact kF h4
      · exact kT h4
    · refine j_aload_n (pc' := 146) rfl rfl rfl ?_
      refine j_iload_n (pc' := 147) rfl rfl rfl ?_
      refine j_iload (pc' := 149) rfl rfl rfl ?_
      refine j_iload (pc' := 151) rfl rfl rfl ?_
      refine j_iload (pc' := 153) rfl rfl rfl ?_
      refine j_callPi (pc' := 156) (ai := 290) (vs := [.ref 75, .int l1, .int l8, .int l4, .int l5]) (rest := []) rfl rfl (fun _ _ => rfl) (c_X12_lets l1 l8 l4 l5 σ) (j_dd rfl hd) rfl (fun v2 => ?_)
      refine j_q1 (Φl := (fun r Q => j_Tr false τ M_cX12_fillRows d 181 [some (.ref 75), some (.int l1), some (.int l2), some (.int l3), some (.int l4), some (.int l5), some (.long l6), none, some (.int l8)] [] r Q)) ?_ (fun σ3 => ?_)
      · refine j_two (pT := 159) (pF := 181) (L1 := [some (.ref 75), some (.int l1), some (.int l2), some (.int l3), some (.int l4), some (.int l5), some (.long l6), none, some (.int l8)]) (st1 := []) (fun o kT kF => ?_) (fun h1 => ?_) (fun h1 => ?_)
        · refine j_ifeq (t := 181) (pc' := 159) rfl rfl rfl (fun h2 => ?_) (fun h2 => ?_)
          · exact kF (fun z => z h2)
          · exact kT h2
        · refine j_aload_n (pc' := 160) rfl rfl rfl ?_
          refine j_gfr (pc' := 163) (x := 91) rfl rfl j_a75 rfl rfl ?_
          refine j_bipush (pc' := 165) (x := (13 : Int32)) rfl rfl rfl ?_
          refine j_iload (pc' := 167) rfl rfl rfl ?_
          refine j_iconst (pc' := 168) (x := (1 : Int32)) rfl rfl rfl ?_
          refine j_iadd (pc' := 169) rfl rfl ?_
          refine j_imul (pc' := 170) rfl rfl ?_
          refine j_iload (pc' := 172) rfl rfl rfl ?_
          refine j_iadd (pc' := 173) rfl rfl ?_
          refine j_iconst (pc' := 174) (x := (1 : Int32)) rfl rfl rfl ?_
          refine j_iadd (pc' := 175) rfl rfl ?_
          refine j_dup2 (pc' := 176) rfl rfl rfl rfl ?_
          refine j_lald (pc' := 177) rfl rfl j_a91 ?_
          refine j_lload (pc' := 179) rfl rfl rfl ?_
          refine j_ladd (pc' := 180) rfl rfl ?_
          refine j_last (pc' := 181) rfl rfl j_a91 (fun σ4 => ?_)
          exact j_end (fun _ h => h)
        · exact j_end (fun _ h => h)
      show j_J false τ M_cX12_fillRows d 181 [some (.ref 75), some (.int l1), some (.int l2), some (.int l3), some (.int l4), some (.int l5), some (.long l6), none, some (.int l8)] [] σ3 _ _
      refine j_iincx (pc' := 184) (y := (1 : Int32)) (L' := [some (.ref 75), some (.int l1), some (.int l2), some (.int l3), some (.int l4), some (.int l5), some (.long l6), none, some (.int (l8 + (1 : Int32)))]) rfl rfl rfl rfl rfl ?_
      refine j_goto (t := 136) rfl rfl ?_
      exact ih (l8 + (1 : Int32)) σ3
    · refine j_wk [true, true, true, true, true, true, false, true, false] (L' := [some (.ref 75), some (.int l1), some (.int l2), some (.int l3), some (.int l4), some (.int l5), none, none, none]) rfl ?_
      exact j_end (fun _ h => h)

theorem l_X12_fillRows_95 {d : Nat} (hd : 2 ≤ d) (τ : j_G) (l1 : Int32) (l2 : Int32) (l3 : Int32) (l4 : Int32) : ∀ (n : Nat) (l5 : Int32) (σ : j_G), j_J false τ M_cX12_fillRows d 95 [some (.ref 75), some (.int l1), some (.int l2), some (.int l3), some (.int l4), some (.int l5), none, none, none] [] σ (p_X12_fillRows_95 l1 l2 l3 l4 n l5 σ) (fun r Q => j_Tr false τ M_cX12_fillRows d 193 [some (.ref 75), some (.int l1), some (.int l2), some (.int l3), some (.int l4), none, none, none, none] [] r Q) := by
  intro n
  induction n with
  | zero => intro l5 σ; exact j_none
  | succ n ih =>
    intro l5 σ
    unfold p_X12_fillRows_95
    refine j_iload (pc' := 97) rfl rfl rfl ?_
    refine j_aload_n (pc' := 98) rfl rfl rfl ?_
    refine j_callPi (pc' := 101) (ai := 200) (vs := [.ref 75]) (rest := [.int l5]) rfl rfl (fun _ _ => rfl) (c_X12_holes  σ) (j_dd rfl hd) rfl (fun v1 => ?_)
    refine j_two (pT := 104) (pF := 193) (L1 := [some (.ref 75), some (.int l1), some (.int l2), some (.int l3), some (.int l4), some (.int l5), none, none, none]) (st1 := []) (fun o kT kF => ?_) (fun h3 => ?_) (fun h3 => ?_)
    · refine j_icge (t := 193) (pc' := 104) rfl rfl rfl (fun h4 => ?_) (fun h4 => ?_)
      · exact kF h4
      · exact kT h4
    · refine j_aload_n (pc' := 105) rfl rfl rfl ?_
      refine j_gfr (pc' := 108) (x := 92) rfl rfl j_a75 rfl rfl ?_
      refine j_bipush (pc' := 110) (x := (13 : Int32)) rfl rfl rfl ?_
      refine j_iload (pc' := 112) rfl rfl rfl ?_
      refine j_iconst (pc' := 113) (x := (1 : Int32)) rfl rfl rfl ?_
      refine j_iadd (pc' := 114) rfl rfl ?_
      refine j_imul (pc' := 115) rfl rfl ?_
      refine j_iload (pc' := 117) rfl rfl rfl ?_
      refine j_iadd (pc' := 118) rfl rfl ?_
      refine j_iconst (pc' := 119) (x := (1 : Int32)) rfl rfl rfl ?_
      refine j_iadd (pc' := 120) rfl rfl ?_
      refine j_lald (pc' := 121) rfl rfl j_a92 ?_
      refine j_letl (fun v2 => ?_)
      refine j_lstore (pc' := 123) (L' := [some (.ref 75), some (.int l1), some (.int l2), some (.int l3), some (.int l4), some (.int l5), some (.long v2), none, none]) rfl rfl rfl ?_
      refine j_lload (pc' := 125) rfl rfl rfl ?_
      refine j_lconst (pc' := 126) (x := (0 : Int64)) rfl rfl rfl ?_
      refine j_lcmp (pc' := 127) rfl rfl ?_
      refine j_q1 (Φl := (fun r Q => j_Tr false τ M_cX12_fillRows d 187 [some (.ref 75), some (.int l1), some (.int l2), some (.int l3), some (.int l4), some (.int l5), none, none, none] [] r Q)) ?_ (fun σ3 => ?_)
      · refine j_two (pT := 130) (pF := 133) (L1 := [some (.ref 75), some (.int l1), some (.int l2), some (.int l3), some (.int l4), some (.int l5), some (.long v2), none, none]) (st1 := []) (fun o kT kF => ?_) (fun h1 => ?_) (fun h1 => ?_)
        · refine j_ifneL (t := 133) (pc' := 130) rfl rfl rfl (fun h2 => ?_) (fun h2 => ?_)
          · exact kF h2
          · exact kT h2
        · refine j_goto (t := 187) rfl rfl ?_
          refine j_wk [true, true, true, true, true, true, false, true, true] (L' := [some (.ref 75), some (.int l1), some (.int l2), some (.int l3), some (.int l4), some (.int l5), none, none, none]) rfl ?_
          exact j_end (fun _ h => h)
        · refine j_iconst (pc' := 134) (x := (0 : Int32)) rfl rfl rfl ?_
          refine j_istore (pc' := 136) (L' := [some (.ref 75), some (.int l1), some (.int l2), some (.int l3), some (.int l4), some (.int l5), some (.long v2), none, some (.int (0 : Int32))]) rfl rfl rfl ?_
          refine j_q1 (l_X12_fillRows_136 hd τ l1 l2 l3 l4 l5 v2 j_F (0 : Int32) σ) (fun σ4 => ?_)
          show j_J false τ M_cX12_fillRows d 187 [some (.ref 75), some (.int l1), some (.int l2), some (.int l3), some (.int l4), some (.int l5), none, none, none] [] σ4 _ _
          exact j_end (fun _ h => h)
      show j_J false τ M_cX12_fillRows d 187 [some (.ref 75), some (.int l1), some (.int l2), some (.int l3), some (.int l4), some (.int l5), none, none, none] [] σ3 _ _
      refine j_iincx (pc' := 190) (y := (1 : Int32)) (L' := [some (.ref 75), some (.int l1), some (.int l2), some (.int l3), some (.int l4), some (.int (l5 + (1 : Int32))), none, none, none]) rfl rfl rfl rfl rfl ?_
      refine j_goto (t := 95) rfl rfl ?_
      exact ih (l5 + (1 : Int32)) σ3
    · refine j_wk [true, true, true, true, true, false, true, true, true] (L' := [some (.ref 75), some (.int l1), some (.int l2), some (.int l3), some (.int l4), none, none, none, none]) rfl ?_
      exact j_end (fun _ h => h)

theorem l_X12_fillRows_83 {d : Nat} (hd : 2 ≤ d) (τ : j_G) (l1 : Int32) (l2 : Int32) (l3 : Int32) : ∀ (n : Nat) (l4 : Int32) (σ : j_G), j_J false τ M_cX12_fillRows d 83 [some (.ref 75), some (.int l1), some (.int l2), some (.int l3), some (.int l4), none, none, none, none] [] σ (p_X12_fillRows_83 l1 l2 l3 n l4 σ) (fun r Q => j_Tr false τ M_cX12_fillRows d 199 [some (.ref 75), some (.int l1), some (.int l2), some (.int l3), none, none, none, none, none] [] r Q) := by
  intro n
  induction n with
  | zero => intro l4 σ; exact j_none
  | succ n ih =>
    intro l4 σ
    unfold p_X12_fillRows_83
    refine j_iload (pc' := 85) rfl rfl rfl ?_
    refine j_aload_n (pc' := 86) rfl rfl rfl ?_
    refine j_callPi (pc' := 89) (ai := 200) (vs := [.ref 75]) (rest := [.int l4]) rfl rfl (fun _ _ => rfl) (c_X12_holes  σ) (j_dd rfl hd) rfl (fun v1 => ?_)
    refine j_two (pT := 92) (pF := 199) (L1 := [some (.ref 75), some (.int l1), some (.int l2), some (.int l3), some (.int l4), none, none, none, none]) (st1 := []) (fun o kT kF => ?_) (fun h1 => ?_) (fun h1 => ?_)
    · refine j_icge (t := 199) (pc' := 92) rfl rfl rfl (fun h2 => ?_) (fun h2 => ?_)
      · exact kF h2
      · exact kT h2
    · refine j_iconst (pc' := 93) (x := (-1 : Int32)) rfl rfl rfl ?_
      refine j_istore (pc' := 95) (L' := [some (.ref 75), some (.int l1), some (.int l2), some (.int l3), some (.int l4), some (.int (-1 : Int32)), none, none, none]) rfl rfl rfl ?_
      refine j_q1 (l_X12_fillRows_95 hd τ l1 l2 l3 l4 j_F (-1 : Int32) σ) (fun σ2 => ?_)
      show j_J false τ M_cX12_fillRows d 193 [some (.ref 75), some (.int l1), some (.int l2), some (.int l3), some (.int l4), none, none, none, none] [] σ2 _ _
      refine j_iincx (pc' := 196) (y := (1 : Int32)) (L' := [some (.ref 75), some (.int l1), some (.int l2), some (.int l3), some (.int (l4 + (1 : Int32))), none, none, none, none]) rfl rfl rfl rfl rfl ?_
      refine j_goto (t := 83) rfl rfl ?_
      exact ih (l4 + (1 : Int32)) σ2
    · refine j_wk [true, true, true, true, false, true, true, true, true] (L' := [some (.ref 75), some (.int l1), some (.int l2), some (.int l3), none, none, none, none, none]) rfl ?_
      exact j_end (fun _ h => h)

theorem l_X12_fillRows_34 {d : Nat} (hd : 2 ≤ d) (τ : j_G) (l1 : Int32) (l2 : Int32) : ∀ (n : Nat) (l3 : Int32) (σ : j_G), j_J false τ M_cX12_fillRows d 34 [some (.ref 75), some (.int l1), some (.int l2), some (.int l3), none, none, none, none, none] [] σ (p_X12_fillRows_34 l1 l2 n l3 σ) (fun r Q => j_Tr false τ M_cX12_fillRows d 205 [none, none, none, none, none, none, none, none, none] [] r Q) := by
  intro n
  induction n with
  | zero => intro l3 σ; exact j_none
  | succ n ih =>
    intro l3 σ
    unfold p_X12_fillRows_34
    refine j_iload_n (pc' := 35) rfl rfl rfl ?_
    refine j_iload_n (pc' := 36) rfl rfl rfl ?_
    refine j_two (pT := 39) (pF := 205) (L1 := [some (.ref 75), some (.int l1), some (.int l2), some (.int l3), none, none, none, none, none]) (st1 := []) (fun o kT kF => ?_) (fun h1 => ?_) (fun h1 => ?_)
    · refine j_icge (t := 205) (pc' := 39) rfl rfl rfl (fun h2 => ?_) (fun h2 => ?_)
      · exact kF h2
      · exact kT h2
    · refine j_iconst (pc' := 40) (x := (0 : Int32)) rfl rfl rfl ?_
      refine j_istore (pc' := 42) (L' := [some (.ref 75), some (.int l1), some (.int l2), some (.int l3), some (.int (0 : Int32)), none, none, none, none]) rfl rfl rfl ?_
      refine j_q1 (l_X12_fillRows_42 hd τ l1 l2 l3 j_F (0 : Int32) σ) (fun σ1 => ?_)
      show j_J false τ M_cX12_fillRows d 80 [some (.ref 75), some (.int l1), some (.int l2), some (.int l3), none, none, none, none, none] [] σ1 _ _
      refine j_iconst (pc' := 81) (x := (-1 : Int32)) rfl rfl rfl ?_
      refine j_istore (pc' := 83) (L' := [some (.ref 75), some (.int l1), some (.int l2), some (.int l3), some (.int (-1 : Int32)), none, none, none, none]) rfl rfl rfl ?_
      refine j_q1 (l_X12_fillRows_83 hd τ l1 l2 l3 j_F (-1 : Int32) σ1) (fun σ2 => ?_)
      show j_J false τ M_cX12_fillRows d 199 [some (.ref 75), some (.int l1), some (.int l2), some (.int l3), none, none, none, none, none] [] σ2 _ _
      refine j_iincx (pc' := 202) (y := (1 : Int32)) (L' := [some (.ref 75), some (.int l1), some (.int l2), some (.int (l3 + (1 : Int32))), none, none, none, none, none]) rfl rfl rfl rfl rfl ?_
      refine j_goto (t := 34) rfl rfl ?_
      exact ih (l3 + (1 : Int32)) σ2
    · refine j_wk [false, false, false, false, true, true, true, true, true] (L' := [none, none, none, none, none, none, none, none, none]) rfl ?_
      exact j_end (fun _ h => h)

theorem c_X12_fillRows (l1 : Int32) (l2 : Int32) (σ : j_G) : j_K false 2 291 [.ref 75, .int l1, .int l2] σ (f_X12_fillRows l1 l2 σ) j_Rv := by
  refine j_mkK (M := M_cX12_fillRows) (L := [some (.ref 75), some (.int l1), some (.int l2), none, none, none, none, none, none]) (m := 6) t_291 rfl (j_rcvO j_a75 rfl) rfl (fun d hd τ => ?_)
  unfold f_X12_fillRows
  refine j_iconst (pc' := 1) (x := (0 : Int32)) rfl rfl rfl ?_
  refine j_istore_n (pc' := 2) (L' := [some (.ref 75), some (.int l1), some (.int l2), some (.int (0 : Int32)), none, none, none, none, none]) rfl rfl rfl ?_
  refine j_q1 (l_X12_fillRows_2 hd τ l1 l2 j_F (0 : Int32) σ) (fun σ1 => ?_)
  show j_J false τ M_cX12_fillRows d 32 [some (.ref 75), some (.int l1), some (.int l2), none, none, none, none, none, none] [] σ1 _ _
  refine j_iconst (pc' := 33) (x := (0 : Int32)) rfl rfl rfl ?_
  refine j_istore_n (pc' := 34) (L' := [some (.ref 75), some (.int l1), some (.int l2), some (.int (0 : Int32)), none, none, none, none, none]) rfl rfl rfl ?_
  refine j_q1 (l_X12_fillRows_34 hd τ l1 l2 j_F (0 : Int32) σ1) (fun σ2 => ?_)
  show j_J false τ M_cX12_fillRows d 205 [none, none, none, none, none, none, none, none, none] [] σ2 _ _
  exact j_ret rfl rfl rfl (fun _ h => h)

noncomputable def p_X12_endingIn_5 (l1 : Int32) (σ : j_G) : Nat → Int64 → Int32 → Option Int64
  | 0, _, _ => none
  | n + 1, l2, l4 =>
    if l4 < (13 : Int32) then (j_ix (((13 : Int32) * (l1 + (1 : Int32))) + l4) 169 (
    j_lt (l2 + (σ.2 91 ((((13 : Int32) * (l1 + (1 : Int32))) + l4)).toNatClampNeg)) fun v1 =>
    p_X12_endingIn_5 l1 σ n v1 (l4 + (1 : Int32)))) else (some l2)

noncomputable def f_X12_endingIn (l1 : Int32) (σ : j_G) : Option Int64 :=
  j_b1 (p_X12_endingIn_5 l1 σ j_F (0 : Int64) (0 : Int32)) fun v1 =>
  some v1
theorem l_X12_endingIn_5 {d : Nat} (hd : 0 ≤ d) (τ : j_G) (l1 : Int32) (σ : j_G) : ∀ (n : Nat) (l2 : Int64) (l4 : Int32), j_J false τ M_cX12_endingIn d 5 [some (.ref 75), some (.int l1), some (.long l2), none, some (.int l4)] [] σ (p_X12_endingIn_5 l1 σ n l2 l4) (fun r Q => j_Tr false τ M_cX12_endingIn d 35 [none, none, some (.long r), none, none] [] σ Q) := by
  intro n
  induction n with
  | zero => intro l2 l4; exact j_none
  | succ n ih =>
    intro l2 l4
    unfold p_X12_endingIn_5
    refine j_iload (pc' := 7) rfl rfl rfl ?_
    refine j_bipush (pc' := 9) (x := (13 : Int32)) rfl rfl rfl ?_
    refine j_two (pT := 12) (pF := 35) (L1 := [some (.ref 75), some (.int l1), some (.long l2), none, some (.int l4)]) (st1 := []) (fun o kT kF => ?_) (fun h1 => ?_) (fun h1 => ?_)
    · refine j_icge (t := 35) (pc' := 12) rfl rfl rfl (fun h2 => ?_) (fun h2 => ?_)
      · exact kF h2
      · exact kT h2
    · refine j_lload_n (pc' := 13) rfl rfl rfl ?_
      refine j_aload_n (pc' := 14) rfl rfl rfl ?_
      refine j_gfr (pc' := 17) (x := 91) rfl rfl j_a75 rfl rfl ?_
      refine j_bipush (pc' := 19) (x := (13 : Int32)) rfl rfl rfl ?_
      refine j_iload_n (pc' := 20) rfl rfl rfl ?_
      refine j_iconst (pc' := 21) (x := (1 : Int32)) rfl rfl rfl ?_
      refine j_iadd (pc' := 22) rfl rfl ?_
      refine j_imul (pc' := 23) rfl rfl ?_
      refine j_iload (pc' := 25) rfl rfl rfl ?_
      refine j_iadd (pc' := 26) rfl rfl ?_
      refine j_lald (pc' := 27) rfl rfl j_a91 ?_
      refine j_ladd (pc' := 28) rfl rfl ?_
      refine j_letl (fun v1 => ?_)
      refine j_lstore_n (pc' := 29) (L' := [some (.ref 75), some (.int l1), some (.long v1), none, some (.int l4)]) rfl rfl rfl ?_
      refine j_iincx (pc' := 32) (y := (1 : Int32)) (L' := [some (.ref 75), some (.int l1), some (.long v1), none, some (.int (l4 + (1 : Int32)))]) rfl rfl rfl rfl rfl ?_
      refine j_goto (t := 5) rfl rfl ?_
      exact ih v1 (l4 + (1 : Int32))
    · refine j_wk [false, false, true, true, false] (L' := [none, none, some (.long l2), none, none]) rfl ?_
      exact j_end (fun _ h => h)

theorem c_X12_endingIn (l1 : Int32) (σ : j_G) : j_K false 0 292 [.ref 75, .int l1] σ (f_X12_endingIn l1 σ) (j_Pl σ) := by
  refine j_mkK (M := M_cX12_endingIn) (L := [some (.ref 75), some (.int l1), none, none, none]) (m := 3) t_292 rfl (j_rcvO j_a75 rfl) rfl (fun d hd τ => ?_)
  unfold f_X12_endingIn
  refine j_lconst (pc' := 1) (x := (0 : Int64)) rfl rfl rfl ?_
  refine j_lstore_n (pc' := 2) (L' := [some (.ref 75), some (.int l1), some (.long (0 : Int64)), none, none]) rfl rfl rfl ?_
  refine j_iconst (pc' := 3) (x := (0 : Int32)) rfl rfl rfl ?_
  refine j_istore (pc' := 5) (L' := [some (.ref 75), some (.int l1), some (.long (0 : Int64)), none, some (.int (0 : Int32))]) rfl rfl rfl ?_
  refine j_q1 (l_X12_endingIn_5 hd τ l1 σ j_F (0 : Int64) (0 : Int32)) (fun v1 => ?_)
  show j_J false τ M_cX12_endingIn d 35 [none, none, some (.long v1), none, none] [] σ _ _
  refine j_lload_n (pc' := 36) rfl rfl rfl ?_
  exact j_ret rfl rfl rfl (fun _ h => h)

noncomputable def p_X12_rows_41 (σ : j_G) : Nat → Int64 → Int32 → Option Int64
  | 0, _, _ => none
  | n + 1, l3, l5 =>
    j_b1 (f_X12_holes σ) fun v1 =>
    if l5 < v1 then (j_b1 (f_X12_endingIn l5 σ) fun v2 =>
    j_lt (l3 + v2) fun v3 =>
    p_X12_rows_41 σ n v3 (l5 + (1 : Int32))) else (some l3)

noncomputable def f_X12_rows (l1 : Int32) (l2 : Int32) (σ : j_G) : Option (Int64 × j_G) :=
  j_b1 (f_X12_isBoard σ) fun v1 =>
  if (v1 = 0) ∨ (((f_X12_isLaw l1) = 0) ∨ ((f_X12_in (l2).toInt64 (1 : Int64) (12 : Int64)) = 0)) then (some ((-2 : Int64), σ)) else (j_b1 (f_X12_fillRows l1 l2 σ) fun σ2 =>
  j_b1 (p_X12_rows_41 σ2 j_F (0 : Int64) (0 : Int32)) fun v3 =>
  some (v3, σ2))
theorem l_X12_rows_41 {d : Nat} (hd : 3 ≤ d) (τ : j_G) (σ : j_G) : ∀ (n : Nat) (l3 : Int64) (l5 : Int32), j_J false τ M_cX12_rows d 41 [some (.ref 75), none, none, some (.long l3), none, some (.int l5)] [] σ (p_X12_rows_41 σ n l3 l5) (fun r Q => j_Tr false τ M_cX12_rows d 65 [none, none, none, some (.long r), none, none] [] σ Q) := by
  intro n
  induction n with
  | zero => intro l3 l5; exact j_none
  | succ n ih =>
    intro l3 l5
    unfold p_X12_rows_41
    refine j_iload (pc' := 43) rfl rfl rfl ?_
    refine j_aload_n (pc' := 44) rfl rfl rfl ?_
    refine j_callPi (pc' := 47) (ai := 200) (vs := [.ref 75]) (rest := [.int l5]) rfl rfl (fun _ _ => rfl) (c_X12_holes  σ) (j_dd rfl hd) rfl (fun v1 => ?_)
    refine j_two (pT := 50) (pF := 65) (L1 := [some (.ref 75), none, none, some (.long l3), none, some (.int l5)]) (st1 := []) (fun o kT kF => ?_) (fun h1 => ?_) (fun h1 => ?_)
    · refine j_icge (t := 65) (pc' := 50) rfl rfl rfl (fun h2 => ?_) (fun h2 => ?_)
      · exact kF h2
      · exact kT h2
    · refine j_lload_n (pc' := 51) rfl rfl rfl ?_
      refine j_aload_n (pc' := 52) rfl rfl rfl ?_
      refine j_iload (pc' := 54) rfl rfl rfl ?_
      refine j_callPl (pc' := 57) (ai := 292) (vs := [.ref 75, .int l5]) (rest := [.long l3]) rfl rfl (fun _ _ => rfl) (c_X12_endingIn l5 σ) (j_dd rfl hd) rfl (fun v2 => ?_)
      refine j_ladd (pc' := 58) rfl rfl ?_
      refine j_letl (fun v3 => ?_)
      refine j_lstore_n (pc' := 59) (L' := [some (.ref 75), none, none, some (.long v3), none, some (.int l5)]) rfl rfl rfl ?_
      refine j_iincx (pc' := 62) (y := (1 : Int32)) (L' := [some (.ref 75), none, none, some (.long v3), none, some (.int (l5 + (1 : Int32)))]) rfl rfl rfl rfl rfl ?_
      refine j_goto (t := 41) rfl rfl ?_
      exact ih v3 (l5 + (1 : Int32))
    · refine j_wk [false, true, true, true, true, false] (L' := [none, none, none, some (.long l3), none, none]) rfl ?_
      exact j_end (fun _ h => h)

theorem c_X12_rows (l1 : Int32) (l2 : Int32) (σ : j_G) : j_K false 3 293 [.ref 75, .int l1, .int l2] σ (f_X12_rows l1 l2 σ) j_Rl := by
  refine j_mkK (M := M_cX12_rows) (L := [some (.ref 75), some (.int l1), some (.int l2), none, none, none]) (m := 3) t_293 rfl (j_rcvO j_a75 rfl) rfl (fun d hd τ => ?_)
  unfold f_X12_rows
  refine j_aload_n (pc' := 1) rfl rfl rfl ?_
  refine j_callPi (pc' := 4) (ai := 199) (vs := [.ref 75]) (rest := []) rfl rfl (fun _ _ => rfl) (c_X12_isBoard  σ) (j_dd rfl hd) rfl (fun v1 => ?_)
  refine j_two (pT := 26) (pF := 30) (L1 := [some (.ref 75), some (.int l1), some (.int l2), none, none, none]) (st1 := []) (fun o kT kF => ?_) (fun h1 => ?_) (fun h1 => ?_)
  · refine j_ifeq (t := 26) (pc' := 7) rfl rfl rfl (fun h2 => ?_) (fun h2 => ?_)
    · exact kT (Or.inl h2)
    · refine j_iload_n (pc' := 8) rfl rfl rfl ?_
      refine j_callTi (pc' := 11) (ai := 289) (vs := [.int l1]) (rest := []) rfl rfl (fun _ _ => rfl) (c_X12_isLaw l1 σ) (j_dd rfl hd) rfl ?_
      refine j_ifeq (t := 26) (pc' := 14) rfl rfl rfl (fun h3 => ?_) (fun h3 => ?_)
      · exact kT (Or.inr (Or.inl h3))
      · refine j_iload_n (pc' := 15) rfl rfl rfl ?_
        refine j_i2l (pc' := 16) rfl rfl ?_
        refine j_lconst (pc' := 17) (x := (1 : Int64)) rfl rfl rfl ?_
        refine j_ldc2_w (pc' := 20) (x := (12 : Int64)) rfl rfl rfl ?_
        refine j_callTi (pc' := 23) (ai := 196) (vs := [.long (l2).toInt64, .long (1 : Int64), .long (12 : Int64)]) (rest := []) rfl rfl (fun _ _ => rfl) (c_X12_in (l2).toInt64 (1 : Int64) (12 : Int64) σ) (j_dd rfl hd) rfl ?_
        refine j_ifne (t := 30) (pc' := 26) rfl rfl rfl (fun h4 => ?_) (fun h4 => ?_)
        · exact kF (fun z => z.elim h2 (fun z => z.elim h3 (h4)))
        · exact kT (Or.inr (Or.inr (h4)))
  · refine j_ldc2_w (pc' := 29) (x := (-2 : Int64)) rfl rfl rfl ?_
    exact j_ret rfl rfl rfl (fun _ h => h)
  · refine j_aload_n (pc' := 31) rfl rfl rfl ?_
    refine j_iload_n (pc' := 32) rfl rfl rfl ?_
    refine j_iload_n (pc' := 33) rfl rfl rfl ?_
    refine j_callRv (pc' := 36) (ai := 291) (vs := [.ref 75, .int l1, .int l2]) (rest := []) rfl rfl (fun _ _ => rfl) (c_X12_fillRows l1 l2 σ) (j_dd rfl hd) rfl (fun σ2 => ?_)
    refine j_lconst (pc' := 37) (x := (0 : Int64)) rfl rfl rfl ?_
    refine j_lstore_n (pc' := 38) (L' := [some (.ref 75), some (.int l1), some (.int l2), some (.long (0 : Int64)), none, none]) rfl rfl rfl ?_
    refine j_iconst (pc' := 39) (x := (0 : Int32)) rfl rfl rfl ?_
    refine j_istore (pc' := 41) (L' := [some (.ref 75), some (.int l1), some (.int l2), some (.long (0 : Int64)), none, some (.int (0 : Int32))]) rfl rfl rfl ?_
    refine j_wk [true, false, false, true, true, true] (L' := [some (.ref 75), none, none, some (.long (0 : Int64)), none, some (.int (0 : Int32))]) rfl ?_
    refine j_q1 (l_X12_rows_41 hd τ σ2 j_F (0 : Int64) (0 : Int32)) (fun v3 => ?_)
    show j_J false τ M_cX12_rows d 65 [none, none, none, some (.long v3), none, none] [] σ2 _ _
    refine j_lload_n (pc' := 66) rfl rfl rfl ?_
    exact j_ret rfl rfl rfl (fun _ h => h)

noncomputable def f_X11_ends (l1 : Int32) (l2 : Int32) (l3 : Int32) (σ : j_G) : Option (Int64 × j_G) :=
  if ¬ (f_X2_isHole 1 l3 σ) = 0 then (j_b2 (f_X11_countLots l1 l2 σ) fun v2 σ1 =>
  if ¬ v2 = 0 then (j_b1 (f_X5_rowsTo l3 σ1) fun v3 =>
  some (v3, σ1)) else (some ((-2 : Int64), σ1))) else (some ((-2 : Int64), σ))
theorem c_X11_ends (l1 : Int32) (l2 : Int32) (l3 : Int32) (σ : j_G) : j_K true 5 145 [.ref 0, .int l1, .int l2, .int l3] σ (f_X11_ends l1 l2 l3 σ) j_Rl := by
  refine j_mkK (M := M_cX11_ends) (L := [some (.ref 0), some (.int l1), some (.int l2), some (.int l3)]) (m := 0) t_145 rfl (j_rcvO j_a0 rfl) rfl (fun d hd τ => ?_)
  unfold f_X11_ends
  refine j_aload_n (pc' := 1) rfl rfl rfl ?_
  refine j_gfr (pc' := 4) (x := 1) rfl rfl j_a0 rfl rfl ?_
  refine j_iload_n (pc' := 5) rfl rfl rfl ?_
  refine j_callTi (pc' := 8) (ai := 13) (vs := [.ref 1, .int l3]) (rest := []) rfl rfl (fun _ _ => rfl) (c_X2_isHole_1 l3 σ) (j_dd rfl hd) rfl ?_
  refine j_two (pT := 11) (pF := 35) (L1 := [some (.ref 0), some (.int l1), some (.int l2), some (.int l3)]) (st1 := []) (fun o kT kF => ?_) (fun h3 => ?_) (fun h3 => ?_)
  · refine j_ifeq (t := 35) (pc' := 11) rfl rfl rfl (fun h4 => ?_) (fun h4 => ?_)
    · exact kF (fun z => z h4)
    · exact kT h4
  · refine j_aload_n (pc' := 12) rfl rfl rfl ?_
    refine j_iload_n (pc' := 13) rfl rfl rfl ?_
    refine j_iload_n (pc' := 14) rfl rfl rfl ?_
    refine j_callRi (pc' := 17) (ai := 192) (vs := [.ref 0, .int l1, .int l2]) (rest := []) rfl rfl (fun _ _ => rfl) (c_X11_countLots l1 l2 σ) (j_dd rfl hd) rfl (fun v2 σ1 => ?_)
    refine j_two (pT := 20) (pF := 35) (L1 := [some (.ref 0), some (.int l1), some (.int l2), some (.int l3)]) (st1 := []) (fun o kT kF => ?_) (fun h1 => ?_) (fun h1 => ?_)
    · refine j_ifeq (t := 35) (pc' := 20) rfl rfl rfl (fun h2 => ?_) (fun h2 => ?_)
      · exact kF (fun z => z h2)
      · exact kT h2
    · refine j_aload_n (pc' := 21) rfl rfl rfl ?_
      refine j_gfr (pc' := 24) (x := 37) rfl rfl j_a0 rfl rfl ?_
      refine j_aload_n (pc' := 25) rfl rfl rfl ?_
      refine j_gfr (pc' := 28) (x := 1) rfl rfl j_a0 rfl rfl ?_
      refine j_iload_n (pc' := 29) rfl rfl rfl ?_
      refine j_callPl (pc' := 32) (ai := 60) (vs := [.ref 37, .ref 1, .int l3]) (rest := []) rfl rfl (fun _ _ => rfl) (c_X5_rowsTo l3 σ1) (j_dd rfl hd) rfl (fun v3 => ?_)
      refine j_goto (t := 38) rfl rfl ?_
      exact j_ret rfl rfl rfl (fun _ h => h)
    · refine j_ldc2_w (pc' := 38) (x := (-2 : Int64)) rfl rfl rfl ?_
      exact j_ret rfl rfl rfl (fun _ h => h)
  · refine j_ldc2_w (pc' := 38) (x := (-2 : Int64)) rfl rfl rfl ?_
    exact j_ret rfl rfl rfl (fun _ h => h)

noncomputable def f_X12_ends (l1 : Int32) (l2 : Int32) (l3 : Int32) (σ : j_G) : Option (Int64 × j_G) :=
  j_b1 (f_X12_isHole (l3).toInt64 σ) fun v1 =>
  if (v1 = 0) ∨ (((f_X12_isLaw l1) = 0) ∨ ((f_X12_in (l2).toInt64 (1 : Int64) (12 : Int64)) = 0)) then (some ((-2 : Int64), σ)) else (j_b1 (f_X12_fillRows l1 l2 σ) fun σ2 =>
  j_b1 (f_X12_endingIn l3 σ2) fun v3 =>
  some (v3, σ2))
theorem c_X12_ends (l1 : Int32) (l2 : Int32) (l3 : Int32) (σ : j_G) : j_K false 3 294 [.ref 75, .int l1, .int l2, .int l3] σ (f_X12_ends l1 l2 l3 σ) j_Rl := by
  refine j_mkK (M := M_cX12_ends) (L := [some (.ref 75), some (.int l1), some (.int l2), some (.int l3)]) (m := 0) t_294 rfl (j_rcvO j_a75 rfl) rfl (fun d hd τ => ?_)
  unfold f_X12_ends
  refine j_aload_n (pc' := 1) rfl rfl rfl ?_
  refine j_iload_n (pc' := 2) rfl rfl rfl ?_
  refine j_i2l (pc' := 3) rfl rfl ?_
  refine j_callPi (pc' := 6) (ai := 201) (vs := [.ref 75, .long (l3).toInt64]) (rest := []) rfl rfl (fun _ _ => rfl) (c_X12_isHole (l3).toInt64 σ) (j_dd rfl hd) rfl (fun v1 => ?_)
  refine j_two (pT := 28) (pF := 32) (L1 := [some (.ref 75), some (.int l1), some (.int l2), some (.int l3)]) (st1 := []) (fun o kT kF => ?_) (fun h1 => ?_) (fun h1 => ?_)
  · refine j_ifeq (t := 28) (pc' := 9) rfl rfl rfl (fun h2 => ?_) (fun h2 => ?_)
    · exact kT (Or.inl h2)
    · refine j_iload_n (pc' := 10) rfl rfl rfl ?_
      refine j_callTi (pc' := 13) (ai := 289) (vs := [.int l1]) (rest := []) rfl rfl (fun _ _ => rfl) (c_X12_isLaw l1 σ) (j_dd rfl hd) rfl ?_
      refine j_ifeq (t := 28) (pc' := 16) rfl rfl rfl (fun h3 => ?_) (fun h3 => ?_)
      · exact kT (Or.inr (Or.inl h3))
      · refine j_iload_n (pc' := 17) rfl rfl rfl ?_
        refine j_i2l (pc' := 18) rfl rfl ?_
        refine j_lconst (pc' := 19) (x := (1 : Int64)) rfl rfl rfl ?_
        refine j_ldc2_w (pc' := 22) (x := (12 : Int64)) rfl rfl rfl ?_
        refine j_callTi (pc' := 25) (ai := 196) (vs := [.long (l2).toInt64, .long (1 : Int64), .long (12 : Int64)]) (rest := []) rfl rfl (fun _ _ => rfl) (c_X12_in (l2).toInt64 (1 : Int64) (12 : Int64) σ) (j_dd rfl hd) rfl ?_
        refine j_ifne (t := 32) (pc' := 28) rfl rfl rfl (fun h4 => ?_) (fun h4 => ?_)
        · exact kF (fun z => z.elim h2 (fun z => z.elim h3 (h4)))
        · exact kT (Or.inr (Or.inr (h4)))
  · refine j_ldc2_w (pc' := 31) (x := (-2 : Int64)) rfl rfl rfl ?_
    exact j_ret rfl rfl rfl (fun _ h => h)
  · refine j_aload_n (pc' := 33) rfl rfl rfl ?_
    refine j_iload_n (pc' := 34) rfl rfl rfl ?_
    refine j_iload_n (pc' := 35) rfl rfl rfl ?_
    refine j_callRv (pc' := 38) (ai := 291) (vs := [.ref 75, .int l1, .int l2]) (rest := []) rfl rfl (fun _ _ => rfl) (c_X12_fillRows l1 l2 σ) (j_dd rfl hd) rfl (fun σ2 => ?_)
    refine j_aload_n (pc' := 39) rfl rfl rfl ?_
    refine j_iload_n (pc' := 40) rfl rfl rfl ?_
    refine j_callPl (pc' := 43) (ai := 292) (vs := [.ref 75, .int l3]) (rest := []) rfl rfl (fun _ _ => rfl) (c_X12_endingIn l3 σ2) (j_dd rfl hd) rfl (fun v3 => ?_)
    exact j_ret rfl rfl rfl (fun _ h => h)

noncomputable def p_X5_isEven_7 (σ : j_G) : Nat → Int64 → Int32 → Option Int32
  | 0, _, _ => none
  | n + 1, l2, l4 =>
    if l4 < (f_X2_holes 1 σ) then (j_lt (fun (v3 : Int64) => (p_X5_isEven_7 σ n v3 (l4 + (1 : Int32)))) fun (k1 : Int64 → Option Int32) =>
    if (f_X2_isShut 1 l4 σ) = 0 then (j_b1 (f_X5_rowsTo l4 σ) fun v2 =>
    if (¬ l2 = (-1 : Int64)) ∧ (¬ v2 = l2) then (some (0 : Int32)) else (k1 v2)) else (k1 l2)) else (some (1 : Int32))

noncomputable def f_X5_isEven (σ : j_G) : Option Int32 :=
  p_X5_isEven_7 σ j_F (-1 : Int64) (0 : Int32)
theorem l_X5_isEven_7 {d : Nat} (hd : 3 ≤ d) (τ : j_G) (σ : j_G) : ∀ (n : Nat) (l2 : Int64) (l4 : Int32), j_J true τ M_cX5_isEven d 7 [some (.ref 37), some (.ref 1), some (.long l2), none, some (.int l4), none, none] [] σ (p_X5_isEven_7 σ n l2 l4) (j_Pi σ) := by
  intro n
  induction n with
  | zero => intro l2 l4; exact j_none
  | succ n ih =>
    intro l2 l4
    unfold p_X5_isEven_7
    refine j_iload (pc' := 9) rfl rfl rfl ?_
    refine j_aload_n (pc' := 10) rfl rfl rfl ?_
    refine j_callTi (pc' := 13) (ai := 12) (vs := [.ref 1]) (rest := [.int l4]) rfl rfl (fun _ _ => rfl) (c_X2_holes_1  σ) (j_dd rfl hd) rfl ?_
    refine j_two (pT := 16) (pF := 60) (L1 := [some (.ref 37), some (.ref 1), some (.long l2), none, some (.int l4), none, none]) (st1 := []) (fun o kT kF => ?_) (fun h6 => ?_) (fun h6 => ?_)
    · refine j_icge (t := 60) (pc' := 16) rfl rfl rfl (fun h7 => ?_) (fun h7 => ?_)
      · exact kF h7
      · exact kT h7
    · refine j_aload_n (pc' := 17) rfl rfl rfl ?_
      refine j_iload (pc' := 19) rfl rfl rfl ?_
      refine j_callTi (pc' := 22) (ai := 16) (vs := [.ref 1, .int l4]) (rest := []) rfl rfl (fun _ _ => rfl) (c_X2_isShut_1 l4 σ) (j_dd rfl hd) rfl ?_
      refine j_jn (P := (fun k => ∀ (v3 : Int64), j_J true τ M_cX5_isEven d 54 [some (.ref 37), some (.ref 1), some (.long v3), none, some (.int l4), none, none] [] σ (k v3) (j_Pi σ))) ?_ (fun k1 k1_h => ?_)
      · intro v3
        refine j_iincx (pc' := 57) (y := (1 : Int32)) (L' := [some (.ref 37), some (.ref 1), some (.long v3), none, some (.int (l4 + (1 : Int32))), none, none]) rfl rfl rfl rfl rfl ?_
        refine j_goto (t := 7) rfl rfl ?_
        exact ih v3 (l4 + (1 : Int32))
      · refine j_two (pT := 25) (pF := 54) (L1 := [some (.ref 37), some (.ref 1), some (.long l2), none, some (.int l4), none, none]) (st1 := []) (fun o kT kF => ?_) (fun h4 => ?_) (fun h4 => ?_)
        · refine j_ifne (t := 54) (pc' := 25) rfl rfl rfl (fun h5 => ?_) (fun h5 => ?_)
          · exact kF h5
          · exact kT h5
        · refine j_aload_n (pc' := 26) rfl rfl rfl ?_
          refine j_aload_n (pc' := 27) rfl rfl rfl ?_
          refine j_iload (pc' := 29) rfl rfl rfl ?_
          refine j_callPl (pc' := 32) (ai := 60) (vs := [.ref 37, .ref 1, .int l4]) (rest := []) rfl rfl (fun _ _ => rfl) (c_X5_rowsTo l4 σ) (j_dd rfl hd) rfl (fun v2 => ?_)
          refine j_lstore (pc' := 34) (L' := [some (.ref 37), some (.ref 1), some (.long l2), none, some (.int l4), some (.long v2), none]) rfl rfl rfl ?_
          refine j_lload_n (pc' := 35) rfl rfl rfl ?_
          refine j_ldc2_w (pc' := 38) (x := (-1 : Int64)) rfl rfl rfl ?_
          refine j_lcmp (pc' := 39) rfl rfl ?_
          refine j_two (pT := 49) (pF := 51) (L1 := [some (.ref 37), some (.ref 1), some (.long l2), none, some (.int l4), some (.long v2), none]) (st1 := []) (fun o kT kF => ?_) (fun h1 => ?_) (fun h1 => ?_)
          · refine j_ifeqL (t := 51) (pc' := 42) rfl rfl rfl (fun h2 => ?_) (fun h2 => ?_)
            · exact kF (fun z => z.1 h2)
            · refine j_lload (pc' := 44) rfl rfl rfl ?_
              refine j_lload_n (pc' := 45) rfl rfl rfl ?_
              refine j_lcmp (pc' := 46) rfl rfl ?_
              refine j_ifeqL (t := 51) (pc' := 49) rfl rfl rfl (fun h3 => ?_) (fun h3 => ?_)
              · exact kF (fun z => (fun z => z h3) z.2)
              · exact kT (⟨h2, h3⟩)
          · refine j_iconst (pc' := 50) (x := (0 : Int32)) rfl rfl rfl ?_
            exact j_ret rfl rfl rfl (fun _ h => h)
          · refine j_lload (pc' := 53) rfl rfl rfl ?_
            refine j_lstore_n (pc' := 54) (L' := [some (.ref 37), some (.ref 1), some (.long v2), none, some (.int l4), some (.long v2), none]) rfl rfl rfl ?_
            refine j_wk [true, true, true, true, true, false, true] (L' := [some (.ref 37), some (.ref 1), some (.long v2), none, some (.int l4), none, none]) rfl ?_
            exact k1_h v2
        · exact k1_h l2
    · refine j_iconst (pc' := 61) (x := (1 : Int32)) rfl rfl rfl ?_
      exact j_ret rfl rfl rfl (fun _ h => h)

theorem c_X5_isEven (σ : j_G) : j_K true 3 62 [.ref 37, .ref 1] σ (f_X5_isEven σ) (j_Pi σ) := by
  refine j_mkK (M := M_cX5_isEven) (L := [some (.ref 37), some (.ref 1), none, none, none, none, none]) (m := 5) t_62 rfl (j_rcvO j_a37 rfl) rfl (fun d hd τ => ?_)
  unfold f_X5_isEven
  refine j_ldc2_w (pc' := 3) (x := (-1 : Int64)) rfl rfl rfl ?_
  refine j_lstore_n (pc' := 4) (L' := [some (.ref 37), some (.ref 1), some (.long (-1 : Int64)), none, none, none, none]) rfl rfl rfl ?_
  refine j_iconst (pc' := 5) (x := (0 : Int32)) rfl rfl rfl ?_
  refine j_istore (pc' := 7) (L' := [some (.ref 37), some (.ref 1), some (.long (-1 : Int64)), none, some (.int (0 : Int32)), none, none]) rfl rfl rfl ?_
  exact (l_X5_isEven_7 hd τ σ j_F (-1 : Int64) (0 : Int32))

noncomputable def p_X11_fair_45 (l1 : Int32) : Nat → Int32 → Int32 → j_G → Option (Int32 × j_G)
  | 0, _, _, _ => none
  | n + 1, l2, l3, σ =>
    if (¬ (12 : Int32) < l3) ∧ (¬ l2 = 0) then (j_b1 (f_X5_grow l1 σ) fun σ1 =>
    j_b1 (f_X5_isEven σ1) fun v2 =>
    p_X11_fair_45 l1 n v2 (l3 + (1 : Int32)) σ1) else (some (l2, σ))

noncomputable def f_X11_fair (l1 : Int32) (σ : j_G) : Option (Int32 × j_G) :=
  if ((f_X2_isTold σ) = 0) ∨ ((f_X11_isLaw l1) = 0) then (some ((-2 : Int32), σ)) else (j_b1 (f_X5_begin σ) fun σ1 =>
  j_b1 (f_X5_isEven σ1) fun v2 =>
  j_b2 (p_X11_fair_45 l1 j_F v2 (2 : Int32) σ1) fun v3 σ4 =>
  if ¬ v3 = 0 then (some ((1 : Int32), σ4)) else (some ((0 : Int32), σ4)))
theorem l_X11_fair_45 {d : Nat} (hd : 4 ≤ d) (τ : j_G) (l1 : Int32) : ∀ (n : Nat) (l2 : Int32) (l3 : Int32) (σ : j_G), j_J true τ M_cX11_fair d 45 [some (.ref 0), some (.int l1), some (.int l2), some (.int l3)] [] σ (p_X11_fair_45 l1 n l2 l3 σ) (fun r Q => j_Tr true τ M_cX11_fair d 85 [none, none, some (.int r.1), none] [] r.2 Q) := by
  intro n
  induction n with
  | zero => intro l2 l3 σ; exact j_none
  | succ n ih =>
    intro l2 l3 σ
    unfold p_X11_fair_45
    refine j_iload_n (pc' := 46) rfl rfl rfl ?_
    refine j_bipush (pc' := 48) (x := (12 : Int32)) rfl rfl rfl ?_
    refine j_two (pT := 55) (pF := 85) (L1 := [some (.ref 0), some (.int l1), some (.int l2), some (.int l3)]) (st1 := []) (fun o kT kF => ?_) (fun h1 => ?_) (fun h1 => ?_)
    · refine j_icgt (t := 85) (pc' := 51) rfl rfl rfl (fun h2 => ?_) (fun h2 => ?_)
      · exact kF (fun z => z.1 h2)
      · refine j_iload_n (pc' := 52) rfl rfl rfl ?_
        refine j_ifeq (t := 85) (pc' := 55) rfl rfl rfl (fun h3 => ?_) (fun h3 => ?_)
        · exact kF (fun z => (fun z => z h3) z.2)
        · exact kT (⟨h2, h3⟩)
    · refine j_aload_n (pc' := 56) rfl rfl rfl ?_
      refine j_gfr (pc' := 59) (x := 37) rfl rfl j_a0 rfl rfl ?_
      refine j_aload_n (pc' := 60) rfl rfl rfl ?_
      refine j_gfr (pc' := 63) (x := 1) rfl rfl j_a0 rfl rfl ?_
      refine j_iload_n (pc' := 64) rfl rfl rfl ?_
      refine j_callRv (pc' := 67) (ai := 55) (vs := [.ref 37, .ref 1, .int l1]) (rest := []) rfl rfl (fun _ _ => rfl) (c_X5_grow l1 σ) (j_dd rfl hd) rfl (fun σ1 => ?_)
      refine j_aload_n (pc' := 68) rfl rfl rfl ?_
      refine j_gfr (pc' := 71) (x := 37) rfl rfl j_a0 rfl rfl ?_
      refine j_aload_n (pc' := 72) rfl rfl rfl ?_
      refine j_gfr (pc' := 75) (x := 1) rfl rfl j_a0 rfl rfl ?_
      refine j_callPi (pc' := 78) (ai := 62) (vs := [.ref 37, .ref 1]) (rest := []) rfl rfl (fun _ _ => rfl) (c_X5_isEven  σ1) (j_dd rfl hd) rfl (fun v2 => ?_)
      refine j_istore_n (pc' := 79) (L' := [some (.ref 0), some (.int l1), some (.int v2), some (.int l3)]) rfl rfl rfl ?_
      refine j_iincx (pc' := 82) (y := (1 : Int32)) (L' := [some (.ref 0), some (.int l1), some (.int v2), some (.int (l3 + (1 : Int32)))]) rfl rfl rfl rfl rfl ?_
      refine j_goto (t := 45) rfl rfl ?_
      exact ih v2 (l3 + (1 : Int32)) σ1
    · refine j_wk [false, false, true, false] (L' := [none, none, some (.int l2), none]) rfl ?_
      exact j_end (fun _ h => h)

theorem c_X11_fair (l1 : Int32) (σ : j_G) : j_K true 4 146 [.ref 0, .int l1] σ (f_X11_fair l1 σ) j_Ri := by
  refine j_mkK (M := M_cX11_fair) (L := [some (.ref 0), some (.int l1), none, none]) (m := 2) t_146 rfl (j_rcvO j_a0 rfl) rfl (fun d hd τ => ?_)
  unfold f_X11_fair
  refine j_aload_n (pc' := 1) rfl rfl rfl ?_
  refine j_gfr (pc' := 4) (x := 1) rfl rfl j_a0 rfl rfl ?_
  refine j_callTi (pc' := 7) (ai := 11) (vs := [.ref 1]) (rest := []) rfl rfl (fun _ _ => rfl) (c_X2_isTold  σ) (j_dd rfl hd) rfl ?_
  refine j_two (pT := 17) (pF := 20) (L1 := [some (.ref 0), some (.int l1), none, none]) (st1 := []) (fun o kT kF => ?_) (fun h3 => ?_) (fun h3 => ?_)
  · refine j_ifeq (t := 17) (pc' := 10) rfl rfl rfl (fun h4 => ?_) (fun h4 => ?_)
    · exact kT (Or.inl h4)
    · refine j_iload_n (pc' := 11) rfl rfl rfl ?_
      refine j_callTi (pc' := 14) (ai := 183) (vs := [.int l1]) (rest := []) rfl rfl (fun _ _ => rfl) (c_X11_isLaw l1 σ) (j_dd rfl hd) rfl ?_
      refine j_ifne (t := 20) (pc' := 17) rfl rfl rfl (fun h5 => ?_) (fun h5 => ?_)
      · exact kF (fun z => z.elim h4 (h5))
      · exact kT (Or.inr (h5))
  · refine j_bipush (pc' := 19) (x := (-2 : Int32)) rfl rfl rfl ?_
    exact j_ret rfl rfl rfl (fun _ h => h)
  · refine j_aload_n (pc' := 21) rfl rfl rfl ?_
    refine j_gfr (pc' := 24) (x := 37) rfl rfl j_a0 rfl rfl ?_
    refine j_aload_n (pc' := 25) rfl rfl rfl ?_
    refine j_gfr (pc' := 28) (x := 1) rfl rfl j_a0 rfl rfl ?_
    refine j_callRv (pc' := 31) (ai := 54) (vs := [.ref 37, .ref 1]) (rest := []) rfl rfl (fun _ _ => rfl) (c_X5_begin  σ) (j_dd rfl hd) rfl (fun σ1 => ?_)
    refine j_aload_n (pc' := 32) rfl rfl rfl ?_
    refine j_gfr (pc' := 35) (x := 37) rfl rfl j_a0 rfl rfl ?_
    refine j_aload_n (pc' := 36) rfl rfl rfl ?_
    refine j_gfr (pc' := 39) (x := 1) rfl rfl j_a0 rfl rfl ?_
    refine j_callPi (pc' := 42) (ai := 62) (vs := [.ref 37, .ref 1]) (rest := []) rfl rfl (fun _ _ => rfl) (c_X5_isEven  σ1) (j_dd rfl hd) rfl (fun v2 => ?_)
    refine j_istore_n (pc' := 43) (L' := [some (.ref 0), some (.int l1), some (.int v2), none]) rfl rfl rfl ?_
    refine j_iconst (pc' := 44) (x := (2 : Int32)) rfl rfl rfl ?_
    refine j_istore_n (pc' := 45) (L' := [some (.ref 0), some (.int l1), some (.int v2), some (.int (2 : Int32))]) rfl rfl rfl ?_
    refine j_q2 (l_X11_fair_45 hd τ l1 j_F v2 (2 : Int32) σ1) (fun v3 σ4 => ?_)
    show j_J true τ M_cX11_fair d 85 [none, none, some (.int v3), none] [] σ4 _ _
    refine j_iload_n (pc' := 86) rfl rfl rfl ?_
    refine j_two (pT := 89) (pF := 93) (L1 := [none, none, some (.int v3), none]) (st1 := []) (fun o kT kF => ?_) (fun h1 => ?_) (fun h1 => ?_)
    · refine j_ifeq (t := 93) (pc' := 89) rfl rfl rfl (fun h2 => ?_) (fun h2 => ?_)
      · exact kF (fun z => z h2)
      · exact kT h2
    · refine j_iconst (pc' := 90) (x := (1 : Int32)) rfl rfl rfl ?_
      refine j_goto (t := 94) rfl rfl ?_
      exact j_ret rfl rfl rfl (fun _ h => h)
    · refine j_iconst (pc' := 94) (x := (0 : Int32)) rfl rfl rfl ?_
      exact j_ret rfl rfl rfl (fun _ h => h)

noncomputable def p_X12_fair_36 (l1 : Int32) (l2 : Int32) (σ : j_G) (k19 : Int32 → j_G → Option (Int32 × j_G)) : Nat → Int32 → Int32 → Option (Int32 × j_G)
  | 0, _, _ => none
  | n + 1, l3, l4 =>
    j_b1 (f_X12_holes σ) fun v1 =>
    if l4 < v1 then (j_b1 (f_X12_isShut l4 σ) fun v2 =>
    j_lt (fun (v7 : Int32) => (p_X12_fair_36 l1 l2 σ k19 n v7 (l4 + (1 : Int32)))) fun (k3 : Int32 → Option (Int32 × j_G)) =>
    if ¬ v2 = 0 then (k3 l3) else (j_lt (if l3 = (-1 : Int32) then (l4) else (l3)) fun v4 =>
    j_b1 (f_X12_endingIn l4 σ) fun v5 =>
    j_b1 (f_X12_endingIn v4 σ) fun v6 =>
    if ¬ v5 = v6 then (some ((0 : Int32), σ)) else (k3 v4))) else (k19 (l2 + (1 : Int32)) σ)

noncomputable def p_X12_fair_19 (l1 : Int32) : Nat → Int32 → j_G → Option (Int32 × j_G)
  | 0, _, _ => none
  | n + 1, l2, σ =>
    if ¬ (12 : Int32) < l2 then (j_b1 (f_X12_fillRows l1 l2 σ) fun σ1 =>
    p_X12_fair_36 l1 l2 σ1 (fun w2 σw => p_X12_fair_19 l1 n w2 σw) j_F (-1 : Int32) (0 : Int32)) else (some ((1 : Int32), σ))

noncomputable def f_X12_fair (l1 : Int32) (σ : j_G) : Option (Int32 × j_G) :=
  j_b1 (f_X12_isBoard σ) fun v1 =>
  if (v1 = 0) ∨ ((f_X12_isLaw l1) = 0) then (some ((-2 : Int32), σ)) else (p_X12_fair_19 l1 j_F (1 : Int32) σ)
theorem l_X12_fair_36 {d : Nat} (hd : 3 ≤ d) (τ : j_G) (l1 : Int32) (l2 : Int32) (σ : j_G) (k19 : Int32 → j_G → Option (Int32 × j_G)) (k19_h : ∀ (l2 : Int32) (σ : j_G), j_J false τ M_cX12_fair d 19 [some (.ref 75), some (.int l1), some (.int l2), none, none] [] σ (k19 l2 σ) j_Ri) : ∀ (n : Nat) (l3 : Int32) (l4 : Int32), j_J false τ M_cX12_fair d 36 [some (.ref 75), some (.int l1), some (.int l2), some (.int l3), some (.int l4)] [] σ (p_X12_fair_36 l1 l2 σ k19 n l3 l4) j_Ri := by
  intro n
  induction n with
  | zero => intro l3 l4; exact j_none
  | succ n ih =>
    intro l3 l4
    unfold p_X12_fair_36
    refine j_iload (pc' := 38) rfl rfl rfl ?_
    refine j_aload_n (pc' := 39) rfl rfl rfl ?_
    refine j_callPi (pc' := 42) (ai := 200) (vs := [.ref 75]) (rest := [.int l4]) rfl rfl (fun _ _ => rfl) (c_X12_holes  σ) (j_dd rfl hd) rfl (fun v1 => ?_)
    refine j_two (pT := 45) (pF := 92) (L1 := [some (.ref 75), some (.int l1), some (.int l2), some (.int l3), some (.int l4)]) (st1 := []) (fun o kT kF => ?_) (fun h7 => ?_) (fun h7 => ?_)
    · refine j_icge (t := 92) (pc' := 45) rfl rfl rfl (fun h8 => ?_) (fun h8 => ?_)
      · exact kF h8
      · exact kT h8
    · refine j_aload_n (pc' := 46) rfl rfl rfl ?_
      refine j_iload (pc' := 48) rfl rfl rfl ?_
      refine j_callPi (pc' := 51) (ai := 202) (vs := [.ref 75, .int l4]) (rest := []) rfl rfl (fun _ _ => rfl) (c_X12_isShut l4 σ) (j_dd rfl hd) rfl (fun v2 => ?_)
      refine j_jn (P := (fun k => ∀ (v7 : Int32), j_J false τ M_cX12_fair d 86 [some (.ref 75), some (.int l1), some (.int l2), some (.int v7), some (.int l4)] [] σ (k v7) j_Ri)) ?_ (fun k3 k3_h => ?_)
      · intro v7
        refine j_iincx (pc' := 89) (y := (1 : Int32)) (L' := [some (.ref 75), some (.int l1), some (.int l2), some (.int v7), some (.int (l4 + (1 : Int32)))]) rfl rfl rfl rfl rfl ?_
        refine j_goto (t := 36) rfl rfl ?_
        exact ih v7 (l4 + (1 : Int32))
      · refine j_two (pT := 54) (pF := 57) (L1 := [some (.ref 75), some (.int l1), some (.int l2), some (.int l3), some (.int l4)]) (st1 := []) (fun o kT kF => ?_) (fun h5 => ?_) (fun h5 => ?_)
        · refine j_ifeq (t := 57) (pc' := 54) rfl rfl rfl (fun h6 => ?_) (fun h6 => ?_)
          · exact kF (fun z => z h6)
          · exact kT h6
        · refine j_goto (t := 86) rfl rfl ?_
          exact k3_h l3
        · refine j_iload_n (pc' := 58) rfl rfl rfl ?_
          refine j_iconst (pc' := 59) (x := (-1 : Int32)) rfl rfl rfl ?_
          refine j_ql (Φl := (fun r Q => j_Tr false τ M_cX12_fair d 68 [some (.ref 75), some (.int l1), some (.int l2), none, some (.int l4)] [.int r] σ Q)) ?_ (fun v4 => ?_)
          · refine j_twoT (pT := 62) (pF := 67) (L1 := [some (.ref 75), some (.int l1), some (.int l2), some (.int l3), some (.int l4)]) (st1 := []) (fun o kT kF => ?_) (fun h1 => ?_) (fun h1 => ?_)
            · refine j_icne (t := 67) (pc' := 62) rfl rfl rfl (fun h2 => ?_) (fun h2 => ?_)
              · exact kF h2
              · exact kT h2
            · refine j_iload (pc' := 64) rfl rfl rfl ?_
              refine j_goto (t := 68) rfl rfl ?_
              refine j_wk [true, true, true, false, true] (L' := [some (.ref 75), some (.int l1), some (.int l2), none, some (.int l4)]) rfl ?_
              exact j_end (fun _ h => h)
            · refine j_iload_n (pc' := 68) rfl rfl rfl ?_
              refine j_wk [true, true, true, false, true] (L' := [some (.ref 75), some (.int l1), some (.int l2), none, some (.int l4)]) rfl ?_
              exact j_end (fun _ h => h)
          show j_J false τ M_cX12_fair d 68 [some (.ref 75), some (.int l1), some (.int l2), none, some (.int l4)] [.int v4] σ _ _
          refine j_istore_n (pc' := 69) (L' := [some (.ref 75), some (.int l1), some (.int l2), some (.int v4), some (.int l4)]) rfl rfl rfl ?_
          refine j_aload_n (pc' := 70) rfl rfl rfl ?_
          refine j_iload (pc' := 72) rfl rfl rfl ?_
          refine j_callPl (pc' := 75) (ai := 292) (vs := [.ref 75, .int l4]) (rest := []) rfl rfl (fun _ _ => rfl) (c_X12_endingIn l4 σ) (j_dd rfl hd) rfl (fun v5 => ?_)
          refine j_aload_n (pc' := 76) rfl rfl rfl ?_
          refine j_iload_n (pc' := 77) rfl rfl rfl ?_
          refine j_callPl (pc' := 80) (ai := 292) (vs := [.ref 75, .int v4]) (rest := [.long v5]) rfl rfl (fun _ _ => rfl) (c_X12_endingIn v4 σ) (j_dd rfl hd) rfl (fun v6 => ?_)
          refine j_lcmp (pc' := 81) rfl rfl ?_
          refine j_two (pT := 84) (pF := 86) (L1 := [some (.ref 75), some (.int l1), some (.int l2), some (.int v4), some (.int l4)]) (st1 := []) (fun o kT kF => ?_) (fun h3 => ?_) (fun h3 => ?_)
          · refine j_ifeqL (t := 86) (pc' := 84) rfl rfl rfl (fun h4 => ?_) (fun h4 => ?_)
            · exact kF (fun z => z h4)
            · exact kT h4
          · refine j_iconst (pc' := 85) (x := (0 : Int32)) rfl rfl rfl ?_
            exact j_ret rfl rfl rfl (fun _ h => h)
          · exact k3_h v4
    · refine j_iincx (pc' := 95) (y := (1 : Int32)) (L' := [some (.ref 75), some (.int l1), some (.int (l2 + (1 : Int32))), some (.int l3), some (.int l4)]) rfl rfl rfl rfl rfl ?_
      refine j_goto (t := 19) rfl rfl ?_
      refine j_wk [true, true, true, false, false] (L' := [some (.ref 75), some (.int l1), some (.int (l2 + (1 : Int32))), none, none]) rfl ?_
      exact k19_h (l2 + (1 : Int32)) σ

theorem l_X12_fair_19 {d : Nat} (hd : 3 ≤ d) (τ : j_G) (l1 : Int32) : ∀ (n : Nat) (l2 : Int32) (σ : j_G), j_J false τ M_cX12_fair d 19 [some (.ref 75), some (.int l1), some (.int l2), none, none] [] σ (p_X12_fair_19 l1 n l2 σ) j_Ri := by
  intro n
  induction n with
  | zero => intro l2 σ; exact j_none
  | succ n ih =>
    intro l2 σ
    unfold p_X12_fair_19
    refine j_iload_n (pc' := 20) rfl rfl rfl ?_
    refine j_bipush (pc' := 22) (x := (12 : Int32)) rfl rfl rfl ?_
    refine j_two (pT := 25) (pF := 98) (L1 := [some (.ref 75), some (.int l1), some (.int l2), none, none]) (st1 := []) (fun o kT kF => ?_) (fun h1 => ?_) (fun h1 => ?_)
    · refine j_icgt (t := 98) (pc' := 25) rfl rfl rfl (fun h2 => ?_) (fun h2 => ?_)
      · exact kF (fun z => z h2)
      · exact kT h2
    · refine j_aload_n (pc' := 26) rfl rfl rfl ?_
      refine j_iload_n (pc' := 27) rfl rfl rfl ?_
      refine j_iload_n (pc' := 28) rfl rfl rfl ?_
      refine j_callRv (pc' := 31) (ai := 291) (vs := [.ref 75, .int l1, .int l2]) (rest := []) rfl rfl (fun _ _ => rfl) (c_X12_fillRows l1 l2 σ) (j_dd rfl hd) rfl (fun σ1 => ?_)
      refine j_iconst (pc' := 32) (x := (-1 : Int32)) rfl rfl rfl ?_
      refine j_istore_n (pc' := 33) (L' := [some (.ref 75), some (.int l1), some (.int l2), some (.int (-1 : Int32)), none]) rfl rfl rfl ?_
      refine j_iconst (pc' := 34) (x := (0 : Int32)) rfl rfl rfl ?_
      refine j_istore (pc' := 36) (L' := [some (.ref 75), some (.int l1), some (.int l2), some (.int (-1 : Int32)), some (.int (0 : Int32))]) rfl rfl rfl ?_
      exact (l_X12_fair_36 hd τ l1 l2 σ1 _ (by
    intro w2 σw
    exact ih w2 σw) j_F (-1 : Int32) (0 : Int32))
    · refine j_iconst (pc' := 99) (x := (1 : Int32)) rfl rfl rfl ?_
      exact j_ret rfl rfl rfl (fun _ h => h)

theorem c_X12_fair (l1 : Int32) (σ : j_G) : j_K false 3 295 [.ref 75, .int l1] σ (f_X12_fair l1 σ) j_Ri := by
  refine j_mkK (M := M_cX12_fair) (L := [some (.ref 75), some (.int l1), none, none, none]) (m := 3) t_295 rfl (j_rcvO j_a75 rfl) rfl (fun d hd τ => ?_)
  unfold f_X12_fair
  refine j_aload_n (pc' := 1) rfl rfl rfl ?_
  refine j_callPi (pc' := 4) (ai := 199) (vs := [.ref 75]) (rest := []) rfl rfl (fun _ _ => rfl) (c_X12_isBoard  σ) (j_dd rfl hd) rfl (fun v1 => ?_)
  refine j_two (pT := 14) (pF := 17) (L1 := [some (.ref 75), some (.int l1), none, none, none]) (st1 := []) (fun o kT kF => ?_) (fun h1 => ?_) (fun h1 => ?_)
  · refine j_ifeq (t := 14) (pc' := 7) rfl rfl rfl (fun h2 => ?_) (fun h2 => ?_)
    · exact kT (Or.inl h2)
    · refine j_iload_n (pc' := 8) rfl rfl rfl ?_
      refine j_callTi (pc' := 11) (ai := 289) (vs := [.int l1]) (rest := []) rfl rfl (fun _ _ => rfl) (c_X12_isLaw l1 σ) (j_dd rfl hd) rfl ?_
      refine j_ifne (t := 17) (pc' := 14) rfl rfl rfl (fun h3 => ?_) (fun h3 => ?_)
      · exact kF (fun z => z.elim h2 (h3))
      · exact kT (Or.inr (h3))
  · refine j_bipush (pc' := 16) (x := (-2 : Int32)) rfl rfl rfl ?_
    exact j_ret rfl rfl rfl (fun _ h => h)
  · refine j_iconst (pc' := 18) (x := (1 : Int32)) rfl rfl rfl ?_
    refine j_istore_n (pc' := 19) (L' := [some (.ref 75), some (.int l1), some (.int (1 : Int32)), none, none]) rfl rfl rfl ?_
    exact (l_X12_fair_19 hd τ l1 j_F (1 : Int32) σ)

noncomputable def f_J9_floorMod_7cf53 (l0 : Int32) (l1 : Int32) : Option Int32 :=
  if l1 = 0 then none else (
  j_lt (l0 - l0 / l1 * l1) fun v1 =>
  if ((l0 ^^^ l1) < 0) ∧ (¬ v1 = 0) then (some (v1 + l1)) else (some v1))
theorem c_J9_floorMod_7cf53_ (l0 : Int32) (l1 : Int32) (σ : j_G) : j_K true 0 357 [.int l0, .int l1] σ (f_J9_floorMod_7cf53 l0 l1) (j_Pi σ) := by
  refine j_mkK (M := M_cJ9_floorMod_7cf53) (L := [some (.int l0), some (.int l1), none]) (m := 1) t_357 rfl (j_rcvS rfl) rfl (fun d hd τ => ?_)
  unfold f_J9_floorMod_7cf53
  refine j_iload_n (pc' := 1) rfl rfl rfl ?_
  refine j_iload_n (pc' := 2) rfl rfl rfl ?_
  refine j_irem (pc' := 3) rfl rfl ?_
  refine j_leti (fun v1 => ?_)
  refine j_istore_n (pc' := 4) (L' := [some (.int l0), some (.int l1), some (.int v1)]) rfl rfl rfl ?_
  refine j_iload_n (pc' := 5) rfl rfl rfl ?_
  refine j_iload_n (pc' := 6) rfl rfl rfl ?_
  refine j_ixor (pc' := 7) rfl rfl ?_
  refine j_two (pT := 14) (pF := 18) (L1 := [some (.int l0), some (.int l1), some (.int v1)]) (st1 := []) (fun o kT kF => ?_) (fun h1 => ?_) (fun h1 => ?_)
  · refine j_ifge (t := 18) (pc' := 10) rfl rfl rfl (fun h2 => ?_) (fun h2 => ?_)
    · exact kF (fun z => h2 z.1)
    · refine j_iload_n (pc' := 11) rfl rfl rfl ?_
      refine j_ifeq (t := 18) (pc' := 14) rfl rfl rfl (fun h3 => ?_) (fun h3 => ?_)
      · exact kF (fun z => (fun z => z h3) z.2)
      · exact kT (⟨h2, h3⟩)
  · refine j_iload_n (pc' := 15) rfl rfl rfl ?_
    refine j_iload_n (pc' := 16) rfl rfl rfl ?_
    refine j_iadd (pc' := 17) rfl rfl ?_
    exact j_ret rfl rfl rfl (fun _ h => h)
  · refine j_iload_n (pc' := 19) rfl rfl rfl ?_
    exact j_ret rfl rfl rfl (fun _ h => h)

noncomputable def f_X3_round (l1 : Int32) (σ : j_G) : Option Int32 :=
  if 0 < (σ.1 5 0) then (j_b1 (f_J9_floorMod_7cf53 l1 (σ.1 5 0)) fun v1 =>
  j_ix v1 24 (
  some (σ.1 6 (v1).toNatClampNeg))) else (some (-1 : Int32))
theorem c_X3_round (l1 : Int32) (σ : j_G) : j_K true 1 35 [.ref 5, .int l1] σ (f_X3_round l1 σ) (j_Pi σ) := by
  refine j_mkK (M := M_cX3_round) (L := [some (.ref 5), some (.int l1)]) (m := 0) t_35 rfl (j_rcvO j_a5 rfl) rfl (fun d hd τ => ?_)
  unfold f_X3_round
  refine j_aload_n (pc' := 1) rfl rfl rfl ?_
  refine j_gfi (pc' := 4) rfl rfl j_a5 rfl ?_
  refine j_two (pT := 7) (pF := 23) (L1 := [some (.ref 5), some (.int l1)]) (st1 := []) (fun o kT kF => ?_) (fun h1 => ?_) (fun h1 => ?_)
  · refine j_ifle (t := 23) (pc' := 7) rfl rfl rfl (fun h2 => ?_) (fun h2 => ?_)
    · exact kF h2
    · exact kT h2
  · refine j_aload_n (pc' := 8) rfl rfl rfl ?_
    refine j_gfr (pc' := 11) (x := 6) rfl rfl j_a5 rfl rfl ?_
    refine j_iload_n (pc' := 12) rfl rfl rfl ?_
    refine j_aload_n (pc' := 13) rfl rfl rfl ?_
    refine j_gfi (pc' := 16) rfl rfl j_a5 rfl ?_
    refine j_callPi (pc' := 19) (ai := 357) (vs := [.int l1, .int (σ.1 5 0)]) (rest := [.ref 6]) rfl rfl (fun _ _ => rfl) (c_J9_floorMod_7cf53_ l1 (σ.1 5 0) σ) (j_dd rfl hd) rfl (fun v1 => ?_)
    refine j_iald (pc' := 20) rfl rfl j_a6 ?_
    refine j_goto (t := 24) rfl rfl ?_
    exact j_ret rfl rfl rfl (fun _ h => h)
  · refine j_iconst (pc' := 24) (x := (-1 : Int32)) rfl rfl rfl ?_
    exact j_ret rfl rfl rfl (fun _ h => h)

noncomputable def p_X11_breaks_30 (l1 : Int32) (σ : j_G) : Nat → Int32 → Option Int32
  | 0, _ => none
  | n + 1, l3 =>
    if l3 < (σ.1 5 0) then (j_b1 (f_X3_round (l3 - (2 : Int32)) σ) fun v1 =>
    j_b1 (f_X3_round (l3 - (1 : Int32)) σ) fun v2 =>
    j_b1 (f_X3_round l3 σ) fun v3 =>
    j_b1 (f_X2_lets l1 v1 v2 v3 σ) fun v4 =>
    if v4 = 0 then (some l3) else (p_X11_breaks_30 l1 σ n (l3 + (1 : Int32)))) else (some (-1 : Int32))

noncomputable def f_X11_breaks (l1 : Int32) (σ : j_G) : Option Int32 :=
  if ((f_X2_isTold σ) = 0) ∨ ((f_X11_isLaw l1) = 0) then (some (-2 : Int32)) else (p_X11_breaks_30 l1 σ j_F (0 : Int32))
theorem l_X11_breaks_30 {d : Nat} (hd : 2 ≤ d) (τ : j_G) (l1 : Int32) (σ : j_G) : ∀ (n : Nat) (l3 : Int32), j_J true τ M_cX11_breaks d 30 [some (.ref 0), some (.int l1), some (.ref 5), some (.int l3)] [] σ (p_X11_breaks_30 l1 σ n l3) (j_Pi σ) := by
  intro n
  induction n with
  | zero => intro l3; exact j_none
  | succ n ih =>
    intro l3
    unfold p_X11_breaks_30
    refine j_iload_n (pc' := 31) rfl rfl rfl ?_
    refine j_aload_n (pc' := 32) rfl rfl rfl ?_
    refine j_gfi (pc' := 35) rfl rfl j_a5 rfl ?_
    refine j_two (pT := 38) (pF := 76) (L1 := [some (.ref 0), some (.int l1), some (.ref 5), some (.int l3)]) (st1 := []) (fun o kT kF => ?_) (fun h3 => ?_) (fun h3 => ?_)
    · refine j_icge (t := 76) (pc' := 38) rfl rfl rfl (fun h4 => ?_) (fun h4 => ?_)
      · exact kF h4
      · exact kT h4
    · refine j_aload_n (pc' := 39) rfl rfl rfl ?_
      refine j_gfr (pc' := 42) (x := 1) rfl rfl j_a0 rfl rfl ?_
      refine j_iload_n (pc' := 43) rfl rfl rfl ?_
      refine j_aload_n (pc' := 44) rfl rfl rfl ?_
      refine j_iload_n (pc' := 45) rfl rfl rfl ?_
      refine j_iconst (pc' := 46) (x := (2 : Int32)) rfl rfl rfl ?_
      refine j_isub (pc' := 47) rfl rfl ?_
      refine j_callPi (pc' := 50) (ai := 35) (vs := [.ref 5, .int (l3 - (2 : Int32))]) (rest := [.int l1, .ref 1]) rfl rfl (fun _ _ => rfl) (c_X3_round (l3 - (2 : Int32)) σ) (j_dd rfl hd) rfl (fun v1 => ?_)
      refine j_aload_n (pc' := 51) rfl rfl rfl ?_
      refine j_iload_n (pc' := 52) rfl rfl rfl ?_
      refine j_iconst (pc' := 53) (x := (1 : Int32)) rfl rfl rfl ?_
      refine j_isub (pc' := 54) rfl rfl ?_
      refine j_callPi (pc' := 57) (ai := 35) (vs := [.ref 5, .int (l3 - (1 : Int32))]) (rest := [.int v1, .int l1, .ref 1]) rfl rfl (fun _ _ => rfl) (c_X3_round (l3 - (1 : Int32)) σ) (j_dd rfl hd) rfl (fun v2 => ?_)
      refine j_aload_n (pc' := 58) rfl rfl rfl ?_
      refine j_iload_n (pc' := 59) rfl rfl rfl ?_
      refine j_callPi (pc' := 62) (ai := 35) (vs := [.ref 5, .int l3]) (rest := [.int v2, .int v1, .int l1, .ref 1]) rfl rfl (fun _ _ => rfl) (c_X3_round l3 σ) (j_dd rfl hd) rfl (fun v3 => ?_)
      refine j_callPi (pc' := 65) (ai := 27) (vs := [.ref 1, .int l1, .int v1, .int v2, .int v3]) (rest := []) rfl rfl (fun _ _ => rfl) (c_X2_lets l1 v1 v2 v3 σ) (j_dd rfl hd) rfl (fun v4 => ?_)
      refine j_two (pT := 68) (pF := 70) (L1 := [some (.ref 0), some (.int l1), some (.ref 5), some (.int l3)]) (st1 := []) (fun o kT kF => ?_) (fun h1 => ?_) (fun h1 => ?_)
      · refine j_ifne (t := 70) (pc' := 68) rfl rfl rfl (fun h2 => ?_) (fun h2 => ?_)
        · exact kF h2
        · exact kT h2
      · refine j_iload_n (pc' := 69) rfl rfl rfl ?_
        exact j_ret rfl rfl rfl (fun _ h => h)
      · refine j_iincx (pc' := 73) (y := (1 : Int32)) (L' := [some (.ref 0), some (.int l1), some (.ref 5), some (.int (l3 + (1 : Int32)))]) rfl rfl rfl rfl rfl ?_
        refine j_goto (t := 30) rfl rfl ?_
        exact ih (l3 + (1 : Int32))
    · refine j_iconst (pc' := 77) (x := (-1 : Int32)) rfl rfl rfl ?_
      exact j_ret rfl rfl rfl (fun _ h => h)

theorem c_X11_breaks (l1 : Int32) (σ : j_G) : j_K true 2 147 [.ref 0, .int l1] σ (f_X11_breaks l1 σ) (j_Pi σ) := by
  refine j_mkK (M := M_cX11_breaks) (L := [some (.ref 0), some (.int l1), none, none]) (m := 2) t_147 rfl (j_rcvO j_a0 rfl) rfl (fun d hd τ => ?_)
  unfold f_X11_breaks
  refine j_aload_n (pc' := 1) rfl rfl rfl ?_
  refine j_gfr (pc' := 4) (x := 1) rfl rfl j_a0 rfl rfl ?_
  refine j_callTi (pc' := 7) (ai := 11) (vs := [.ref 1]) (rest := []) rfl rfl (fun _ _ => rfl) (c_X2_isTold  σ) (j_dd rfl hd) rfl ?_
  refine j_two (pT := 17) (pF := 20) (L1 := [some (.ref 0), some (.int l1), none, none]) (st1 := []) (fun o kT kF => ?_) (fun h1 => ?_) (fun h1 => ?_)
  · refine j_ifeq (t := 17) (pc' := 10) rfl rfl rfl (fun h2 => ?_) (fun h2 => ?_)
    · exact kT (Or.inl h2)
    · refine j_iload_n (pc' := 11) rfl rfl rfl ?_
      refine j_callTi (pc' := 14) (ai := 183) (vs := [.int l1]) (rest := []) rfl rfl (fun _ _ => rfl) (c_X11_isLaw l1 σ) (j_dd rfl hd) rfl ?_
      refine j_ifne (t := 20) (pc' := 17) rfl rfl rfl (fun h3 => ?_) (fun h3 => ?_)
      · exact kF (fun z => z.elim h2 (h3))
      · exact kT (Or.inr (h3))
  · refine j_bipush (pc' := 19) (x := (-2 : Int32)) rfl rfl rfl ?_
    exact j_ret rfl rfl rfl (fun _ h => h)
  · refine j_aload_n (pc' := 21) rfl rfl rfl ?_
    refine j_gfr (pc' := 24) (x := 1) rfl rfl j_a0 rfl rfl ?_
    refine j_gfr (pc' := 27) (x := 5) rfl rfl j_a1 rfl rfl ?_
    refine j_astore_n (pc' := 28) (L' := [some (.ref 0), some (.int l1), some (.ref 5), none]) rfl rfl rfl ?_
    refine j_iconst (pc' := 29) (x := (0 : Int32)) rfl rfl rfl ?_
    refine j_istore_n (pc' := 30) (L' := [some (.ref 0), some (.int l1), some (.ref 5), some (.int (0 : Int32))]) rfl rfl rfl ?_
    exact (l_X11_breaks_30 hd τ l1 σ j_F (0 : Int32))

theorem c_J9_floorMod_7cf53_m (l0 : Int32) (l1 : Int32) (σ : j_G) : j_K false 0 357 [.int l0, .int l1] σ (f_J9_floorMod_7cf53 l0 l1) (j_Pi σ) := by
  refine j_mkK (M := M_cJ9_floorMod_7cf53) (L := [some (.int l0), some (.int l1), none]) (m := 1) t_357 rfl (j_rcvS rfl) rfl (fun d hd τ => ?_)
  unfold f_J9_floorMod_7cf53
  refine j_iload_n (pc' := 1) rfl rfl rfl ?_
  refine j_iload_n (pc' := 2) rfl rfl rfl ?_
  refine j_irem (pc' := 3) rfl rfl ?_
  refine j_leti (fun v1 => ?_)
  refine j_istore_n (pc' := 4) (L' := [some (.int l0), some (.int l1), some (.int v1)]) rfl rfl rfl ?_
  refine j_iload_n (pc' := 5) rfl rfl rfl ?_
  refine j_iload_n (pc' := 6) rfl rfl rfl ?_
  refine j_ixor (pc' := 7) rfl rfl ?_
  refine j_two (pT := 14) (pF := 18) (L1 := [some (.int l0), some (.int l1), some (.int v1)]) (st1 := []) (fun o kT kF => ?_) (fun h1 => ?_) (fun h1 => ?_)
  · refine j_ifge (t := 18) (pc' := 10) rfl rfl rfl (fun h2 => ?_) (fun h2 => ?_)
    · exact kF (fun z => h2 z.1)
    · refine j_iload_n (pc' := 11) rfl rfl rfl ?_
      refine j_ifeq (t := 18) (pc' := 14) rfl rfl rfl (fun h3 => ?_) (fun h3 => ?_)
      · exact kF (fun z => (fun z => z h3) z.2)
      · exact kT (⟨h2, h3⟩)
  · refine j_iload_n (pc' := 15) rfl rfl rfl ?_
    refine j_iload_n (pc' := 16) rfl rfl rfl ?_
    refine j_iadd (pc' := 17) rfl rfl ?_
    exact j_ret rfl rfl rfl (fun _ h => h)
  · refine j_iload_n (pc' := 19) rfl rfl rfl ?_
    exact j_ret rfl rfl rfl (fun _ h => h)

noncomputable def f_X12_holeAt (l1 : Int32) (σ : j_G) : Option Int32 :=
  j_ix (5 : Int32) 116 (
  j_b1 (f_J9_floorMod_7cf53 l1 (σ.1 76 ((5 : Int32)).toNatClampNeg)) fun v1 =>
  j_b1 (f_X12_ofComing v1 (0 : Int32) σ) fun v2 =>
  some v2)
theorem c_X12_holeAt (l1 : Int32) (σ : j_G) : j_K false 1 296 [.ref 75, .int l1] σ (f_X12_holeAt l1 σ) (j_Pi σ) := by
  refine j_mkK (M := M_cX12_holeAt) (L := [some (.ref 75), some (.int l1)]) (m := 0) t_296 rfl (j_rcvO j_a75 rfl) rfl (fun d hd τ => ?_)
  unfold f_X12_holeAt
  refine j_aload_n (pc' := 1) rfl rfl rfl ?_
  refine j_iload_n (pc' := 2) rfl rfl rfl ?_
  refine j_aload_n (pc' := 3) rfl rfl rfl ?_
  refine j_gfr (pc' := 6) (x := 76) rfl rfl j_a75 rfl rfl ?_
  refine j_iconst (pc' := 7) (x := (5 : Int32)) rfl rfl rfl ?_
  refine j_iald (pc' := 8) rfl rfl j_a76 ?_
  refine j_callPi (pc' := 11) (ai := 357) (vs := [.int l1, .int (σ.1 76 ((5 : Int32)).toNatClampNeg)]) (rest := [.ref 75]) rfl rfl (fun _ _ => rfl) (c_J9_floorMod_7cf53_m l1 (σ.1 76 ((5 : Int32)).toNatClampNeg) σ) (j_dd rfl hd) rfl (fun v1 => ?_)
  refine j_iconst (pc' := 12) (x := (0 : Int32)) rfl rfl rfl ?_
  refine j_callPi (pc' := 15) (ai := 206) (vs := [.ref 75, .int v1, .int (0 : Int32)]) (rest := []) rfl rfl (fun _ _ => rfl) (c_X12_ofComing v1 (0 : Int32) σ) (j_dd rfl hd) rfl (fun v2 => ?_)
  exact j_ret rfl rfl rfl (fun _ h => h)

noncomputable def p_X12_breaks_19 (l1 : Int32) (σ : j_G) : Nat → Int32 → Option Int32
  | 0, _ => none
  | n + 1, l2 =>
    j_ix (5 : Int32) 116 (
    if l2 < (σ.1 76 ((5 : Int32)).toNatClampNeg) then (j_b1 (f_X12_holeAt l2 σ) fun v1 =>
    j_b1 (f_X12_holeAt (l2 - (1 : Int32)) σ) fun v2 =>
    j_b1 (f_X12_holeAt (l2 - (2 : Int32)) σ) fun v3 =>
    j_b1 (f_X12_lets l1 v1 v2 v3 σ) fun v4 =>
    if v4 = 0 then (some l2) else (p_X12_breaks_19 l1 σ n (l2 + (1 : Int32)))) else (some (-1 : Int32)))

noncomputable def f_X12_breaks (l1 : Int32) (σ : j_G) : Option Int32 :=
  j_b1 (f_X12_isBoard σ) fun v1 =>
  if (v1 = 0) ∨ ((f_X12_isLaw l1) = 0) then (some (-2 : Int32)) else (p_X12_breaks_19 l1 σ j_F (0 : Int32))
theorem l_X12_breaks_19 {d : Nat} (hd : 2 ≤ d) (τ : j_G) (l1 : Int32) (σ : j_G) : ∀ (n : Nat) (l2 : Int32), j_J false τ M_cX12_breaks d 19 [some (.ref 75), some (.int l1), some (.int l2)] [] σ (p_X12_breaks_19 l1 σ n l2) (j_Pi σ) := by
  intro n
  induction n with
  | zero => intro l2; exact j_none
  | succ n ih =>
    intro l2
    unfold p_X12_breaks_19
    refine j_iload_n (pc' := 20) rfl rfl rfl ?_
    refine j_aload_n (pc' := 21) rfl rfl rfl ?_
    refine j_gfr (pc' := 24) (x := 76) rfl rfl j_a75 rfl rfl ?_
    refine j_iconst (pc' := 25) (x := (5 : Int32)) rfl rfl rfl ?_
    refine j_iald (pc' := 26) rfl rfl j_a76 ?_
    refine j_two (pT := 29) (pF := 64) (L1 := [some (.ref 75), some (.int l1), some (.int l2)]) (st1 := []) (fun o kT kF => ?_) (fun h3 => ?_) (fun h3 => ?_)
    · refine j_icge (t := 64) (pc' := 29) rfl rfl rfl (fun h4 => ?_) (fun h4 => ?_)
      · exact kF h4
      · exact kT h4
    · refine j_aload_n (pc' := 30) rfl rfl rfl ?_
      refine j_iload_n (pc' := 31) rfl rfl rfl ?_
      refine j_aload_n (pc' := 32) rfl rfl rfl ?_
      refine j_iload_n (pc' := 33) rfl rfl rfl ?_
      refine j_callPi (pc' := 36) (ai := 296) (vs := [.ref 75, .int l2]) (rest := [.int l1, .ref 75]) rfl rfl (fun _ _ => rfl) (c_X12_holeAt l2 σ) (j_dd rfl hd) rfl (fun v1 => ?_)
      refine j_aload_n (pc' := 37) rfl rfl rfl ?_
      refine j_iload_n (pc' := 38) rfl rfl rfl ?_
      refine j_iconst (pc' := 39) (x := (1 : Int32)) rfl rfl rfl ?_
      refine j_isub (pc' := 40) rfl rfl ?_
      refine j_callPi (pc' := 43) (ai := 296) (vs := [.ref 75, .int (l2 - (1 : Int32))]) (rest := [.int v1, .int l1, .ref 75]) rfl rfl (fun _ _ => rfl) (c_X12_holeAt (l2 - (1 : Int32)) σ) (j_dd rfl hd) rfl (fun v2 => ?_)
      refine j_aload_n (pc' := 44) rfl rfl rfl ?_
      refine j_iload_n (pc' := 45) rfl rfl rfl ?_
      refine j_iconst (pc' := 46) (x := (2 : Int32)) rfl rfl rfl ?_
      refine j_isub (pc' := 47) rfl rfl ?_
      refine j_callPi (pc' := 50) (ai := 296) (vs := [.ref 75, .int (l2 - (2 : Int32))]) (rest := [.int v2, .int v1, .int l1, .ref 75]) rfl rfl (fun _ _ => rfl) (c_X12_holeAt (l2 - (2 : Int32)) σ) (j_dd rfl hd) rfl (fun v3 => ?_)
      refine j_callPi (pc' := 53) (ai := 290) (vs := [.ref 75, .int l1, .int v1, .int v2, .int v3]) (rest := []) rfl rfl (fun _ _ => rfl) (c_X12_lets l1 v1 v2 v3 σ) (j_dd rfl hd) rfl (fun v4 => ?_)
      refine j_two (pT := 56) (pF := 58) (L1 := [some (.ref 75), some (.int l1), some (.int l2)]) (st1 := []) (fun o kT kF => ?_) (fun h1 => ?_) (fun h1 => ?_)
      · refine j_ifne (t := 58) (pc' := 56) rfl rfl rfl (fun h2 => ?_) (fun h2 => ?_)
        · exact kF h2
        · exact kT h2
      · refine j_iload_n (pc' := 57) rfl rfl rfl ?_
        exact j_ret rfl rfl rfl (fun _ h => h)
      · refine j_iincx (pc' := 61) (y := (1 : Int32)) (L' := [some (.ref 75), some (.int l1), some (.int (l2 + (1 : Int32)))]) rfl rfl rfl rfl rfl ?_
        refine j_goto (t := 19) rfl rfl ?_
        exact ih (l2 + (1 : Int32))
    · refine j_iconst (pc' := 65) (x := (-1 : Int32)) rfl rfl rfl ?_
      exact j_ret rfl rfl rfl (fun _ h => h)

theorem c_X12_breaks (l1 : Int32) (σ : j_G) : j_K false 2 297 [.ref 75, .int l1] σ (f_X12_breaks l1 σ) (j_Pi σ) := by
  refine j_mkK (M := M_cX12_breaks) (L := [some (.ref 75), some (.int l1), none]) (m := 1) t_297 rfl (j_rcvO j_a75 rfl) rfl (fun d hd τ => ?_)
  unfold f_X12_breaks
  refine j_aload_n (pc' := 1) rfl rfl rfl ?_
  refine j_callPi (pc' := 4) (ai := 199) (vs := [.ref 75]) (rest := []) rfl rfl (fun _ _ => rfl) (c_X12_isBoard  σ) (j_dd rfl hd) rfl (fun v1 => ?_)
  refine j_two (pT := 14) (pF := 17) (L1 := [some (.ref 75), some (.int l1), none]) (st1 := []) (fun o kT kF => ?_) (fun h1 => ?_) (fun h1 => ?_)
  · refine j_ifeq (t := 14) (pc' := 7) rfl rfl rfl (fun h2 => ?_) (fun h2 => ?_)
    · exact kT (Or.inl h2)
    · refine j_iload_n (pc' := 8) rfl rfl rfl ?_
      refine j_callTi (pc' := 11) (ai := 289) (vs := [.int l1]) (rest := []) rfl rfl (fun _ _ => rfl) (c_X12_isLaw l1 σ) (j_dd rfl hd) rfl ?_
      refine j_ifne (t := 17) (pc' := 14) rfl rfl rfl (fun h3 => ?_) (fun h3 => ?_)
      · exact kF (fun z => z.elim h2 (h3))
      · exact kT (Or.inr (h3))
  · refine j_bipush (pc' := 16) (x := (-2 : Int32)) rfl rfl rfl ?_
    exact j_ret rfl rfl rfl (fun _ h => h)
  · refine j_iconst (pc' := 18) (x := (0 : Int32)) rfl rfl rfl ?_
    refine j_istore_n (pc' := 19) (L' := [some (.ref 75), some (.int l1), some (.int (0 : Int32))]) rfl rfl rfl ?_
    exact (l_X12_breaks_19 hd τ l1 σ j_F (0 : Int32))

noncomputable def f_X11_isSlot (l0 : Int32) : Int32 :=
  if (¬ l0 < 0) ∧ (l0 < (4 : Int32)) then ((1 : Int32)) else ((0 : Int32))

theorem b_X11_isSlot (l0 : Int32) : f_X11_isSlot l0 = 0 ∨ f_X11_isSlot l0 = 1 := by
  unfold f_X11_isSlot
  repeat' split
  all_goals first | exact Or.inl rfl | exact Or.inr rfl
theorem c_X11_isSlot (l0 : Int32) (σ : j_G) : j_K true 0 182 [.int l0] σ (some (f_X11_isSlot l0)) (j_Pi σ) := by
  refine j_mkK (M := M_cX11_isSlot) (L := [some (.int l0)]) (m := 0) t_182 rfl (j_rcvS rfl) rfl (fun d hd τ => ?_)
  unfold f_X11_isSlot
  refine j_iload_n (pc' := 1) rfl rfl rfl ?_
  refine j_twoT (pT := 9) (pF := 13) (L1 := [some (.int l0)]) (st1 := []) (fun o kT kF => ?_) (fun h1 => ?_) (fun h1 => ?_)
  · refine j_iflt (t := 13) (pc' := 4) rfl rfl rfl (fun h2 => ?_) (fun h2 => ?_)
    · exact kF (fun z => z.1 h2)
    · refine j_iload_n (pc' := 5) rfl rfl rfl ?_
      refine j_iconst (pc' := 6) (x := (4 : Int32)) rfl rfl rfl ?_
      refine j_icge (t := 13) (pc' := 9) rfl rfl rfl (fun h3 => ?_) (fun h3 => ?_)
      · exact kF (fun z => (h3) z.2)
      · exact kT (⟨h2, h3⟩)
  · refine j_iconst (pc' := 10) (x := (1 : Int32)) rfl rfl rfl ?_
    refine j_goto (t := 14) rfl rfl ?_
    exact j_ret rfl rfl rfl (fun _ h => h)
  · refine j_iconst (pc' := 14) (x := (0 : Int32)) rfl rfl rfl ?_
    exact j_ret rfl rfl rfl (fun _ h => h)

noncomputable def p_X8_isBelow_2 (a0 : Nat) (a0_2 : Nat) (l1 : Int32) (l2 : Int32) (σ : j_G) : Nat → Int32 → Option Int32
  | 0, _ => none
  | n + 1, l3 =>
    if l3 < (σ.1 a0 0) then (if (2 : Int32) = 0 then none else (
    j_lt (if (l3 - l3 / (2 : Int32) * (2 : Int32)) = 0 then (l1) else (l2)) fun v1 =>
    j_ix l3 60 (
    if ¬ (σ.2 a0_2 (l3).toNatClampNeg) < (0 : Int64) then (j_ix l3 60 (
    if ¬ (σ.2 a0_2 (l3).toNatClampNeg) < (v1).toInt64 then (some (0 : Int32)) else (p_X8_isBelow_2 a0 a0_2 l1 l2 σ n (l3 + (1 : Int32))))) else (some (0 : Int32))))) else (some (1 : Int32))

noncomputable def f_X8_isBelow (a0 : Nat) (a0_2 : Nat) (l1 : Int32) (l2 : Int32) (σ : j_G) : Option Int32 :=
  p_X8_isBelow_2 a0 a0_2 l1 l2 σ j_F (0 : Int32)
theorem l_X8_isBelow_2_67 {d : Nat} (hd : 0 ≤ d) (τ : j_G) (l1 : Int32) (l2 : Int32) (σ : j_G) : ∀ (n : Nat) (l3 : Int32), j_J true τ M_cX8_isBelow d 2 [some (.ref 67), some (.int l1), some (.int l2), some (.int l3), none] [] σ (p_X8_isBelow_2 67 68 l1 l2 σ n l3) (j_Pi σ) := by
  intro n
  induction n with
  | zero => intro l3; exact j_none
  | succ n ih =>
    intro l3
    unfold p_X8_isBelow_2
    refine j_iload_n (pc' := 3) rfl rfl rfl ?_
    refine j_aload_n (pc' := 4) rfl rfl rfl ?_
    refine j_gfi (pc' := 7) rfl rfl j_a67 rfl ?_
    refine j_two (pT := 10) (pF := 55) (L1 := [some (.ref 67), some (.int l1), some (.int l2), some (.int l3), none]) (st1 := []) (fun o kT kF => ?_) (fun h7 => ?_) (fun h7 => ?_)
    · refine j_icge (t := 55) (pc' := 10) rfl rfl rfl (fun h8 => ?_) (fun h8 => ?_)
      · exact kF h8
      · exact kT h8
    · refine j_iload_n (pc' := 11) rfl rfl rfl ?_
      refine j_iconst (pc' := 12) (x := (2 : Int32)) rfl rfl rfl ?_
      refine j_irem (pc' := 13) rfl rfl ?_
      refine j_ql (Φl := (fun r Q => j_Tr true τ M_cX8_isBelow d 21 [some (.ref 67), some (.int l1), some (.int l2), some (.int l3), none] [.int r] σ Q)) ?_ (fun v1 => ?_)
      · refine j_twoT (pT := 16) (pF := 20) (L1 := [some (.ref 67), some (.int l1), some (.int l2), some (.int l3), none]) (st1 := []) (fun o kT kF => ?_) (fun h1 => ?_) (fun h1 => ?_)
        · refine j_ifne (t := 20) (pc' := 16) rfl rfl rfl (fun h2 => ?_) (fun h2 => ?_)
          · exact kF h2
          · exact kT h2
        · refine j_iload_n (pc' := 17) rfl rfl rfl ?_
          refine j_goto (t := 21) rfl rfl ?_
          exact j_end (fun _ h => h)
        · refine j_iload_n (pc' := 21) rfl rfl rfl ?_
          exact j_end (fun _ h => h)
      show j_J true τ M_cX8_isBelow d 21 [some (.ref 67), some (.int l1), some (.int l2), some (.int l3), none] [.int v1] σ _ _
      refine j_istore (pc' := 23) (L' := [some (.ref 67), some (.int l1), some (.int l2), some (.int l3), some (.int v1)]) rfl rfl rfl ?_
      refine j_aload_n (pc' := 24) rfl rfl rfl ?_
      refine j_gfr (pc' := 27) (x := 68) rfl rfl j_a67 rfl rfl ?_
      refine j_iload_n (pc' := 28) rfl rfl rfl ?_
      refine j_lald (pc' := 29) rfl rfl j_a68 ?_
      refine j_lconst (pc' := 30) (x := (0 : Int64)) rfl rfl rfl ?_
      refine j_lcmp (pc' := 31) rfl rfl ?_
      refine j_two (pT := 34) (pF := 47) (L1 := [some (.ref 67), some (.int l1), some (.int l2), some (.int l3), some (.int v1)]) (st1 := []) (fun o kT kF => ?_) (fun h5 => ?_) (fun h5 => ?_)
      · refine j_ifltL (t := 47) (pc' := 34) rfl rfl rfl (fun h6 => ?_) (fun h6 => ?_)
        · exact kF (fun z => z h6)
        · exact kT h6
      · refine j_aload_n (pc' := 35) rfl rfl rfl ?_
        refine j_gfr (pc' := 38) (x := 68) rfl rfl j_a67 rfl rfl ?_
        refine j_iload_n (pc' := 39) rfl rfl rfl ?_
        refine j_lald (pc' := 40) rfl rfl j_a68 ?_
        refine j_iload (pc' := 42) rfl rfl rfl ?_
        refine j_i2l (pc' := 43) rfl rfl ?_
        refine j_lcmp (pc' := 44) rfl rfl ?_
        refine j_two (pT := 47) (pF := 49) (L1 := [some (.ref 67), some (.int l1), some (.int l2), some (.int l3), some (.int v1)]) (st1 := []) (fun o kT kF => ?_) (fun h3 => ?_) (fun h3 => ?_)
        · refine j_ifltL (t := 49) (pc' := 47) rfl rfl rfl (fun h4 => ?_) (fun h4 => ?_)
          · exact kF (fun z => z h4)
          · exact kT h4
        · refine j_iconst (pc' := 48) (x := (0 : Int32)) rfl rfl rfl ?_
          exact j_ret rfl rfl rfl (fun _ h => h)
        · refine j_iincx (pc' := 52) (y := (1 : Int32)) (L' := [some (.ref 67), some (.int l1), some (.int l2), some (.int (l3 + (1 : Int32))), some (.int v1)]) rfl rfl rfl rfl rfl ?_
          refine j_goto (t := 2) rfl rfl ?_
          refine j_wk [true, true, true, true, false] (L' := [some (.ref 67), some (.int l1), some (.int l2), some (.int (l3 + (1 : Int32))), none]) rfl ?_
          exact ih (l3 + (1 : Int32))
      · refine j_iconst (pc' := 48) (x := (0 : Int32)) rfl rfl rfl ?_
        exact j_ret rfl rfl rfl (fun _ h => h)
    · refine j_iconst (pc' := 56) (x := (1 : Int32)) rfl rfl rfl ?_
      exact j_ret rfl rfl rfl (fun _ h => h)

theorem c_X8_isBelow_67 (l1 : Int32) (l2 : Int32) (σ : j_G) : j_K true 0 95 [.ref 67, .int l1, .int l2] σ (f_X8_isBelow 67 68 l1 l2 σ) (j_Pi σ) := by
  refine j_mkK (M := M_cX8_isBelow) (L := [some (.ref 67), some (.int l1), some (.int l2), none, none]) (m := 2) t_95 rfl (j_rcvO j_a67 rfl) rfl (fun d hd τ => ?_)
  unfold f_X8_isBelow
  refine j_iconst (pc' := 1) (x := (0 : Int32)) rfl rfl rfl ?_
  refine j_istore_n (pc' := 2) (L' := [some (.ref 67), some (.int l1), some (.int l2), some (.int (0 : Int32)), none]) rfl rfl rfl ?_
  exact (l_X8_isBelow_2_67 hd τ l1 l2 σ j_F (0 : Int32))

theorem l_X8_isBelow_2_69 {d : Nat} (hd : 0 ≤ d) (τ : j_G) (l1 : Int32) (l2 : Int32) (σ : j_G) : ∀ (n : Nat) (l3 : Int32), j_J true τ M_cX8_isBelow d 2 [some (.ref 69), some (.int l1), some (.int l2), some (.int l3), none] [] σ (p_X8_isBelow_2 69 70 l1 l2 σ n l3) (j_Pi σ) := by
  intro n
  induction n with
  | zero => intro l3; exact j_none
  | succ n ih =>
    intro l3
    unfold p_X8_isBelow_2
    refine j_iload_n (pc' := 3) rfl rfl rfl ?_
    refine j_aload_n (pc' := 4) rfl rfl rfl ?_
    refine j_gfi (pc' := 7) rfl rfl j_a69 rfl ?_
    refine j_two (pT := 10) (pF := 55) (L1 := [some (.ref 69), some (.int l1), some (.int l2), some (.int l3), none]) (st1 := []) (fun o kT kF => ?_) (fun h7 => ?_) (fun h7 => ?_)
    · refine j_icge (t := 55) (pc' := 10) rfl rfl rfl (fun h8 => ?_) (fun h8 => ?_)
      · exact kF h8
      · exact kT h8
    · refine j_iload_n (pc' := 11) rfl rfl rfl ?_
      refine j_iconst (pc' := 12) (x := (2 : Int32)) rfl rfl rfl ?_
      refine j_irem (pc' := 13) rfl rfl ?_
      refine j_ql (Φl := (fun r Q => j_Tr true τ M_cX8_isBelow d 21 [some (.ref 69), some (.int l1), some (.int l2), some (.int l3), none] [.int r] σ Q)) ?_ (fun v1 => ?_)
      · refine j_twoT (pT := 16) (pF := 20) (L1 := [some (.ref 69), some (.int l1), some (.int l2), some (.int l3), none]) (st1 := []) (fun o kT kF => ?_) (fun h1 => ?_) (fun h1 => ?_)
        · refine j_ifne (t := 20) (pc' := 16) rfl rfl rfl (fun h2 => ?_) (fun h2 => ?_)
          · exact kF h2
          · exact kT h2
        · refine j_iload_n (pc' := 17) rfl rfl rfl ?_
          refine j_goto (t := 21) rfl rfl ?_
          exact j_end (fun _ h => h)
        · refine j_iload_n (pc' := 21) rfl rfl rfl ?_
          exact j_end (fun _ h => h)
      show j_J true τ M_cX8_isBelow d 21 [some (.ref 69), some (.int l1), some (.int l2), some (.int l3), none] [.int v1] σ _ _
      refine j_istore (pc' := 23) (L' := [some (.ref 69), some (.int l1), some (.int l2), some (.int l3), some (.int v1)]) rfl rfl rfl ?_
      refine j_aload_n (pc' := 24) rfl rfl rfl ?_
      refine j_gfr (pc' := 27) (x := 70) rfl rfl j_a69 rfl rfl ?_
      refine j_iload_n (pc' := 28) rfl rfl rfl ?_
      refine j_lald (pc' := 29) rfl rfl j_a70 ?_
      refine j_lconst (pc' := 30) (x := (0 : Int64)) rfl rfl rfl ?_
      refine j_lcmp (pc' := 31) rfl rfl ?_
      refine j_two (pT := 34) (pF := 47) (L1 := [some (.ref 69), some (.int l1), some (.int l2), some (.int l3), some (.int v1)]) (st1 := []) (fun o kT kF => ?_) (fun h5 => ?_) (fun h5 => ?_)
      · refine j_ifltL (t := 47) (pc' := 34) rfl rfl rfl (fun h6 => ?_) (fun h6 => ?_)
        · exact kF (fun z => z h6)
        · exact kT h6
      · refine j_aload_n (pc' := 35) rfl rfl rfl ?_
        refine j_gfr (pc' := 38) (x := 70) rfl rfl j_a69 rfl rfl ?_
        refine j_iload_n (pc' := 39) rfl rfl rfl ?_
        refine j_lald (pc' := 40) rfl rfl j_a70 ?_
        refine j_iload (pc' := 42) rfl rfl rfl ?_
        refine j_i2l (pc' := 43) rfl rfl ?_
        refine j_lcmp (pc' := 44) rfl rfl ?_
        refine j_two (pT := 47) (pF := 49) (L1 := [some (.ref 69), some (.int l1), some (.int l2), some (.int l3), some (.int v1)]) (st1 := []) (fun o kT kF => ?_) (fun h3 => ?_) (fun h3 => ?_)
        · refine j_ifltL (t := 49) (pc' := 47) rfl rfl rfl (fun h4 => ?_) (fun h4 => ?_)
          · exact kF (fun z => z h4)
          · exact kT h4
        · refine j_iconst (pc' := 48) (x := (0 : Int32)) rfl rfl rfl ?_
          exact j_ret rfl rfl rfl (fun _ h => h)
        · refine j_iincx (pc' := 52) (y := (1 : Int32)) (L' := [some (.ref 69), some (.int l1), some (.int l2), some (.int (l3 + (1 : Int32))), some (.int v1)]) rfl rfl rfl rfl rfl ?_
          refine j_goto (t := 2) rfl rfl ?_
          refine j_wk [true, true, true, true, false] (L' := [some (.ref 69), some (.int l1), some (.int l2), some (.int (l3 + (1 : Int32))), none]) rfl ?_
          exact ih (l3 + (1 : Int32))
      · refine j_iconst (pc' := 48) (x := (0 : Int32)) rfl rfl rfl ?_
        exact j_ret rfl rfl rfl (fun _ h => h)
    · refine j_iconst (pc' := 56) (x := (1 : Int32)) rfl rfl rfl ?_
      exact j_ret rfl rfl rfl (fun _ h => h)

theorem c_X8_isBelow_69 (l1 : Int32) (l2 : Int32) (σ : j_G) : j_K true 0 95 [.ref 69, .int l1, .int l2] σ (f_X8_isBelow 69 70 l1 l2 σ) (j_Pi σ) := by
  refine j_mkK (M := M_cX8_isBelow) (L := [some (.ref 69), some (.int l1), some (.int l2), none, none]) (m := 2) t_95 rfl (j_rcvO j_a69 rfl) rfl (fun d hd τ => ?_)
  unfold f_X8_isBelow
  refine j_iconst (pc' := 1) (x := (0 : Int32)) rfl rfl rfl ?_
  refine j_istore_n (pc' := 2) (L' := [some (.ref 69), some (.int l1), some (.int l2), some (.int (0 : Int32)), none]) rfl rfl rfl ?_
  exact (l_X8_isBelow_2_69 hd τ l1 l2 σ j_F (0 : Int32))

theorem l_X8_isBelow_2_71 {d : Nat} (hd : 0 ≤ d) (τ : j_G) (l1 : Int32) (l2 : Int32) (σ : j_G) : ∀ (n : Nat) (l3 : Int32), j_J true τ M_cX8_isBelow d 2 [some (.ref 71), some (.int l1), some (.int l2), some (.int l3), none] [] σ (p_X8_isBelow_2 71 72 l1 l2 σ n l3) (j_Pi σ) := by
  intro n
  induction n with
  | zero => intro l3; exact j_none
  | succ n ih =>
    intro l3
    unfold p_X8_isBelow_2
    refine j_iload_n (pc' := 3) rfl rfl rfl ?_
    refine j_aload_n (pc' := 4) rfl rfl rfl ?_
    refine j_gfi (pc' := 7) rfl rfl j_a71 rfl ?_
    refine j_two (pT := 10) (pF := 55) (L1 := [some (.ref 71), some (.int l1), some (.int l2), some (.int l3), none]) (st1 := []) (fun o kT kF => ?_) (fun h7 => ?_) (fun h7 => ?_)
    · refine j_icge (t := 55) (pc' := 10) rfl rfl rfl (fun h8 => ?_) (fun h8 => ?_)
      · exact kF h8
      · exact kT h8
    · refine j_iload_n (pc' := 11) rfl rfl rfl ?_
      refine j_iconst (pc' := 12) (x := (2 : Int32)) rfl rfl rfl ?_
      refine j_irem (pc' := 13) rfl rfl ?_
      refine j_ql (Φl := (fun r Q => j_Tr true τ M_cX8_isBelow d 21 [some (.ref 71), some (.int l1), some (.int l2), some (.int l3), none] [.int r] σ Q)) ?_ (fun v1 => ?_)
      · refine j_twoT (pT := 16) (pF := 20) (L1 := [some (.ref 71), some (.int l1), some (.int l2), some (.int l3), none]) (st1 := []) (fun o kT kF => ?_) (fun h1 => ?_) (fun h1 => ?_)
        · refine j_ifne (t := 20) (pc' := 16) rfl rfl rfl (fun h2 => ?_) (fun h2 => ?_)
          · exact kF h2
          · exact kT h2
        · refine j_iload_n (pc' := 17) rfl rfl rfl ?_
          refine j_goto (t := 21) rfl rfl ?_
          exact j_end (fun _ h => h)
        · refine j_iload_n (pc' := 21) rfl rfl rfl ?_
          exact j_end (fun _ h => h)
      show j_J true τ M_cX8_isBelow d 21 [some (.ref 71), some (.int l1), some (.int l2), some (.int l3), none] [.int v1] σ _ _
      refine j_istore (pc' := 23) (L' := [some (.ref 71), some (.int l1), some (.int l2), some (.int l3), some (.int v1)]) rfl rfl rfl ?_
      refine j_aload_n (pc' := 24) rfl rfl rfl ?_
      refine j_gfr (pc' := 27) (x := 72) rfl rfl j_a71 rfl rfl ?_
      refine j_iload_n (pc' := 28) rfl rfl rfl ?_
      refine j_lald (pc' := 29) rfl rfl j_a72 ?_
      refine j_lconst (pc' := 30) (x := (0 : Int64)) rfl rfl rfl ?_
      refine j_lcmp (pc' := 31) rfl rfl ?_
      refine j_two (pT := 34) (pF := 47) (L1 := [some (.ref 71), some (.int l1), some (.int l2), some (.int l3), some (.int v1)]) (st1 := []) (fun o kT kF => ?_) (fun h5 => ?_) (fun h5 => ?_)
      · refine j_ifltL (t := 47) (pc' := 34) rfl rfl rfl (fun h6 => ?_) (fun h6 => ?_)
        · exact kF (fun z => z h6)
        · exact kT h6
      · refine j_aload_n (pc' := 35) rfl rfl rfl ?_
        refine j_gfr (pc' := 38) (x := 72) rfl rfl j_a71 rfl rfl ?_
        refine j_iload_n (pc' := 39) rfl rfl rfl ?_
        refine j_lald (pc' := 40) rfl rfl j_a72 ?_
        refine j_iload (pc' := 42) rfl rfl rfl ?_
        refine j_i2l (pc' := 43) rfl rfl ?_
        refine j_lcmp (pc' := 44) rfl rfl ?_
        refine j_two (pT := 47) (pF := 49) (L1 := [some (.ref 71), some (.int l1), some (.int l2), some (.int l3), some (.int v1)]) (st1 := []) (fun o kT kF => ?_) (fun h3 => ?_) (fun h3 => ?_)
        · refine j_ifltL (t := 49) (pc' := 47) rfl rfl rfl (fun h4 => ?_) (fun h4 => ?_)
          · exact kF (fun z => z h4)
          · exact kT h4
        · refine j_iconst (pc' := 48) (x := (0 : Int32)) rfl rfl rfl ?_
          exact j_ret rfl rfl rfl (fun _ h => h)
        · refine j_iincx (pc' := 52) (y := (1 : Int32)) (L' := [some (.ref 71), some (.int l1), some (.int l2), some (.int (l3 + (1 : Int32))), some (.int v1)]) rfl rfl rfl rfl rfl ?_
          refine j_goto (t := 2) rfl rfl ?_
          refine j_wk [true, true, true, true, false] (L' := [some (.ref 71), some (.int l1), some (.int l2), some (.int (l3 + (1 : Int32))), none]) rfl ?_
          exact ih (l3 + (1 : Int32))
      · refine j_iconst (pc' := 48) (x := (0 : Int32)) rfl rfl rfl ?_
        exact j_ret rfl rfl rfl (fun _ h => h)
    · refine j_iconst (pc' := 56) (x := (1 : Int32)) rfl rfl rfl ?_
      exact j_ret rfl rfl rfl (fun _ h => h)

theorem c_X8_isBelow_71 (l1 : Int32) (l2 : Int32) (σ : j_G) : j_K true 0 95 [.ref 71, .int l1, .int l2] σ (f_X8_isBelow 71 72 l1 l2 σ) (j_Pi σ) := by
  refine j_mkK (M := M_cX8_isBelow) (L := [some (.ref 71), some (.int l1), some (.int l2), none, none]) (m := 2) t_95 rfl (j_rcvO j_a71 rfl) rfl (fun d hd τ => ?_)
  unfold f_X8_isBelow
  refine j_iconst (pc' := 1) (x := (0 : Int32)) rfl rfl rfl ?_
  refine j_istore_n (pc' := 2) (L' := [some (.ref 71), some (.int l1), some (.int l2), some (.int (0 : Int32)), none]) rfl rfl rfl ?_
  exact (l_X8_isBelow_2_71 hd τ l1 l2 σ j_F (0 : Int32))

theorem l_X8_isBelow_2_73 {d : Nat} (hd : 0 ≤ d) (τ : j_G) (l1 : Int32) (l2 : Int32) (σ : j_G) : ∀ (n : Nat) (l3 : Int32), j_J true τ M_cX8_isBelow d 2 [some (.ref 73), some (.int l1), some (.int l2), some (.int l3), none] [] σ (p_X8_isBelow_2 73 74 l1 l2 σ n l3) (j_Pi σ) := by
  intro n
  induction n with
  | zero => intro l3; exact j_none
  | succ n ih =>
    intro l3
    unfold p_X8_isBelow_2
    refine j_iload_n (pc' := 3) rfl rfl rfl ?_
    refine j_aload_n (pc' := 4) rfl rfl rfl ?_
    refine j_gfi (pc' := 7) rfl rfl j_a73 rfl ?_
    refine j_two (pT := 10) (pF := 55) (L1 := [some (.ref 73), some (.int l1), some (.int l2), some (.int l3), none]) (st1 := []) (fun o kT kF => ?_) (fun h7 => ?_) (fun h7 => ?_)
    · refine j_icge (t := 55) (pc' := 10) rfl rfl rfl (fun h8 => ?_) (fun h8 => ?_)
      · exact kF h8
      · exact kT h8
    · refine j_iload_n (pc' := 11) rfl rfl rfl ?_
      refine j_iconst (pc' := 12) (x := (2 : Int32)) rfl rfl rfl ?_
      refine j_irem (pc' := 13) rfl rfl ?_
      refine j_ql (Φl := (fun r Q => j_Tr true τ M_cX8_isBelow d 21 [some (.ref 73), some (.int l1), some (.int l2), some (.int l3), none] [.int r] σ Q)) ?_ (fun v1 => ?_)
      · refine j_twoT (pT := 16) (pF := 20) (L1 := [some (.ref 73), some (.int l1), some (.int l2), some (.int l3), none]) (st1 := []) (fun o kT kF => ?_) (fun h1 => ?_) (fun h1 => ?_)
        · refine j_ifne (t := 20) (pc' := 16) rfl rfl rfl (fun h2 => ?_) (fun h2 => ?_)
          · exact kF h2
          · exact kT h2
        · refine j_iload_n (pc' := 17) rfl rfl rfl ?_
          refine j_goto (t := 21) rfl rfl ?_
          exact j_end (fun _ h => h)
        · refine j_iload_n (pc' := 21) rfl rfl rfl ?_
          exact j_end (fun _ h => h)
      show j_J true τ M_cX8_isBelow d 21 [some (.ref 73), some (.int l1), some (.int l2), some (.int l3), none] [.int v1] σ _ _
      refine j_istore (pc' := 23) (L' := [some (.ref 73), some (.int l1), some (.int l2), some (.int l3), some (.int v1)]) rfl rfl rfl ?_
      refine j_aload_n (pc' := 24) rfl rfl rfl ?_
      refine j_gfr (pc' := 27) (x := 74) rfl rfl j_a73 rfl rfl ?_
      refine j_iload_n (pc' := 28) rfl rfl rfl ?_
      refine j_lald (pc' := 29) rfl rfl j_a74 ?_
      refine j_lconst (pc' := 30) (x := (0 : Int64)) rfl rfl rfl ?_
      refine j_lcmp (pc' := 31) rfl rfl ?_
      refine j_two (pT := 34) (pF := 47) (L1 := [some (.ref 73), some (.int l1), some (.int l2), some (.int l3), some (.int v1)]) (st1 := []) (fun o kT kF => ?_) (fun h5 => ?_) (fun h5 => ?_)
      · refine j_ifltL (t := 47) (pc' := 34) rfl rfl rfl (fun h6 => ?_) (fun h6 => ?_)
        · exact kF (fun z => z h6)
        · exact kT h6
      · refine j_aload_n (pc' := 35) rfl rfl rfl ?_
        refine j_gfr (pc' := 38) (x := 74) rfl rfl j_a73 rfl rfl ?_
        refine j_iload_n (pc' := 39) rfl rfl rfl ?_
        refine j_lald (pc' := 40) rfl rfl j_a74 ?_
        refine j_iload (pc' := 42) rfl rfl rfl ?_
        refine j_i2l (pc' := 43) rfl rfl ?_
        refine j_lcmp (pc' := 44) rfl rfl ?_
        refine j_two (pT := 47) (pF := 49) (L1 := [some (.ref 73), some (.int l1), some (.int l2), some (.int l3), some (.int v1)]) (st1 := []) (fun o kT kF => ?_) (fun h3 => ?_) (fun h3 => ?_)
        · refine j_ifltL (t := 49) (pc' := 47) rfl rfl rfl (fun h4 => ?_) (fun h4 => ?_)
          · exact kF (fun z => z h4)
          · exact kT h4
        · refine j_iconst (pc' := 48) (x := (0 : Int32)) rfl rfl rfl ?_
          exact j_ret rfl rfl rfl (fun _ h => h)
        · refine j_iincx (pc' := 52) (y := (1 : Int32)) (L' := [some (.ref 73), some (.int l1), some (.int l2), some (.int (l3 + (1 : Int32))), some (.int v1)]) rfl rfl rfl rfl rfl ?_
          refine j_goto (t := 2) rfl rfl ?_
          refine j_wk [true, true, true, true, false] (L' := [some (.ref 73), some (.int l1), some (.int l2), some (.int (l3 + (1 : Int32))), none]) rfl ?_
          exact ih (l3 + (1 : Int32))
      · refine j_iconst (pc' := 48) (x := (0 : Int32)) rfl rfl rfl ?_
        exact j_ret rfl rfl rfl (fun _ h => h)
    · refine j_iconst (pc' := 56) (x := (1 : Int32)) rfl rfl rfl ?_
      exact j_ret rfl rfl rfl (fun _ h => h)

theorem c_X8_isBelow_73 (l1 : Int32) (l2 : Int32) (σ : j_G) : j_K true 0 95 [.ref 73, .int l1, .int l2] σ (f_X8_isBelow 73 74 l1 l2 σ) (j_Pi σ) := by
  refine j_mkK (M := M_cX8_isBelow) (L := [some (.ref 73), some (.int l1), some (.int l2), none, none]) (m := 2) t_95 rfl (j_rcvO j_a73 rfl) rfl (fun d hd τ => ?_)
  unfold f_X8_isBelow
  refine j_iconst (pc' := 1) (x := (0 : Int32)) rfl rfl rfl ?_
  refine j_istore_n (pc' := 2) (L' := [some (.ref 73), some (.int l1), some (.int l2), some (.int (0 : Int32)), none]) rfl rfl rfl ?_
  exact (l_X8_isBelow_2_73 hd τ l1 l2 σ j_F (0 : Int32))

noncomputable def f_X11_whyUnheard (l1 : Int32) (σ : j_G) : Option Int32 :=
  if ((f_X11_isSlot l1) = 0) ∨ ((f_X2_isTold σ) = 0) then (some (-2 : Int32)) else (if l1 = 0 then (if (f_X8_isMade 67 σ) = 0 then (some (-6 : Int32)) else (j_b1 (f_X8_isBelow 67 68 (f_X2_holes 1 σ) (f_X2_holes 1 σ) σ) fun v1 =>
  if ¬ v1 = 0 then (some (0 : Int32)) else (some (-2 : Int32)))) else
  if l1 = 1 then (if (f_X8_isMade 69 σ) = 0 then (some (-6 : Int32)) else (j_b1 (f_X8_isBelow 69 70 (f_X2_holes 1 σ) (f_X2_holes 1 σ) σ) fun v2 =>
  if ¬ v2 = 0 then (some (0 : Int32)) else (some (-2 : Int32)))) else
  if l1 = 2 then (if (f_X8_isMade 71 σ) = 0 then (some (-6 : Int32)) else (j_b1 (f_X8_isBelow 71 72 (f_X2_holes 1 σ) (f_X2_holes 1 σ) σ) fun v3 =>
  if ¬ v3 = 0 then (some (0 : Int32)) else (some (-2 : Int32)))) else
  if l1 = 3 then (if (f_X8_isMade 73 σ) = 0 then (some (-6 : Int32)) else (j_b1 (f_X8_isBelow 73 74 (f_X2_holes 1 σ) (f_X2_holes 1 σ) σ) fun v4 =>
  if ¬ v4 = 0 then (some (0 : Int32)) else (some (-2 : Int32)))) else
  none)
theorem c_X11_whyUnheard (l1 : Int32) (σ : j_G) : j_K true 1 193 [.ref 0, .int l1] σ (f_X11_whyUnheard l1 σ) (j_Pi σ) := by
  refine j_mkK (M := M_cX11_whyUnheard) (L := [some (.ref 0), some (.int l1)]) (m := 0) t_193 rfl (j_rcvO j_a0 rfl) rfl (fun d hd τ => ?_)
  unfold f_X11_whyUnheard
  refine j_iload_n (pc' := 1) rfl rfl rfl ?_
  refine j_callTi (pc' := 4) (ai := 182) (vs := [.int l1]) (rest := []) rfl rfl (fun _ _ => rfl) (c_X11_isSlot l1 σ) (j_dd rfl hd) rfl ?_
  refine j_two (pT := 17) (pF := 20) (L1 := [some (.ref 0), some (.int l1)]) (st1 := []) (fun o kT kF => ?_) (fun h21 => ?_) (fun h21 => ?_)
  · refine j_ifeq (t := 17) (pc' := 7) rfl rfl rfl (fun h22 => ?_) (fun h22 => ?_)
    · exact kT (Or.inl h22)
    · refine j_aload_n (pc' := 8) rfl rfl rfl ?_
      refine j_gfr (pc' := 11) (x := 1) rfl rfl j_a0 rfl rfl ?_
      refine j_callTi (pc' := 14) (ai := 11) (vs := [.ref 1]) (rest := []) rfl rfl (fun _ _ => rfl) (c_X2_isTold  σ) (j_dd rfl hd) rfl ?_
      refine j_ifne (t := 20) (pc' := 17) rfl rfl rfl (fun h23 => ?_) (fun h23 => ?_)
      · exact kF (fun z => z.elim h22 (h23))
      · exact kT (Or.inr (h23))
  · refine j_bipush (pc' := 19) (x := (-2 : Int32)) rfl rfl rfl ?_
    exact j_ret rfl rfl rfl (fun _ h => h)
  · refine j_aload_n (pc' := 21) rfl rfl rfl ?_
    refine j_gfr (pc' := 24) (x := 42) rfl rfl j_a0 rfl rfl ?_
    refine j_iload_n (pc' := 25) rfl rfl rfl ?_
    refine j_spl (k := (0 : Int32)) (fun h1 => ?_) (fun h1 => ?_)
    · subst h1
      refine j_aald (pc' := 26) (r := 67) rfl rfl j_a42 (by decide) rfl ?_
      refine j_callTi (pc' := 29) (ai := 91) (vs := [.ref 67]) (rest := []) rfl rfl (fun _ _ => rfl) (c_X8_isMade_67  σ) (j_dd rfl hd) rfl ?_
      refine j_two (pT := 32) (pF := 35) (L1 := [some (.ref 0), some (.int (0 : Int32))]) (st1 := []) (fun o kT kF => ?_) (fun h4 => ?_) (fun h4 => ?_)
      · refine j_ifne (t := 35) (pc' := 32) rfl rfl rfl (fun h5 => ?_) (fun h5 => ?_)
        · exact kF h5
        · exact kT h5
      · refine j_bipush (pc' := 34) (x := (-6 : Int32)) rfl rfl rfl ?_
        exact j_ret rfl rfl rfl (fun _ h => h)
      · refine j_aload_n (pc' := 36) rfl rfl rfl ?_
        refine j_gfr (pc' := 39) (x := 42) rfl rfl j_a0 rfl rfl ?_
        refine j_iload_n (pc' := 40) rfl rfl rfl ?_
        refine j_aald (pc' := 41) (r := 67) rfl rfl j_a42 (by decide) rfl ?_
        refine j_aload_n (pc' := 42) rfl rfl rfl ?_
        refine j_gfr (pc' := 45) (x := 1) rfl rfl j_a0 rfl rfl ?_
        refine j_callTi (pc' := 48) (ai := 12) (vs := [.ref 1]) (rest := [.ref 67]) rfl rfl (fun _ _ => rfl) (c_X2_holes_1  σ) (j_dd rfl hd) rfl ?_
        refine j_aload_n (pc' := 49) rfl rfl rfl ?_
        refine j_gfr (pc' := 52) (x := 1) rfl rfl j_a0 rfl rfl ?_
        refine j_callTi (pc' := 55) (ai := 12) (vs := [.ref 1]) (rest := [.int (f_X2_holes 1 σ), .ref 67]) rfl rfl (fun _ _ => rfl) (c_X2_holes_1  σ) (j_dd rfl hd) rfl ?_
        refine j_callPi (pc' := 58) (ai := 95) (vs := [.ref 67, .int (f_X2_holes 1 σ), .int (f_X2_holes 1 σ)]) (rest := []) rfl rfl (fun _ _ => rfl) (c_X8_isBelow_67 (f_X2_holes 1 σ) (f_X2_holes 1 σ) σ) (j_dd rfl hd) rfl (fun v1 => ?_)
        refine j_two (pT := 61) (pF := 65) (L1 := [some (.ref 0), some (.int (0 : Int32))]) (st1 := []) (fun o kT kF => ?_) (fun h2 => ?_) (fun h2 => ?_)
        · refine j_ifeq (t := 65) (pc' := 61) rfl rfl rfl (fun h3 => ?_) (fun h3 => ?_)
          · exact kF (fun z => z h3)
          · exact kT h3
        · refine j_iconst (pc' := 62) (x := (0 : Int32)) rfl rfl rfl ?_
          refine j_goto (t := 67) rfl rfl ?_
          exact j_ret rfl rfl rfl (fun _ h => h)
        · refine j_bipush (pc' := 67) (x := (-2 : Int32)) rfl rfl rfl ?_
          exact j_ret rfl rfl rfl (fun _ h => h)
    refine j_spl (k := (1 : Int32)) (fun h6 => ?_) (fun h6 => ?_)
    · subst h6
      refine j_aald (pc' := 26) (r := 69) rfl rfl j_a42 (by decide) rfl ?_
      refine j_callTi (pc' := 29) (ai := 91) (vs := [.ref 69]) (rest := []) rfl rfl (fun _ _ => rfl) (c_X8_isMade_69  σ) (j_dd rfl hd) rfl ?_
      refine j_two (pT := 32) (pF := 35) (L1 := [some (.ref 0), some (.int (1 : Int32))]) (st1 := []) (fun o kT kF => ?_) (fun h9 => ?_) (fun h9 => ?_)
      · refine j_ifne (t := 35) (pc' := 32) rfl rfl rfl (fun h10 => ?_) (fun h10 => ?_)
        · exact kF h10
        · exact kT h10
      · refine j_bipush (pc' := 34) (x := (-6 : Int32)) rfl rfl rfl ?_
        exact j_ret rfl rfl rfl (fun _ h => h)
      · refine j_aload_n (pc' := 36) rfl rfl rfl ?_
        refine j_gfr (pc' := 39) (x := 42) rfl rfl j_a0 rfl rfl ?_
        refine j_iload_n (pc' := 40) rfl rfl rfl ?_
        refine j_aald (pc' := 41) (r := 69) rfl rfl j_a42 (by decide) rfl ?_
        refine j_aload_n (pc' := 42) rfl rfl rfl ?_
        refine j_gfr (pc' := 45) (x := 1) rfl rfl j_a0 rfl rfl ?_
        refine j_callTi (pc' := 48) (ai := 12) (vs := [.ref 1]) (rest := [.ref 69]) rfl rfl (fun _ _ => rfl) (c_X2_holes_1  σ) (j_dd rfl hd) rfl ?_
        refine j_aload_n (pc' := 49) rfl rfl rfl ?_
        refine j_gfr (pc' := 52) (x := 1) rfl rfl j_a0 rfl rfl ?_
        refine j_callTi (pc' := 55) (ai := 12) (vs := [.ref 1]) (rest := [.int (f_X2_holes 1 σ), .ref 69]) rfl rfl (fun _ _ => rfl) (c_X2_holes_1  σ) (j_dd rfl hd) rfl ?_
        refine j_callPi (pc' := 58) (ai := 95) (vs := [.ref 69, .int (f_X2_holes 1 σ), .int (f_X2_holes 1 σ)]) (rest := []) rfl rfl (fun _ _ => rfl) (c_X8_isBelow_69 (f_X2_holes 1 σ) (f_X2_holes 1 σ) σ) (j_dd rfl hd) rfl (fun v2 => ?_)
        refine j_two (pT := 61) (pF := 65) (L1 := [some (.ref 0), some (.int (1 : Int32))]) (st1 := []) (fun o kT kF => ?_) (fun h7 => ?_) (fun h7 => ?_)
        · refine j_ifeq (t := 65) (pc' := 61) rfl rfl rfl (fun h8 => ?_) (fun h8 => ?_)
          · exact kF (fun z => z h8)
          · exact kT h8
        · refine j_iconst (pc' := 62) (x := (0 : Int32)) rfl rfl rfl ?_
          refine j_goto (t := 67) rfl rfl ?_
          exact j_ret rfl rfl rfl (fun _ h => h)
        · refine j_bipush (pc' := 67) (x := (-2 : Int32)) rfl rfl rfl ?_
          exact j_ret rfl rfl rfl (fun _ h => h)
    refine j_spl (k := (2 : Int32)) (fun h11 => ?_) (fun h11 => ?_)
    · subst h11
      refine j_aald (pc' := 26) (r := 71) rfl rfl j_a42 (by decide) rfl ?_
      refine j_callTi (pc' := 29) (ai := 91) (vs := [.ref 71]) (rest := []) rfl rfl (fun _ _ => rfl) (c_X8_isMade_71  σ) (j_dd rfl hd) rfl ?_
      refine j_two (pT := 32) (pF := 35) (L1 := [some (.ref 0), some (.int (2 : Int32))]) (st1 := []) (fun o kT kF => ?_) (fun h14 => ?_) (fun h14 => ?_)
      · refine j_ifne (t := 35) (pc' := 32) rfl rfl rfl (fun h15 => ?_) (fun h15 => ?_)
        · exact kF h15
        · exact kT h15
      · refine j_bipush (pc' := 34) (x := (-6 : Int32)) rfl rfl rfl ?_
        exact j_ret rfl rfl rfl (fun _ h => h)
      · refine j_aload_n (pc' := 36) rfl rfl rfl ?_
        refine j_gfr (pc' := 39) (x := 42) rfl rfl j_a0 rfl rfl ?_
        refine j_iload_n (pc' := 40) rfl rfl rfl ?_
        refine j_aald (pc' := 41) (r := 71) rfl rfl j_a42 (by decide) rfl ?_
        refine j_aload_n (pc' := 42) rfl rfl rfl ?_
        refine j_gfr (pc' := 45) (x := 1) rfl rfl j_a0 rfl rfl ?_
        refine j_callTi (pc' := 48) (ai := 12) (vs := [.ref 1]) (rest := [.ref 71]) rfl rfl (fun _ _ => rfl) (c_X2_holes_1  σ) (j_dd rfl hd) rfl ?_
        refine j_aload_n (pc' := 49) rfl rfl rfl ?_
        refine j_gfr (pc' := 52) (x := 1) rfl rfl j_a0 rfl rfl ?_
        refine j_callTi (pc' := 55) (ai := 12) (vs := [.ref 1]) (rest := [.int (f_X2_holes 1 σ), .ref 71]) rfl rfl (fun _ _ => rfl) (c_X2_holes_1  σ) (j_dd rfl hd) rfl ?_
        refine j_callPi (pc' := 58) (ai := 95) (vs := [.ref 71, .int (f_X2_holes 1 σ), .int (f_X2_holes 1 σ)]) (rest := []) rfl rfl (fun _ _ => rfl) (c_X8_isBelow_71 (f_X2_holes 1 σ) (f_X2_holes 1 σ) σ) (j_dd rfl hd) rfl (fun v3 => ?_)
        refine j_two (pT := 61) (pF := 65) (L1 := [some (.ref 0), some (.int (2 : Int32))]) (st1 := []) (fun o kT kF => ?_) (fun h12 => ?_) (fun h12 => ?_)
        · refine j_ifeq (t := 65) (pc' := 61) rfl rfl rfl (fun h13 => ?_) (fun h13 => ?_)
          · exact kF (fun z => z h13)
          · exact kT h13
        · refine j_iconst (pc' := 62) (x := (0 : Int32)) rfl rfl rfl ?_
          refine j_goto (t := 67) rfl rfl ?_
          exact j_ret rfl rfl rfl (fun _ h => h)
        · refine j_bipush (pc' := 67) (x := (-2 : Int32)) rfl rfl rfl ?_
          exact j_ret rfl rfl rfl (fun _ h => h)
    refine j_spl (k := (3 : Int32)) (fun h16 => ?_) (fun h16 => ?_)
    · subst h16
      refine j_aald (pc' := 26) (r := 73) rfl rfl j_a42 (by decide) rfl ?_
      refine j_callTi (pc' := 29) (ai := 91) (vs := [.ref 73]) (rest := []) rfl rfl (fun _ _ => rfl) (c_X8_isMade_73  σ) (j_dd rfl hd) rfl ?_
      refine j_two (pT := 32) (pF := 35) (L1 := [some (.ref 0), some (.int (3 : Int32))]) (st1 := []) (fun o kT kF => ?_) (fun h19 => ?_) (fun h19 => ?_)
      · refine j_ifne (t := 35) (pc' := 32) rfl rfl rfl (fun h20 => ?_) (fun h20 => ?_)
        · exact kF h20
        · exact kT h20
      · refine j_bipush (pc' := 34) (x := (-6 : Int32)) rfl rfl rfl ?_
        exact j_ret rfl rfl rfl (fun _ h => h)
      · refine j_aload_n (pc' := 36) rfl rfl rfl ?_
        refine j_gfr (pc' := 39) (x := 42) rfl rfl j_a0 rfl rfl ?_
        refine j_iload_n (pc' := 40) rfl rfl rfl ?_
        refine j_aald (pc' := 41) (r := 73) rfl rfl j_a42 (by decide) rfl ?_
        refine j_aload_n (pc' := 42) rfl rfl rfl ?_
        refine j_gfr (pc' := 45) (x := 1) rfl rfl j_a0 rfl rfl ?_
        refine j_callTi (pc' := 48) (ai := 12) (vs := [.ref 1]) (rest := [.ref 73]) rfl rfl (fun _ _ => rfl) (c_X2_holes_1  σ) (j_dd rfl hd) rfl ?_
        refine j_aload_n (pc' := 49) rfl rfl rfl ?_
        refine j_gfr (pc' := 52) (x := 1) rfl rfl j_a0 rfl rfl ?_
        refine j_callTi (pc' := 55) (ai := 12) (vs := [.ref 1]) (rest := [.int (f_X2_holes 1 σ), .ref 73]) rfl rfl (fun _ _ => rfl) (c_X2_holes_1  σ) (j_dd rfl hd) rfl ?_
        refine j_callPi (pc' := 58) (ai := 95) (vs := [.ref 73, .int (f_X2_holes 1 σ), .int (f_X2_holes 1 σ)]) (rest := []) rfl rfl (fun _ _ => rfl) (c_X8_isBelow_73 (f_X2_holes 1 σ) (f_X2_holes 1 σ) σ) (j_dd rfl hd) rfl (fun v4 => ?_)
        refine j_two (pT := 61) (pF := 65) (L1 := [some (.ref 0), some (.int (3 : Int32))]) (st1 := []) (fun o kT kF => ?_) (fun h17 => ?_) (fun h17 => ?_)
        · refine j_ifeq (t := 65) (pc' := 61) rfl rfl rfl (fun h18 => ?_) (fun h18 => ?_)
          · exact kF (fun z => z h18)
          · exact kT h18
        · refine j_iconst (pc' := 62) (x := (0 : Int32)) rfl rfl rfl ?_
          refine j_goto (t := 67) rfl rfl ?_
          exact j_ret rfl rfl rfl (fun _ h => h)
        · refine j_bipush (pc' := 67) (x := (-2 : Int32)) rfl rfl rfl ?_
          exact j_ret rfl rfl rfl (fun _ h => h)
    exact j_none

noncomputable def p_X8_isPeriod_2 (a0 : Nat) (a0_2 : Nat) (l1 : Int32) (σ : j_G) : Nat → Int32 → Option Int32
  | 0, _ => none
  | n + 1, l2 =>
    if l2 < (σ.1 a0 0) then (j_ix l2 60 (
    j_ix (l2 - l1) 60 (
    if ¬ (σ.2 a0_2 (l2).toNatClampNeg) = (σ.2 a0_2 ((l2 - l1)).toNatClampNeg) then (some (0 : Int32)) else (p_X8_isPeriod_2 a0 a0_2 l1 σ n (l2 + (1 : Int32)))))) else (some (1 : Int32))

noncomputable def f_X8_isPeriod (a0 : Nat) (a0_2 : Nat) (l1 : Int32) (σ : j_G) : Option Int32 :=
  p_X8_isPeriod_2 a0 a0_2 l1 σ j_F l1
theorem l_X8_isPeriod_2_67 {d : Nat} (hd : 0 ≤ d) (τ : j_G) (l1 : Int32) (σ : j_G) : ∀ (n : Nat) (l2 : Int32), j_J true τ M_cX8_isPeriod d 2 [some (.ref 67), some (.int l1), some (.int l2)] [] σ (p_X8_isPeriod_2 67 68 l1 σ n l2) (j_Pi σ) := by
  intro n
  induction n with
  | zero => intro l2; exact j_none
  | succ n ih =>
    intro l2
    unfold p_X8_isPeriod_2
    refine j_iload_n (pc' := 3) rfl rfl rfl ?_
    refine j_aload_n (pc' := 4) rfl rfl rfl ?_
    refine j_gfi (pc' := 7) rfl rfl j_a67 rfl ?_
    refine j_two (pT := 10) (pF := 36) (L1 := [some (.ref 67), some (.int l1), some (.int l2)]) (st1 := []) (fun o kT kF => ?_) (fun h3 => ?_) (fun h3 => ?_)
    · refine j_icge (t := 36) (pc' := 10) rfl rfl rfl (fun h4 => ?_) (fun h4 => ?_)
      · exact kF h4
      · exact kT h4
    · refine j_aload_n (pc' := 11) rfl rfl rfl ?_
      refine j_gfr (pc' := 14) (x := 68) rfl rfl j_a67 rfl rfl ?_
      refine j_iload_n (pc' := 15) rfl rfl rfl ?_
      refine j_lald (pc' := 16) rfl rfl j_a68 ?_
      refine j_aload_n (pc' := 17) rfl rfl rfl ?_
      refine j_gfr (pc' := 20) (x := 68) rfl rfl j_a67 rfl rfl ?_
      refine j_iload_n (pc' := 21) rfl rfl rfl ?_
      refine j_iload_n (pc' := 22) rfl rfl rfl ?_
      refine j_isub (pc' := 23) rfl rfl ?_
      refine j_lald (pc' := 24) rfl rfl j_a68 ?_
      refine j_lcmp (pc' := 25) rfl rfl ?_
      refine j_two (pT := 28) (pF := 30) (L1 := [some (.ref 67), some (.int l1), some (.int l2)]) (st1 := []) (fun o kT kF => ?_) (fun h1 => ?_) (fun h1 => ?_)
      · refine j_ifeqL (t := 30) (pc' := 28) rfl rfl rfl (fun h2 => ?_) (fun h2 => ?_)
        · exact kF (fun z => z h2)
        · exact kT h2
      · refine j_iconst (pc' := 29) (x := (0 : Int32)) rfl rfl rfl ?_
        exact j_ret rfl rfl rfl (fun _ h => h)
      · refine j_iincx (pc' := 33) (y := (1 : Int32)) (L' := [some (.ref 67), some (.int l1), some (.int (l2 + (1 : Int32)))]) rfl rfl rfl rfl rfl ?_
        refine j_goto (t := 2) rfl rfl ?_
        exact ih (l2 + (1 : Int32))
    · refine j_iconst (pc' := 37) (x := (1 : Int32)) rfl rfl rfl ?_
      exact j_ret rfl rfl rfl (fun _ h => h)

theorem c_X8_isPeriod_67 (l1 : Int32) (σ : j_G) : j_K true 0 96 [.ref 67, .int l1] σ (f_X8_isPeriod 67 68 l1 σ) (j_Pi σ) := by
  refine j_mkK (M := M_cX8_isPeriod) (L := [some (.ref 67), some (.int l1), none]) (m := 1) t_96 rfl (j_rcvO j_a67 rfl) rfl (fun d hd τ => ?_)
  unfold f_X8_isPeriod
  refine j_iload_n (pc' := 1) rfl rfl rfl ?_
  refine j_istore_n (pc' := 2) (L' := [some (.ref 67), some (.int l1), some (.int l1)]) rfl rfl rfl ?_
  exact (l_X8_isPeriod_2_67 hd τ l1 σ j_F l1)

noncomputable def p_X8_leastPeriod_2 (a0 : Nat) (a0_2 : Nat) (σ : j_G) : Nat → Int32 → Option Int32
  | 0, _ => none
  | n + 1, l1 =>
    if l1 < (σ.1 a0 0) then (j_b1 (f_X8_isPeriod a0 a0_2 l1 σ) fun v1 =>
    if ¬ v1 = 0 then (some l1) else (p_X8_leastPeriod_2 a0 a0_2 σ n (l1 + (1 : Int32)))) else (some (-1 : Int32))

noncomputable def f_X8_leastPeriod (a0 : Nat) (a0_2 : Nat) (σ : j_G) : Option Int32 :=
  p_X8_leastPeriod_2 a0 a0_2 σ j_F (1 : Int32)
theorem l_X8_leastPeriod_2_67 {d : Nat} (hd : 1 ≤ d) (τ : j_G) (σ : j_G) : ∀ (n : Nat) (l1 : Int32), j_J true τ M_cX8_leastPeriod d 2 [some (.ref 67), some (.int l1)] [] σ (p_X8_leastPeriod_2 67 68 σ n l1) (j_Pi σ) := by
  intro n
  induction n with
  | zero => intro l1; exact j_none
  | succ n ih =>
    intro l1
    unfold p_X8_leastPeriod_2
    refine j_iload_n (pc' := 3) rfl rfl rfl ?_
    refine j_aload_n (pc' := 4) rfl rfl rfl ?_
    refine j_gfi (pc' := 7) rfl rfl j_a67 rfl ?_
    refine j_two (pT := 10) (pF := 26) (L1 := [some (.ref 67), some (.int l1)]) (st1 := []) (fun o kT kF => ?_) (fun h3 => ?_) (fun h3 => ?_)
    · refine j_icge (t := 26) (pc' := 10) rfl rfl rfl (fun h4 => ?_) (fun h4 => ?_)
      · exact kF h4
      · exact kT h4
    · refine j_aload_n (pc' := 11) rfl rfl rfl ?_
      refine j_iload_n (pc' := 12) rfl rfl rfl ?_
      refine j_callPi (pc' := 15) (ai := 96) (vs := [.ref 67, .int l1]) (rest := []) rfl rfl (fun _ _ => rfl) (c_X8_isPeriod_67 l1 σ) (j_dd rfl hd) rfl (fun v1 => ?_)
      refine j_two (pT := 18) (pF := 20) (L1 := [some (.ref 67), some (.int l1)]) (st1 := []) (fun o kT kF => ?_) (fun h1 => ?_) (fun h1 => ?_)
      · refine j_ifeq (t := 20) (pc' := 18) rfl rfl rfl (fun h2 => ?_) (fun h2 => ?_)
        · exact kF (fun z => z h2)
        · exact kT h2
      · refine j_iload_n (pc' := 19) rfl rfl rfl ?_
        exact j_ret rfl rfl rfl (fun _ h => h)
      · refine j_iincx (pc' := 23) (y := (1 : Int32)) (L' := [some (.ref 67), some (.int (l1 + (1 : Int32)))]) rfl rfl rfl rfl rfl ?_
        refine j_goto (t := 2) rfl rfl ?_
        exact ih (l1 + (1 : Int32))
    · refine j_iconst (pc' := 27) (x := (-1 : Int32)) rfl rfl rfl ?_
      exact j_ret rfl rfl rfl (fun _ h => h)

theorem c_X8_leastPeriod_67 (σ : j_G) : j_K true 1 97 [.ref 67] σ (f_X8_leastPeriod 67 68 σ) (j_Pi σ) := by
  refine j_mkK (M := M_cX8_leastPeriod) (L := [some (.ref 67), none]) (m := 1) t_97 rfl (j_rcvO j_a67 rfl) rfl (fun d hd τ => ?_)
  unfold f_X8_leastPeriod
  refine j_iconst (pc' := 1) (x := (1 : Int32)) rfl rfl rfl ?_
  refine j_istore_n (pc' := 2) (L' := [some (.ref 67), some (.int (1 : Int32))]) rfl rfl rfl ?_
  exact (l_X8_leastPeriod_2_67 hd τ σ j_F (1 : Int32))

theorem l_X8_isPeriod_2_69 {d : Nat} (hd : 0 ≤ d) (τ : j_G) (l1 : Int32) (σ : j_G) : ∀ (n : Nat) (l2 : Int32), j_J true τ M_cX8_isPeriod d 2 [some (.ref 69), some (.int l1), some (.int l2)] [] σ (p_X8_isPeriod_2 69 70 l1 σ n l2) (j_Pi σ) := by
  intro n
  induction n with
  | zero => intro l2; exact j_none
  | succ n ih =>
    intro l2
    unfold p_X8_isPeriod_2
    refine j_iload_n (pc' := 3) rfl rfl rfl ?_
    refine j_aload_n (pc' := 4) rfl rfl rfl ?_
    refine j_gfi (pc' := 7) rfl rfl j_a69 rfl ?_
    refine j_two (pT := 10) (pF := 36) (L1 := [some (.ref 69), some (.int l1), some (.int l2)]) (st1 := []) (fun o kT kF => ?_) (fun h3 => ?_) (fun h3 => ?_)
    · refine j_icge (t := 36) (pc' := 10) rfl rfl rfl (fun h4 => ?_) (fun h4 => ?_)
      · exact kF h4
      · exact kT h4
    · refine j_aload_n (pc' := 11) rfl rfl rfl ?_
      refine j_gfr (pc' := 14) (x := 70) rfl rfl j_a69 rfl rfl ?_
      refine j_iload_n (pc' := 15) rfl rfl rfl ?_
      refine j_lald (pc' := 16) rfl rfl j_a70 ?_
      refine j_aload_n (pc' := 17) rfl rfl rfl ?_
      refine j_gfr (pc' := 20) (x := 70) rfl rfl j_a69 rfl rfl ?_
      refine j_iload_n (pc' := 21) rfl rfl rfl ?_
      refine j_iload_n (pc' := 22) rfl rfl rfl ?_
      refine j_isub (pc' := 23) rfl rfl ?_
      refine j_lald (pc' := 24) rfl rfl j_a70 ?_
      refine j_lcmp (pc' := 25) rfl rfl ?_
      refine j_two (pT := 28) (pF := 30) (L1 := [some (.ref 69), some (.int l1), some (.int l2)]) (st1 := []) (fun o kT kF => ?_) (fun h1 => ?_) (fun h1 => ?_)
      · refine j_ifeqL (t := 30) (pc' := 28) rfl rfl rfl (fun h2 => ?_) (fun h2 => ?_)
        · exact kF (fun z => z h2)
        · exact kT h2
      · refine j_iconst (pc' := 29) (x := (0 : Int32)) rfl rfl rfl ?_
        exact j_ret rfl rfl rfl (fun _ h => h)
      · refine j_iincx (pc' := 33) (y := (1 : Int32)) (L' := [some (.ref 69), some (.int l1), some (.int (l2 + (1 : Int32)))]) rfl rfl rfl rfl rfl ?_
        refine j_goto (t := 2) rfl rfl ?_
        exact ih (l2 + (1 : Int32))
    · refine j_iconst (pc' := 37) (x := (1 : Int32)) rfl rfl rfl ?_
      exact j_ret rfl rfl rfl (fun _ h => h)

theorem c_X8_isPeriod_69 (l1 : Int32) (σ : j_G) : j_K true 0 96 [.ref 69, .int l1] σ (f_X8_isPeriod 69 70 l1 σ) (j_Pi σ) := by
  refine j_mkK (M := M_cX8_isPeriod) (L := [some (.ref 69), some (.int l1), none]) (m := 1) t_96 rfl (j_rcvO j_a69 rfl) rfl (fun d hd τ => ?_)
  unfold f_X8_isPeriod
  refine j_iload_n (pc' := 1) rfl rfl rfl ?_
  refine j_istore_n (pc' := 2) (L' := [some (.ref 69), some (.int l1), some (.int l1)]) rfl rfl rfl ?_
  exact (l_X8_isPeriod_2_69 hd τ l1 σ j_F l1)

theorem l_X8_leastPeriod_2_69 {d : Nat} (hd : 1 ≤ d) (τ : j_G) (σ : j_G) : ∀ (n : Nat) (l1 : Int32), j_J true τ M_cX8_leastPeriod d 2 [some (.ref 69), some (.int l1)] [] σ (p_X8_leastPeriod_2 69 70 σ n l1) (j_Pi σ) := by
  intro n
  induction n with
  | zero => intro l1; exact j_none
  | succ n ih =>
    intro l1
    unfold p_X8_leastPeriod_2
    refine j_iload_n (pc' := 3) rfl rfl rfl ?_
    refine j_aload_n (pc' := 4) rfl rfl rfl ?_
    refine j_gfi (pc' := 7) rfl rfl j_a69 rfl ?_
    refine j_two (pT := 10) (pF := 26) (L1 := [some (.ref 69), some (.int l1)]) (st1 := []) (fun o kT kF => ?_) (fun h3 => ?_) (fun h3 => ?_)
    · refine j_icge (t := 26) (pc' := 10) rfl rfl rfl (fun h4 => ?_) (fun h4 => ?_)
      · exact kF h4
      · exact kT h4
    · refine j_aload_n (pc' := 11) rfl rfl rfl ?_
      refine j_iload_n (pc' := 12) rfl rfl rfl ?_
      refine j_callPi (pc' := 15) (ai := 96) (vs := [.ref 69, .int l1]) (rest := []) rfl rfl (fun _ _ => rfl) (c_X8_isPeriod_69 l1 σ) (j_dd rfl hd) rfl (fun v1 => ?_)
      refine j_two (pT := 18) (pF := 20) (L1 := [some (.ref 69), some (.int l1)]) (st1 := []) (fun o kT kF => ?_) (fun h1 => ?_) (fun h1 => ?_)
      · refine j_ifeq (t := 20) (pc' := 18) rfl rfl rfl (fun h2 => ?_) (fun h2 => ?_)
        · exact kF (fun z => z h2)
        · exact kT h2
      · refine j_iload_n (pc' := 19) rfl rfl rfl ?_
        exact j_ret rfl rfl rfl (fun _ h => h)
      · refine j_iincx (pc' := 23) (y := (1 : Int32)) (L' := [some (.ref 69), some (.int (l1 + (1 : Int32)))]) rfl rfl rfl rfl rfl ?_
        refine j_goto (t := 2) rfl rfl ?_
        exact ih (l1 + (1 : Int32))
    · refine j_iconst (pc' := 27) (x := (-1 : Int32)) rfl rfl rfl ?_
      exact j_ret rfl rfl rfl (fun _ h => h)

theorem c_X8_leastPeriod_69 (σ : j_G) : j_K true 1 97 [.ref 69] σ (f_X8_leastPeriod 69 70 σ) (j_Pi σ) := by
  refine j_mkK (M := M_cX8_leastPeriod) (L := [some (.ref 69), none]) (m := 1) t_97 rfl (j_rcvO j_a69 rfl) rfl (fun d hd τ => ?_)
  unfold f_X8_leastPeriod
  refine j_iconst (pc' := 1) (x := (1 : Int32)) rfl rfl rfl ?_
  refine j_istore_n (pc' := 2) (L' := [some (.ref 69), some (.int (1 : Int32))]) rfl rfl rfl ?_
  exact (l_X8_leastPeriod_2_69 hd τ σ j_F (1 : Int32))

theorem l_X8_isPeriod_2_71 {d : Nat} (hd : 0 ≤ d) (τ : j_G) (l1 : Int32) (σ : j_G) : ∀ (n : Nat) (l2 : Int32), j_J true τ M_cX8_isPeriod d 2 [some (.ref 71), some (.int l1), some (.int l2)] [] σ (p_X8_isPeriod_2 71 72 l1 σ n l2) (j_Pi σ) := by
  intro n
  induction n with
  | zero => intro l2; exact j_none
  | succ n ih =>
    intro l2
    unfold p_X8_isPeriod_2
    refine j_iload_n (pc' := 3) rfl rfl rfl ?_
    refine j_aload_n (pc' := 4) rfl rfl rfl ?_
    refine j_gfi (pc' := 7) rfl rfl j_a71 rfl ?_
    refine j_two (pT := 10) (pF := 36) (L1 := [some (.ref 71), some (.int l1), some (.int l2)]) (st1 := []) (fun o kT kF => ?_) (fun h3 => ?_) (fun h3 => ?_)
    · refine j_icge (t := 36) (pc' := 10) rfl rfl rfl (fun h4 => ?_) (fun h4 => ?_)
      · exact kF h4
      · exact kT h4
    · refine j_aload_n (pc' := 11) rfl rfl rfl ?_
      refine j_gfr (pc' := 14) (x := 72) rfl rfl j_a71 rfl rfl ?_
      refine j_iload_n (pc' := 15) rfl rfl rfl ?_
      refine j_lald (pc' := 16) rfl rfl j_a72 ?_
      refine j_aload_n (pc' := 17) rfl rfl rfl ?_
      refine j_gfr (pc' := 20) (x := 72) rfl rfl j_a71 rfl rfl ?_
      refine j_iload_n (pc' := 21) rfl rfl rfl ?_
      refine j_iload_n (pc' := 22) rfl rfl rfl ?_
      refine j_isub (pc' := 23) rfl rfl ?_
      refine j_lald (pc' := 24) rfl rfl j_a72 ?_
      refine j_lcmp (pc' := 25) rfl rfl ?_
      refine j_two (pT := 28) (pF := 30) (L1 := [some (.ref 71), some (.int l1), some (.int l2)]) (st1 := []) (fun o kT kF => ?_) (fun h1 => ?_) (fun h1 => ?_)
      · refine j_ifeqL (t := 30) (pc' := 28) rfl rfl rfl (fun h2 => ?_) (fun h2 => ?_)
        · exact kF (fun z => z h2)
        · exact kT h2
      · refine j_iconst (pc' := 29) (x := (0 : Int32)) rfl rfl rfl ?_
        exact j_ret rfl rfl rfl (fun _ h => h)
      · refine j_iincx (pc' := 33) (y := (1 : Int32)) (L' := [some (.ref 71), some (.int l1), some (.int (l2 + (1 : Int32)))]) rfl rfl rfl rfl rfl ?_
        refine j_goto (t := 2) rfl rfl ?_
        exact ih (l2 + (1 : Int32))
    · refine j_iconst (pc' := 37) (x := (1 : Int32)) rfl rfl rfl ?_
      exact j_ret rfl rfl rfl (fun _ h => h)

theorem c_X8_isPeriod_71 (l1 : Int32) (σ : j_G) : j_K true 0 96 [.ref 71, .int l1] σ (f_X8_isPeriod 71 72 l1 σ) (j_Pi σ) := by
  refine j_mkK (M := M_cX8_isPeriod) (L := [some (.ref 71), some (.int l1), none]) (m := 1) t_96 rfl (j_rcvO j_a71 rfl) rfl (fun d hd τ => ?_)
  unfold f_X8_isPeriod
  refine j_iload_n (pc' := 1) rfl rfl rfl ?_
  refine j_istore_n (pc' := 2) (L' := [some (.ref 71), some (.int l1), some (.int l1)]) rfl rfl rfl ?_
  exact (l_X8_isPeriod_2_71 hd τ l1 σ j_F l1)

theorem l_X8_leastPeriod_2_71 {d : Nat} (hd : 1 ≤ d) (τ : j_G) (σ : j_G) : ∀ (n : Nat) (l1 : Int32), j_J true τ M_cX8_leastPeriod d 2 [some (.ref 71), some (.int l1)] [] σ (p_X8_leastPeriod_2 71 72 σ n l1) (j_Pi σ) := by
  intro n
  induction n with
  | zero => intro l1; exact j_none
  | succ n ih =>
    intro l1
    unfold p_X8_leastPeriod_2
    refine j_iload_n (pc' := 3) rfl rfl rfl ?_
    refine j_aload_n (pc' := 4) rfl rfl rfl ?_
    refine j_gfi (pc' := 7) rfl rfl j_a71 rfl ?_
    refine j_two (pT := 10) (pF := 26) (L1 := [some (.ref 71), some (.int l1)]) (st1 := []) (fun o kT kF => ?_) (fun h3 => ?_) (fun h3 => ?_)
    · refine j_icge (t := 26) (pc' := 10) rfl rfl rfl (fun h4 => ?_) (fun h4 => ?_)
      · exact kF h4
      · exact kT h4
    · refine j_aload_n (pc' := 11) rfl rfl rfl ?_
      refine j_iload_n (pc' := 12) rfl rfl rfl ?_
      refine j_callPi (pc' := 15) (ai := 96) (vs := [.ref 71, .int l1]) (rest := []) rfl rfl (fun _ _ => rfl) (c_X8_isPeriod_71 l1 σ) (j_dd rfl hd) rfl (fun v1 => ?_)
      refine j_two (pT := 18) (pF := 20) (L1 := [some (.ref 71), some (.int l1)]) (st1 := []) (fun o kT kF => ?_) (fun h1 => ?_) (fun h1 => ?_)
      · refine j_ifeq (t := 20) (pc' := 18) rfl rfl rfl (fun h2 => ?_) (fun h2 => ?_)
        · exact kF (fun z => z h2)
        · exact kT h2
      · refine j_iload_n (pc' := 19) rfl rfl rfl ?_
        exact j_ret rfl rfl rfl (fun _ h => h)
      · refine j_iincx (pc' := 23) (y := (1 : Int32)) (L' := [some (.ref 71), some (.int (l1 + (1 : Int32)))]) rfl rfl rfl rfl rfl ?_
        refine j_goto (t := 2) rfl rfl ?_
        exact ih (l1 + (1 : Int32))
    · refine j_iconst (pc' := 27) (x := (-1 : Int32)) rfl rfl rfl ?_
      exact j_ret rfl rfl rfl (fun _ h => h)

theorem c_X8_leastPeriod_71 (σ : j_G) : j_K true 1 97 [.ref 71] σ (f_X8_leastPeriod 71 72 σ) (j_Pi σ) := by
  refine j_mkK (M := M_cX8_leastPeriod) (L := [some (.ref 71), none]) (m := 1) t_97 rfl (j_rcvO j_a71 rfl) rfl (fun d hd τ => ?_)
  unfold f_X8_leastPeriod
  refine j_iconst (pc' := 1) (x := (1 : Int32)) rfl rfl rfl ?_
  refine j_istore_n (pc' := 2) (L' := [some (.ref 71), some (.int (1 : Int32))]) rfl rfl rfl ?_
  exact (l_X8_leastPeriod_2_71 hd τ σ j_F (1 : Int32))

theorem l_X8_isPeriod_2_73 {d : Nat} (hd : 0 ≤ d) (τ : j_G) (l1 : Int32) (σ : j_G) : ∀ (n : Nat) (l2 : Int32), j_J true τ M_cX8_isPeriod d 2 [some (.ref 73), some (.int l1), some (.int l2)] [] σ (p_X8_isPeriod_2 73 74 l1 σ n l2) (j_Pi σ) := by
  intro n
  induction n with
  | zero => intro l2; exact j_none
  | succ n ih =>
    intro l2
    unfold p_X8_isPeriod_2
    refine j_iload_n (pc' := 3) rfl rfl rfl ?_
    refine j_aload_n (pc' := 4) rfl rfl rfl ?_
    refine j_gfi (pc' := 7) rfl rfl j_a73 rfl ?_
    refine j_two (pT := 10) (pF := 36) (L1 := [some (.ref 73), some (.int l1), some (.int l2)]) (st1 := []) (fun o kT kF => ?_) (fun h3 => ?_) (fun h3 => ?_)
    · refine j_icge (t := 36) (pc' := 10) rfl rfl rfl (fun h4 => ?_) (fun h4 => ?_)
      · exact kF h4
      · exact kT h4
    · refine j_aload_n (pc' := 11) rfl rfl rfl ?_
      refine j_gfr (pc' := 14) (x := 74) rfl rfl j_a73 rfl rfl ?_
      refine j_iload_n (pc' := 15) rfl rfl rfl ?_
      refine j_lald (pc' := 16) rfl rfl j_a74 ?_
      refine j_aload_n (pc' := 17) rfl rfl rfl ?_
      refine j_gfr (pc' := 20) (x := 74) rfl rfl j_a73 rfl rfl ?_
      refine j_iload_n (pc' := 21) rfl rfl rfl ?_
      refine j_iload_n (pc' := 22) rfl rfl rfl ?_
      refine j_isub (pc' := 23) rfl rfl ?_
      refine j_lald (pc' := 24) rfl rfl j_a74 ?_
      refine j_lcmp (pc' := 25) rfl rfl ?_
      refine j_two (pT := 28) (pF := 30) (L1 := [some (.ref 73), some (.int l1), some (.int l2)]) (st1 := []) (fun o kT kF => ?_) (fun h1 => ?_) (fun h1 => ?_)
      · refine j_ifeqL (t := 30) (pc' := 28) rfl rfl rfl (fun h2 => ?_) (fun h2 => ?_)
        · exact kF (fun z => z h2)
        · exact kT h2
      · refine j_iconst (pc' := 29) (x := (0 : Int32)) rfl rfl rfl ?_
        exact j_ret rfl rfl rfl (fun _ h => h)
      · refine j_iincx (pc' := 33) (y := (1 : Int32)) (L' := [some (.ref 73), some (.int l1), some (.int (l2 + (1 : Int32)))]) rfl rfl rfl rfl rfl ?_
        refine j_goto (t := 2) rfl rfl ?_
        exact ih (l2 + (1 : Int32))
    · refine j_iconst (pc' := 37) (x := (1 : Int32)) rfl rfl rfl ?_
      exact j_ret rfl rfl rfl (fun _ h => h)

theorem c_X8_isPeriod_73 (l1 : Int32) (σ : j_G) : j_K true 0 96 [.ref 73, .int l1] σ (f_X8_isPeriod 73 74 l1 σ) (j_Pi σ) := by
  refine j_mkK (M := M_cX8_isPeriod) (L := [some (.ref 73), some (.int l1), none]) (m := 1) t_96 rfl (j_rcvO j_a73 rfl) rfl (fun d hd τ => ?_)
  unfold f_X8_isPeriod
  refine j_iload_n (pc' := 1) rfl rfl rfl ?_
  refine j_istore_n (pc' := 2) (L' := [some (.ref 73), some (.int l1), some (.int l1)]) rfl rfl rfl ?_
  exact (l_X8_isPeriod_2_73 hd τ l1 σ j_F l1)

theorem l_X8_leastPeriod_2_73 {d : Nat} (hd : 1 ≤ d) (τ : j_G) (σ : j_G) : ∀ (n : Nat) (l1 : Int32), j_J true τ M_cX8_leastPeriod d 2 [some (.ref 73), some (.int l1)] [] σ (p_X8_leastPeriod_2 73 74 σ n l1) (j_Pi σ) := by
  intro n
  induction n with
  | zero => intro l1; exact j_none
  | succ n ih =>
    intro l1
    unfold p_X8_leastPeriod_2
    refine j_iload_n (pc' := 3) rfl rfl rfl ?_
    refine j_aload_n (pc' := 4) rfl rfl rfl ?_
    refine j_gfi (pc' := 7) rfl rfl j_a73 rfl ?_
    refine j_two (pT := 10) (pF := 26) (L1 := [some (.ref 73), some (.int l1)]) (st1 := []) (fun o kT kF => ?_) (fun h3 => ?_) (fun h3 => ?_)
    · refine j_icge (t := 26) (pc' := 10) rfl rfl rfl (fun h4 => ?_) (fun h4 => ?_)
      · exact kF h4
      · exact kT h4
    · refine j_aload_n (pc' := 11) rfl rfl rfl ?_
      refine j_iload_n (pc' := 12) rfl rfl rfl ?_
      refine j_callPi (pc' := 15) (ai := 96) (vs := [.ref 73, .int l1]) (rest := []) rfl rfl (fun _ _ => rfl) (c_X8_isPeriod_73 l1 σ) (j_dd rfl hd) rfl (fun v1 => ?_)
      refine j_two (pT := 18) (pF := 20) (L1 := [some (.ref 73), some (.int l1)]) (st1 := []) (fun o kT kF => ?_) (fun h1 => ?_) (fun h1 => ?_)
      · refine j_ifeq (t := 20) (pc' := 18) rfl rfl rfl (fun h2 => ?_) (fun h2 => ?_)
        · exact kF (fun z => z h2)
        · exact kT h2
      · refine j_iload_n (pc' := 19) rfl rfl rfl ?_
        exact j_ret rfl rfl rfl (fun _ h => h)
      · refine j_iincx (pc' := 23) (y := (1 : Int32)) (L' := [some (.ref 73), some (.int (l1 + (1 : Int32)))]) rfl rfl rfl rfl rfl ?_
        refine j_goto (t := 2) rfl rfl ?_
        exact ih (l1 + (1 : Int32))
    · refine j_iconst (pc' := 27) (x := (-1 : Int32)) rfl rfl rfl ?_
      exact j_ret rfl rfl rfl (fun _ h => h)

theorem c_X8_leastPeriod_73 (σ : j_G) : j_K true 1 97 [.ref 73] σ (f_X8_leastPeriod 73 74 σ) (j_Pi σ) := by
  refine j_mkK (M := M_cX8_leastPeriod) (L := [some (.ref 73), none]) (m := 1) t_97 rfl (j_rcvO j_a73 rfl) rfl (fun d hd τ => ?_)
  unfold f_X8_leastPeriod
  refine j_iconst (pc' := 1) (x := (1 : Int32)) rfl rfl rfl ?_
  refine j_istore_n (pc' := 2) (L' := [some (.ref 73), some (.int (1 : Int32))]) rfl rfl rfl ?_
  exact (l_X8_leastPeriod_2_73 hd τ σ j_F (1 : Int32))

noncomputable def f_X11_period (l1 : Int32) (σ : j_G) : Option Int32 :=
  j_b1 (f_X11_whyUnheard l1 σ) fun v1 =>
  if v1 = 0 then (if l1 = 0 then (j_b1 (f_X8_leastPeriod 67 68 σ) fun v2 =>
  some v2) else
  if l1 = 1 then (j_b1 (f_X8_leastPeriod 69 70 σ) fun v3 =>
  some v3) else
  if l1 = 2 then (j_b1 (f_X8_leastPeriod 71 72 σ) fun v4 =>
  some v4) else
  if l1 = 3 then (j_b1 (f_X8_leastPeriod 73 74 σ) fun v5 =>
  some v5) else
  none) else (some v1)
theorem c_X11_period (l1 : Int32) (σ : j_G) : j_K true 2 148 [.ref 0, .int l1] σ (f_X11_period l1 σ) (j_Pi σ) := by
  refine j_mkK (M := M_cX11_period) (L := [some (.ref 0), some (.int l1), none]) (m := 1) t_148 rfl (j_rcvO j_a0 rfl) rfl (fun d hd τ => ?_)
  unfold f_X11_period
  refine j_aload_n (pc' := 1) rfl rfl rfl ?_
  refine j_iload_n (pc' := 2) rfl rfl rfl ?_
  refine j_callPi (pc' := 5) (ai := 193) (vs := [.ref 0, .int l1]) (rest := []) rfl rfl (fun _ _ => rfl) (c_X11_whyUnheard l1 σ) (j_dd rfl hd) rfl (fun v1 => ?_)
  refine j_istore_n (pc' := 6) (L' := [some (.ref 0), some (.int l1), some (.int v1)]) rfl rfl rfl ?_
  refine j_iload_n (pc' := 7) rfl rfl rfl ?_
  refine j_two (pT := 10) (pF := 22) (L1 := [some (.ref 0), some (.int l1), some (.int v1)]) (st1 := []) (fun o kT kF => ?_) (fun h5 => ?_) (fun h5 => ?_)
  · refine j_ifne (t := 22) (pc' := 10) rfl rfl rfl (fun h6 => ?_) (fun h6 => ?_)
    · exact kF h6
    · exact kT h6
  · refine j_aload_n (pc' := 11) rfl rfl rfl ?_
    refine j_gfr (pc' := 14) (x := 42) rfl rfl j_a0 rfl rfl ?_
    refine j_iload_n (pc' := 15) rfl rfl rfl ?_
    refine j_spl (k := (0 : Int32)) (fun h1 => ?_) (fun h1 => ?_)
    · subst h1
      refine j_aald (pc' := 16) (r := 67) rfl rfl j_a42 (by decide) rfl ?_
      refine j_callPi (pc' := 19) (ai := 97) (vs := [.ref 67]) (rest := []) rfl rfl (fun _ _ => rfl) (c_X8_leastPeriod_67  σ) (j_dd rfl hd) rfl (fun v2 => ?_)
      refine j_goto (t := 23) rfl rfl ?_
      exact j_ret rfl rfl rfl (fun _ h => h)
    refine j_spl (k := (1 : Int32)) (fun h2 => ?_) (fun h2 => ?_)
    · subst h2
      refine j_aald (pc' := 16) (r := 69) rfl rfl j_a42 (by decide) rfl ?_
      refine j_callPi (pc' := 19) (ai := 97) (vs := [.ref 69]) (rest := []) rfl rfl (fun _ _ => rfl) (c_X8_leastPeriod_69  σ) (j_dd rfl hd) rfl (fun v3 => ?_)
      refine j_goto (t := 23) rfl rfl ?_
      exact j_ret rfl rfl rfl (fun _ h => h)
    refine j_spl (k := (2 : Int32)) (fun h3 => ?_) (fun h3 => ?_)
    · subst h3
      refine j_aald (pc' := 16) (r := 71) rfl rfl j_a42 (by decide) rfl ?_
      refine j_callPi (pc' := 19) (ai := 97) (vs := [.ref 71]) (rest := []) rfl rfl (fun _ _ => rfl) (c_X8_leastPeriod_71  σ) (j_dd rfl hd) rfl (fun v4 => ?_)
      refine j_goto (t := 23) rfl rfl ?_
      exact j_ret rfl rfl rfl (fun _ h => h)
    refine j_spl (k := (3 : Int32)) (fun h4 => ?_) (fun h4 => ?_)
    · subst h4
      refine j_aald (pc' := 16) (r := 73) rfl rfl j_a42 (by decide) rfl ?_
      refine j_callPi (pc' := 19) (ai := 97) (vs := [.ref 73]) (rest := []) rfl rfl (fun _ _ => rfl) (c_X8_leastPeriod_73  σ) (j_dd rfl hd) rfl (fun v5 => ?_)
      refine j_goto (t := 23) rfl rfl ?_
      exact j_ret rfl rfl rfl (fun _ h => h)
    exact j_none
  · refine j_iload_n (pc' := 23) rfl rfl rfl ?_
    exact j_ret rfl rfl rfl (fun _ h => h)

noncomputable def f_X12_isSlot (l0 : Int32) : Int32 :=
  (f_X12_in (l0).toInt64 (0 : Int64) (3 : Int64))

theorem b_X12_isSlot (l0 : Int32) : f_X12_isSlot l0 = 0 ∨ f_X12_isSlot l0 = 1 := by
  unfold f_X12_isSlot
  exact (b_X12_in (l0).toInt64 (0 : Int64) (3 : Int64))
theorem c_X12_isSlot (l0 : Int32) (σ : j_G) : j_K false 1 351 [.int l0] σ (some (f_X12_isSlot l0)) (j_Pi σ) := by
  refine j_mkK (M := M_cX12_isSlot) (L := [some (.int l0)]) (m := 0) t_351 rfl (j_rcvS rfl) rfl (fun d hd τ => ?_)
  unfold f_X12_isSlot
  refine j_iload_n (pc' := 1) rfl rfl rfl ?_
  refine j_i2l (pc' := 2) rfl rfl ?_
  refine j_lconst (pc' := 3) (x := (0 : Int64)) rfl rfl rfl ?_
  refine j_ldc2_w (pc' := 6) (x := (3 : Int64)) rfl rfl rfl ?_
  refine j_callTi (pc' := 9) (ai := 196) (vs := [.long (l0).toInt64, .long (0 : Int64), .long (3 : Int64)]) (rest := []) rfl rfl (fun _ _ => rfl) (c_X12_in (l0).toInt64 (0 : Int64) (3 : Int64) σ) (j_dd rfl hd) rfl ?_
  exact j_retb rfl rfl (b_X12_in (l0).toInt64 (0 : Int64) (3 : Int64)) (fun _ h => h)

noncomputable def f_X12_numberAt (l1 : Int32) (l2 : Int32) (σ : j_G) : Option Int64 :=
  j_ix (((60 : Int32) * l1) + l2) 240 (
  some (σ.2 96 ((((60 : Int32) * l1) + l2)).toNatClampNeg))
theorem c_X12_numberAt (l1 : Int32) (l2 : Int32) (σ : j_G) : j_K false 0 298 [.ref 75, .int l1, .int l2] σ (f_X12_numberAt l1 l2 σ) (j_Pl σ) := by
  refine j_mkK (M := M_cX12_numberAt) (L := [some (.ref 75), some (.int l1), some (.int l2)]) (m := 0) t_298 rfl (j_rcvO j_a75 rfl) rfl (fun d hd τ => ?_)
  unfold f_X12_numberAt
  refine j_aload_n (pc' := 1) rfl rfl rfl ?_
  refine j_gfr (pc' := 4) (x := 96) rfl rfl j_a75 rfl rfl ?_
  refine j_bipush (pc' := 6) (x := (60 : Int32)) rfl rfl rfl ?_
  refine j_iload_n (pc' := 7) rfl rfl rfl ?_
  refine j_imul (pc' := 8) rfl rfl ?_
  refine j_iload_n (pc' := 9) rfl rfl rfl ?_
  refine j_iadd (pc' := 10) rfl rfl ?_
  refine j_lald (pc' := 11) rfl rfl j_a96 ?_
  exact j_ret rfl rfl rfl (fun _ h => h)

noncomputable def p_X12_asksHeard_32 (l1 : Int32) (σ : j_G) : Nat → Int32 → Option Int32
  | 0, _ => none
  | n + 1, l2 =>
    j_ix l1 4 (
    if l2 < (σ.1 94 (l1).toNatClampNeg) then (j_b1 (f_X12_numberAt l1 l2 σ) fun v1 =>
    j_b1 (f_X12_isHole v1 σ) fun v2 =>
    if v2 = 0 then (some (-2 : Int32)) else (p_X12_asksHeard_32 l1 σ n (l2 + (1 : Int32)))) else (some (0 : Int32)))

noncomputable def f_X12_asksHeard (l1 : Int32) (σ : j_G) : Option Int32 :=
  if ¬ (f_X12_isSlot l1) = 0 then (j_b1 (f_X12_isBoard σ) fun v1 =>
  if v1 = 0 then (some (-2 : Int32)) else (j_ix l1 4 (
  if (σ.1 94 (l1).toNatClampNeg) = (-1 : Int32) then (some (-6 : Int32)) else (p_X12_asksHeard_32 l1 σ j_F (0 : Int32))))) else (some (-2 : Int32))
theorem l_X12_asksHeard_32 {d : Nat} (hd : 2 ≤ d) (τ : j_G) (l1 : Int32) (σ : j_G) : ∀ (n : Nat) (l2 : Int32), j_J false τ M_cX12_asksHeard d 32 [some (.ref 75), some (.int l1), some (.int l2)] [] σ (p_X12_asksHeard_32 l1 σ n l2) (j_Pi σ) := by
  intro n
  induction n with
  | zero => intro l2; exact j_none
  | succ n ih =>
    intro l2
    unfold p_X12_asksHeard_32
    refine j_iload_n (pc' := 33) rfl rfl rfl ?_
    refine j_aload_n (pc' := 34) rfl rfl rfl ?_
    refine j_gfr (pc' := 37) (x := 94) rfl rfl j_a75 rfl rfl ?_
    refine j_iload_n (pc' := 38) rfl rfl rfl ?_
    refine j_iald (pc' := 39) rfl rfl j_a94 ?_
    refine j_two (pT := 42) (pF := 64) (L1 := [some (.ref 75), some (.int l1), some (.int l2)]) (st1 := []) (fun o kT kF => ?_) (fun h3 => ?_) (fun h3 => ?_)
    · refine j_icge (t := 64) (pc' := 42) rfl rfl rfl (fun h4 => ?_) (fun h4 => ?_)
      · exact kF h4
      · exact kT h4
    · refine j_aload_n (pc' := 43) rfl rfl rfl ?_
      refine j_aload_n (pc' := 44) rfl rfl rfl ?_
      refine j_iload_n (pc' := 45) rfl rfl rfl ?_
      refine j_iload_n (pc' := 46) rfl rfl rfl ?_
      refine j_callPl (pc' := 49) (ai := 298) (vs := [.ref 75, .int l1, .int l2]) (rest := [.ref 75]) rfl rfl (fun _ _ => rfl) (c_X12_numberAt l1 l2 σ) (j_dd rfl hd) rfl (fun v1 => ?_)
      refine j_callPi (pc' := 52) (ai := 201) (vs := [.ref 75, .long v1]) (rest := []) rfl rfl (fun _ _ => rfl) (c_X12_isHole v1 σ) (j_dd rfl hd) rfl (fun v2 => ?_)
      refine j_two (pT := 55) (pF := 58) (L1 := [some (.ref 75), some (.int l1), some (.int l2)]) (st1 := []) (fun o kT kF => ?_) (fun h1 => ?_) (fun h1 => ?_)
      · refine j_ifne (t := 58) (pc' := 55) rfl rfl rfl (fun h2 => ?_) (fun h2 => ?_)
        · exact kF h2
        · exact kT h2
      · refine j_bipush (pc' := 57) (x := (-2 : Int32)) rfl rfl rfl ?_
        exact j_ret rfl rfl rfl (fun _ h => h)
      · refine j_iincx (pc' := 61) (y := (1 : Int32)) (L' := [some (.ref 75), some (.int l1), some (.int (l2 + (1 : Int32)))]) rfl rfl rfl rfl rfl ?_
        refine j_goto (t := 32) rfl rfl ?_
        exact ih (l2 + (1 : Int32))
    · refine j_iconst (pc' := 65) (x := (0 : Int32)) rfl rfl rfl ?_
      exact j_ret rfl rfl rfl (fun _ h => h)

theorem c_X12_asksHeard (l1 : Int32) (σ : j_G) : j_K false 2 299 [.ref 75, .int l1] σ (f_X12_asksHeard l1 σ) (j_Pi σ) := by
  refine j_mkK (M := M_cX12_asksHeard) (L := [some (.ref 75), some (.int l1), none]) (m := 1) t_299 rfl (j_rcvO j_a75 rfl) rfl (fun d hd τ => ?_)
  unfold f_X12_asksHeard
  refine j_iload_n (pc' := 1) rfl rfl rfl ?_
  refine j_callTi (pc' := 4) (ai := 351) (vs := [.int l1]) (rest := []) rfl rfl (fun _ _ => rfl) (c_X12_isSlot l1 σ) (j_dd rfl hd) rfl ?_
  refine j_two (pT := 7) (pF := 14) (L1 := [some (.ref 75), some (.int l1), none]) (st1 := []) (fun o kT kF => ?_) (fun h5 => ?_) (fun h5 => ?_)
  · refine j_ifeq (t := 14) (pc' := 7) rfl rfl rfl (fun h6 => ?_) (fun h6 => ?_)
    · exact kF (fun z => z h6)
    · exact kT h6
  · refine j_aload_n (pc' := 8) rfl rfl rfl ?_
    refine j_callPi (pc' := 11) (ai := 199) (vs := [.ref 75]) (rest := []) rfl rfl (fun _ _ => rfl) (c_X12_isBoard  σ) (j_dd rfl hd) rfl (fun v1 => ?_)
    refine j_two (pT := 14) (pF := 17) (L1 := [some (.ref 75), some (.int l1), none]) (st1 := []) (fun o kT kF => ?_) (fun h3 => ?_) (fun h3 => ?_)
    · refine j_ifne (t := 17) (pc' := 14) rfl rfl rfl (fun h4 => ?_) (fun h4 => ?_)
      · exact kF h4
      · exact kT h4
    · refine j_bipush (pc' := 16) (x := (-2 : Int32)) rfl rfl rfl ?_
      exact j_ret rfl rfl rfl (fun _ h => h)
    · refine j_aload_n (pc' := 18) rfl rfl rfl ?_
      refine j_gfr (pc' := 21) (x := 94) rfl rfl j_a75 rfl rfl ?_
      refine j_iload_n (pc' := 22) rfl rfl rfl ?_
      refine j_iald (pc' := 23) rfl rfl j_a94 ?_
      refine j_iconst (pc' := 24) (x := (-1 : Int32)) rfl rfl rfl ?_
      refine j_two (pT := 27) (pF := 30) (L1 := [some (.ref 75), some (.int l1), none]) (st1 := []) (fun o kT kF => ?_) (fun h1 => ?_) (fun h1 => ?_)
      · refine j_icne (t := 30) (pc' := 27) rfl rfl rfl (fun h2 => ?_) (fun h2 => ?_)
        · exact kF h2
        · exact kT h2
      · refine j_bipush (pc' := 29) (x := (-6 : Int32)) rfl rfl rfl ?_
        exact j_ret rfl rfl rfl (fun _ h => h)
      · refine j_iconst (pc' := 31) (x := (0 : Int32)) rfl rfl rfl ?_
        refine j_istore_n (pc' := 32) (L' := [some (.ref 75), some (.int l1), some (.int (0 : Int32))]) rfl rfl rfl ?_
        exact (l_X12_asksHeard_32 hd τ l1 σ j_F (0 : Int32))
  · refine j_bipush (pc' := 16) (x := (-2 : Int32)) rfl rfl rfl ?_
    exact j_ret rfl rfl rfl (fun _ h => h)

noncomputable def p_X12_isPeriod_2 (l1 : Int32) (l2 : Int32) (σ : j_G) : Nat → Int32 → Option Int32
  | 0, _ => none
  | n + 1, l3 =>
    j_ix l1 4 (
    if l3 < (σ.1 94 (l1).toNatClampNeg) then (j_b1 (f_X12_numberAt l1 l3 σ) fun v1 =>
    j_b1 (f_X12_numberAt l1 (l3 - l2) σ) fun v2 =>
    if ¬ v1 = v2 then (some (0 : Int32)) else (p_X12_isPeriod_2 l1 l2 σ n (l3 + (1 : Int32)))) else (some (1 : Int32)))

noncomputable def f_X12_isPeriod (l1 : Int32) (l2 : Int32) (σ : j_G) : Option Int32 :=
  p_X12_isPeriod_2 l1 l2 σ j_F l2
theorem l_X12_isPeriod_2 {d : Nat} (hd : 1 ≤ d) (τ : j_G) (l1 : Int32) (l2 : Int32) (σ : j_G) : ∀ (n : Nat) (l3 : Int32), j_J false τ M_cX12_isPeriod d 2 [some (.ref 75), some (.int l1), some (.int l2), some (.int l3)] [] σ (p_X12_isPeriod_2 l1 l2 σ n l3) (j_Pi σ) := by
  intro n
  induction n with
  | zero => intro l3; exact j_none
  | succ n ih =>
    intro l3
    unfold p_X12_isPeriod_2
    refine j_iload_n (pc' := 3) rfl rfl rfl ?_
    refine j_aload_n (pc' := 4) rfl rfl rfl ?_
    refine j_gfr (pc' := 7) (x := 94) rfl rfl j_a75 rfl rfl ?_
    refine j_iload_n (pc' := 8) rfl rfl rfl ?_
    refine j_iald (pc' := 9) rfl rfl j_a94 ?_
    refine j_two (pT := 12) (pF := 38) (L1 := [some (.ref 75), some (.int l1), some (.int l2), some (.int l3)]) (st1 := []) (fun o kT kF => ?_) (fun h3 => ?_) (fun h3 => ?_)
    · refine j_icge (t := 38) (pc' := 12) rfl rfl rfl (fun h4 => ?_) (fun h4 => ?_)
      · exact kF h4
      · exact kT h4
    · refine j_aload_n (pc' := 13) rfl rfl rfl ?_
      refine j_iload_n (pc' := 14) rfl rfl rfl ?_
      refine j_iload_n (pc' := 15) rfl rfl rfl ?_
      refine j_callPl (pc' := 18) (ai := 298) (vs := [.ref 75, .int l1, .int l3]) (rest := []) rfl rfl (fun _ _ => rfl) (c_X12_numberAt l1 l3 σ) (j_dd rfl hd) rfl (fun v1 => ?_)
      refine j_aload_n (pc' := 19) rfl rfl rfl ?_
      refine j_iload_n (pc' := 20) rfl rfl rfl ?_
      refine j_iload_n (pc' := 21) rfl rfl rfl ?_
      refine j_iload_n (pc' := 22) rfl rfl rfl ?_
      refine j_isub (pc' := 23) rfl rfl ?_
      refine j_callPl (pc' := 26) (ai := 298) (vs := [.ref 75, .int l1, .int (l3 - l2)]) (rest := [.long v1]) rfl rfl (fun _ _ => rfl) (c_X12_numberAt l1 (l3 - l2) σ) (j_dd rfl hd) rfl (fun v2 => ?_)
      refine j_lcmp (pc' := 27) rfl rfl ?_
      refine j_two (pT := 30) (pF := 32) (L1 := [some (.ref 75), some (.int l1), some (.int l2), some (.int l3)]) (st1 := []) (fun o kT kF => ?_) (fun h1 => ?_) (fun h1 => ?_)
      · refine j_ifeqL (t := 32) (pc' := 30) rfl rfl rfl (fun h2 => ?_) (fun h2 => ?_)
        · exact kF (fun z => z h2)
        · exact kT h2
      · refine j_iconst (pc' := 31) (x := (0 : Int32)) rfl rfl rfl ?_
        exact j_ret rfl rfl rfl (fun _ h => h)
      · refine j_iincx (pc' := 35) (y := (1 : Int32)) (L' := [some (.ref 75), some (.int l1), some (.int l2), some (.int (l3 + (1 : Int32)))]) rfl rfl rfl rfl rfl ?_
        refine j_goto (t := 2) rfl rfl ?_
        exact ih (l3 + (1 : Int32))
    · refine j_iconst (pc' := 39) (x := (1 : Int32)) rfl rfl rfl ?_
      exact j_ret rfl rfl rfl (fun _ h => h)

theorem c_X12_isPeriod (l1 : Int32) (l2 : Int32) (σ : j_G) : j_K false 1 300 [.ref 75, .int l1, .int l2] σ (f_X12_isPeriod l1 l2 σ) (j_Pi σ) := by
  refine j_mkK (M := M_cX12_isPeriod) (L := [some (.ref 75), some (.int l1), some (.int l2), none]) (m := 1) t_300 rfl (j_rcvO j_a75 rfl) rfl (fun d hd τ => ?_)
  unfold f_X12_isPeriod
  refine j_iload_n (pc' := 1) rfl rfl rfl ?_
  refine j_istore_n (pc' := 2) (L' := [some (.ref 75), some (.int l1), some (.int l2), some (.int l2)]) rfl rfl rfl ?_
  exact (l_X12_isPeriod_2 hd τ l1 l2 σ j_F l2)

noncomputable def p_X12_leastPeriod_2 (l1 : Int32) (σ : j_G) : Nat → Int32 → Option Int32
  | 0, _ => none
  | n + 1, l2 =>
    j_ix l1 4 (
    if l2 < (σ.1 94 (l1).toNatClampNeg) then (j_b1 (f_X12_isPeriod l1 l2 σ) fun v1 =>
    if ¬ v1 = 0 then (some l2) else (p_X12_leastPeriod_2 l1 σ n (l2 + (1 : Int32)))) else (some (-1 : Int32)))

noncomputable def f_X12_leastPeriod (l1 : Int32) (σ : j_G) : Option Int32 :=
  p_X12_leastPeriod_2 l1 σ j_F (1 : Int32)
theorem l_X12_leastPeriod_2 {d : Nat} (hd : 2 ≤ d) (τ : j_G) (l1 : Int32) (σ : j_G) : ∀ (n : Nat) (l2 : Int32), j_J false τ M_cX12_leastPeriod d 2 [some (.ref 75), some (.int l1), some (.int l2)] [] σ (p_X12_leastPeriod_2 l1 σ n l2) (j_Pi σ) := by
  intro n
  induction n with
  | zero => intro l2; exact j_none
  | succ n ih =>
    intro l2
    unfold p_X12_leastPeriod_2
    refine j_iload_n (pc' := 3) rfl rfl rfl ?_
    refine j_aload_n (pc' := 4) rfl rfl rfl ?_
    refine j_gfr (pc' := 7) (x := 94) rfl rfl j_a75 rfl rfl ?_
    refine j_iload_n (pc' := 8) rfl rfl rfl ?_
    refine j_iald (pc' := 9) rfl rfl j_a94 ?_
    refine j_two (pT := 12) (pF := 29) (L1 := [some (.ref 75), some (.int l1), some (.int l2)]) (st1 := []) (fun o kT kF => ?_) (fun h3 => ?_) (fun h3 => ?_)
    · refine j_icge (t := 29) (pc' := 12) rfl rfl rfl (fun h4 => ?_) (fun h4 => ?_)
      · exact kF h4
      · exact kT h4
    · refine j_aload_n (pc' := 13) rfl rfl rfl ?_
      refine j_iload_n (pc' := 14) rfl rfl rfl ?_
      refine j_iload_n (pc' := 15) rfl rfl rfl ?_
      refine j_callPi (pc' := 18) (ai := 300) (vs := [.ref 75, .int l1, .int l2]) (rest := []) rfl rfl (fun _ _ => rfl) (c_X12_isPeriod l1 l2 σ) (j_dd rfl hd) rfl (fun v1 => ?_)
      refine j_two (pT := 21) (pF := 23) (L1 := [some (.ref 75), some (.int l1), some (.int l2)]) (st1 := []) (fun o kT kF => ?_) (fun h1 => ?_) (fun h1 => ?_)
      · refine j_ifeq (t := 23) (pc' := 21) rfl rfl rfl (fun h2 => ?_) (fun h2 => ?_)
        · exact kF (fun z => z h2)
        · exact kT h2
      · refine j_iload_n (pc' := 22) rfl rfl rfl ?_
        exact j_ret rfl rfl rfl (fun _ h => h)
      · refine j_iincx (pc' := 26) (y := (1 : Int32)) (L' := [some (.ref 75), some (.int l1), some (.int (l2 + (1 : Int32)))]) rfl rfl rfl rfl rfl ?_
        refine j_goto (t := 2) rfl rfl ?_
        exact ih (l2 + (1 : Int32))
    · refine j_iconst (pc' := 30) (x := (-1 : Int32)) rfl rfl rfl ?_
      exact j_ret rfl rfl rfl (fun _ h => h)

theorem c_X12_leastPeriod (l1 : Int32) (σ : j_G) : j_K false 2 301 [.ref 75, .int l1] σ (f_X12_leastPeriod l1 σ) (j_Pi σ) := by
  refine j_mkK (M := M_cX12_leastPeriod) (L := [some (.ref 75), some (.int l1), none]) (m := 1) t_301 rfl (j_rcvO j_a75 rfl) rfl (fun d hd τ => ?_)
  unfold f_X12_leastPeriod
  refine j_iconst (pc' := 1) (x := (1 : Int32)) rfl rfl rfl ?_
  refine j_istore_n (pc' := 2) (L' := [some (.ref 75), some (.int l1), some (.int (1 : Int32))]) rfl rfl rfl ?_
  exact (l_X12_leastPeriod_2 hd τ l1 σ j_F (1 : Int32))

noncomputable def f_X12_period (l1 : Int32) (σ : j_G) : Option Int32 :=
  j_b1 (f_X12_asksHeard l1 σ) fun v1 =>
  if v1 < 0 then (some v1) else (j_b1 (f_X12_leastPeriod l1 σ) fun v2 =>
  some v2)
theorem c_X12_period (l1 : Int32) (σ : j_G) : j_K false 3 302 [.ref 75, .int l1] σ (f_X12_period l1 σ) (j_Pi σ) := by
  refine j_mkK (M := M_cX12_period) (L := [some (.ref 75), some (.int l1), none]) (m := 1) t_302 rfl (j_rcvO j_a75 rfl) rfl (fun d hd τ => ?_)
  unfold f_X12_period
  refine j_aload_n (pc' := 1) rfl rfl rfl ?_
  refine j_iload_n (pc' := 2) rfl rfl rfl ?_
  refine j_callPi (pc' := 5) (ai := 299) (vs := [.ref 75, .int l1]) (rest := []) rfl rfl (fun _ _ => rfl) (c_X12_asksHeard l1 σ) (j_dd rfl hd) rfl (fun v1 => ?_)
  refine j_istore_n (pc' := 6) (L' := [some (.ref 75), some (.int l1), some (.int v1)]) rfl rfl rfl ?_
  refine j_iload_n (pc' := 7) rfl rfl rfl ?_
  refine j_two (pT := 10) (pF := 14) (L1 := [some (.ref 75), some (.int l1), some (.int v1)]) (st1 := []) (fun o kT kF => ?_) (fun h1 => ?_) (fun h1 => ?_)
  · refine j_ifge (t := 14) (pc' := 10) rfl rfl rfl (fun h2 => ?_) (fun h2 => ?_)
    · exact kF h2
    · exact kT h2
  · refine j_iload_n (pc' := 11) rfl rfl rfl ?_
    refine j_goto (t := 19) rfl rfl ?_
    exact j_ret rfl rfl rfl (fun _ h => h)
  · refine j_aload_n (pc' := 15) rfl rfl rfl ?_
    refine j_iload_n (pc' := 16) rfl rfl rfl ?_
    refine j_callPi (pc' := 19) (ai := 301) (vs := [.ref 75, .int l1]) (rest := []) rfl rfl (fun _ _ => rfl) (c_X12_leastPeriod l1 σ) (j_dd rfl hd) rfl (fun v2 => ?_)
    exact j_ret rfl rfl rfl (fun _ h => h)

noncomputable def p_X8_periodsInAll_4 (a0 : Nat) (a0_2 : Nat) (σ : j_G) : Nat → Int32 → Int32 → Option Int32
  | 0, _, _ => none
  | n + 1, l1, l2 =>
    if l2 < (σ.1 a0 0) then (j_b1 (f_X8_isPeriod a0 a0_2 l2 σ) fun v1 =>
    j_lt (if ¬ v1 = 0 then ((l1 + (1 : Int32))) else (l1)) fun v2 =>
    p_X8_periodsInAll_4 a0 a0_2 σ n v2 (l2 + (1 : Int32))) else (some l1)

noncomputable def f_X8_periodsInAll (a0 : Nat) (a0_2 : Nat) (σ : j_G) : Option Int32 :=
  j_b1 (p_X8_periodsInAll_4 a0 a0_2 σ j_F (0 : Int32) (1 : Int32)) fun v1 =>
  some v1
theorem l_X8_periodsInAll_4_67 {d : Nat} (hd : 1 ≤ d) (τ : j_G) (σ : j_G) : ∀ (n : Nat) (l1 : Int32) (l2 : Int32), j_J true τ M_cX8_periodsInAll d 4 [some (.ref 67), some (.int l1), some (.int l2)] [] σ (p_X8_periodsInAll_4 67 68 σ n l1 l2) (fun r Q => j_Tr true τ M_cX8_periodsInAll d 29 [none, some (.int r), none] [] σ Q) := by
  intro n
  induction n with
  | zero => intro l1 l2; exact j_none
  | succ n ih =>
    intro l1 l2
    unfold p_X8_periodsInAll_4
    refine j_iload_n (pc' := 5) rfl rfl rfl ?_
    refine j_aload_n (pc' := 6) rfl rfl rfl ?_
    refine j_gfi (pc' := 9) rfl rfl j_a67 rfl ?_
    refine j_two (pT := 12) (pF := 29) (L1 := [some (.ref 67), some (.int l1), some (.int l2)]) (st1 := []) (fun o kT kF => ?_) (fun h3 => ?_) (fun h3 => ?_)
    · refine j_icge (t := 29) (pc' := 12) rfl rfl rfl (fun h4 => ?_) (fun h4 => ?_)
      · exact kF h4
      · exact kT h4
    · refine j_aload_n (pc' := 13) rfl rfl rfl ?_
      refine j_iload_n (pc' := 14) rfl rfl rfl ?_
      refine j_callPi (pc' := 17) (ai := 96) (vs := [.ref 67, .int l2]) (rest := []) rfl rfl (fun _ _ => rfl) (c_X8_isPeriod_67 l2 σ) (j_dd rfl hd) rfl (fun v1 => ?_)
      refine j_ql (Φl := (fun r Q => j_Tr true τ M_cX8_periodsInAll d 23 [some (.ref 67), some (.int r), some (.int l2)] [] σ Q)) ?_ (fun v2 => ?_)
      · refine j_twoT (pT := 20) (pF := 23) (L1 := [some (.ref 67), some (.int l1), some (.int l2)]) (st1 := []) (fun o kT kF => ?_) (fun h1 => ?_) (fun h1 => ?_)
        · refine j_ifeq (t := 23) (pc' := 20) rfl rfl rfl (fun h2 => ?_) (fun h2 => ?_)
          · exact kF (fun z => z h2)
          · exact kT h2
        · refine j_iincx (pc' := 23) (y := (1 : Int32)) (L' := [some (.ref 67), some (.int (l1 + (1 : Int32))), some (.int l2)]) rfl rfl rfl rfl rfl ?_
          exact j_end (fun _ h => h)
        · exact j_end (fun _ h => h)
      show j_J true τ M_cX8_periodsInAll d 23 [some (.ref 67), some (.int v2), some (.int l2)] [] σ _ _
      refine j_iincx (pc' := 26) (y := (1 : Int32)) (L' := [some (.ref 67), some (.int v2), some (.int (l2 + (1 : Int32)))]) rfl rfl rfl rfl rfl ?_
      refine j_goto (t := 4) rfl rfl ?_
      exact ih v2 (l2 + (1 : Int32))
    · refine j_wk [false, true, false] (L' := [none, some (.int l1), none]) rfl ?_
      exact j_end (fun _ h => h)

theorem c_X8_periodsInAll_67 (σ : j_G) : j_K true 1 98 [.ref 67] σ (f_X8_periodsInAll 67 68 σ) (j_Pi σ) := by
  refine j_mkK (M := M_cX8_periodsInAll) (L := [some (.ref 67), none, none]) (m := 2) t_98 rfl (j_rcvO j_a67 rfl) rfl (fun d hd τ => ?_)
  unfold f_X8_periodsInAll
  refine j_iconst (pc' := 1) (x := (0 : Int32)) rfl rfl rfl ?_
  refine j_istore_n (pc' := 2) (L' := [some (.ref 67), some (.int (0 : Int32)), none]) rfl rfl rfl ?_
  refine j_iconst (pc' := 3) (x := (1 : Int32)) rfl rfl rfl ?_
  refine j_istore_n (pc' := 4) (L' := [some (.ref 67), some (.int (0 : Int32)), some (.int (1 : Int32))]) rfl rfl rfl ?_
  refine j_q1 (l_X8_periodsInAll_4_67 hd τ σ j_F (0 : Int32) (1 : Int32)) (fun v1 => ?_)
  show j_J true τ M_cX8_periodsInAll d 29 [none, some (.int v1), none] [] σ _ _
  refine j_iload_n (pc' := 30) rfl rfl rfl ?_
  exact j_ret rfl rfl rfl (fun _ h => h)

theorem l_X8_periodsInAll_4_69 {d : Nat} (hd : 1 ≤ d) (τ : j_G) (σ : j_G) : ∀ (n : Nat) (l1 : Int32) (l2 : Int32), j_J true τ M_cX8_periodsInAll d 4 [some (.ref 69), some (.int l1), some (.int l2)] [] σ (p_X8_periodsInAll_4 69 70 σ n l1 l2) (fun r Q => j_Tr true τ M_cX8_periodsInAll d 29 [none, some (.int r), none] [] σ Q) := by
  intro n
  induction n with
  | zero => intro l1 l2; exact j_none
  | succ n ih =>
    intro l1 l2
    unfold p_X8_periodsInAll_4
    refine j_iload_n (pc' := 5) rfl rfl rfl ?_
    refine j_aload_n (pc' := 6) rfl rfl rfl ?_
    refine j_gfi (pc' := 9) rfl rfl j_a69 rfl ?_
    refine j_two (pT := 12) (pF := 29) (L1 := [some (.ref 69), some (.int l1), some (.int l2)]) (st1 := []) (fun o kT kF => ?_) (fun h3 => ?_) (fun h3 => ?_)
    · refine j_icge (t := 29) (pc' := 12) rfl rfl rfl (fun h4 => ?_) (fun h4 => ?_)
      · exact kF h4
      · exact kT h4
    · refine j_aload_n (pc' := 13) rfl rfl rfl ?_
      refine j_iload_n (pc' := 14) rfl rfl rfl ?_
      refine j_callPi (pc' := 17) (ai := 96) (vs := [.ref 69, .int l2]) (rest := []) rfl rfl (fun _ _ => rfl) (c_X8_isPeriod_69 l2 σ) (j_dd rfl hd) rfl (fun v1 => ?_)
      refine j_ql (Φl := (fun r Q => j_Tr true τ M_cX8_periodsInAll d 23 [some (.ref 69), some (.int r), some (.int l2)] [] σ Q)) ?_ (fun v2 => ?_)
      · refine j_twoT (pT := 20) (pF := 23) (L1 := [some (.ref 69), some (.int l1), some (.int l2)]) (st1 := []) (fun o kT kF => ?_) (fun h1 => ?_) (fun h1 => ?_)
        · refine j_ifeq (t := 23) (pc' := 20) rfl rfl rfl (fun h2 => ?_) (fun h2 => ?_)
          · exact kF (fun z => z h2)
          · exact kT h2
        · refine j_iincx (pc' := 23) (y := (1 : Int32)) (L' := [some (.ref 69), some (.int (l1 + (1 : Int32))), some (.int l2)]) rfl rfl rfl rfl rfl ?_
          exact j_end (fun _ h => h)
        · exact j_end (fun _ h => h)
      show j_J true τ M_cX8_periodsInAll d 23 [some (.ref 69), some (.int v2), some (.int l2)] [] σ _ _
      refine j_iincx (pc' := 26) (y := (1 : Int32)) (L' := [some (.ref 69), some (.int v2), some (.int (l2 + (1 : Int32)))]) rfl rfl rfl rfl rfl ?_
      refine j_goto (t := 4) rfl rfl ?_
      exact ih v2 (l2 + (1 : Int32))
    · refine j_wk [false, true, false] (L' := [none, some (.int l1), none]) rfl ?_
      exact j_end (fun _ h => h)

theorem c_X8_periodsInAll_69 (σ : j_G) : j_K true 1 98 [.ref 69] σ (f_X8_periodsInAll 69 70 σ) (j_Pi σ) := by
  refine j_mkK (M := M_cX8_periodsInAll) (L := [some (.ref 69), none, none]) (m := 2) t_98 rfl (j_rcvO j_a69 rfl) rfl (fun d hd τ => ?_)
  unfold f_X8_periodsInAll
  refine j_iconst (pc' := 1) (x := (0 : Int32)) rfl rfl rfl ?_
  refine j_istore_n (pc' := 2) (L' := [some (.ref 69), some (.int (0 : Int32)), none]) rfl rfl rfl ?_
  refine j_iconst (pc' := 3) (x := (1 : Int32)) rfl rfl rfl ?_
  refine j_istore_n (pc' := 4) (L' := [some (.ref 69), some (.int (0 : Int32)), some (.int (1 : Int32))]) rfl rfl rfl ?_
  refine j_q1 (l_X8_periodsInAll_4_69 hd τ σ j_F (0 : Int32) (1 : Int32)) (fun v1 => ?_)
  show j_J true τ M_cX8_periodsInAll d 29 [none, some (.int v1), none] [] σ _ _
  refine j_iload_n (pc' := 30) rfl rfl rfl ?_
  exact j_ret rfl rfl rfl (fun _ h => h)

theorem l_X8_periodsInAll_4_71 {d : Nat} (hd : 1 ≤ d) (τ : j_G) (σ : j_G) : ∀ (n : Nat) (l1 : Int32) (l2 : Int32), j_J true τ M_cX8_periodsInAll d 4 [some (.ref 71), some (.int l1), some (.int l2)] [] σ (p_X8_periodsInAll_4 71 72 σ n l1 l2) (fun r Q => j_Tr true τ M_cX8_periodsInAll d 29 [none, some (.int r), none] [] σ Q) := by
  intro n
  induction n with
  | zero => intro l1 l2; exact j_none
  | succ n ih =>
    intro l1 l2
    unfold p_X8_periodsInAll_4
    refine j_iload_n (pc' := 5) rfl rfl rfl ?_
    refine j_aload_n (pc' := 6) rfl rfl rfl ?_
    refine j_gfi (pc' := 9) rfl rfl j_a71 rfl ?_
    refine j_two (pT := 12) (pF := 29) (L1 := [some (.ref 71), some (.int l1), some (.int l2)]) (st1 := []) (fun o kT kF => ?_) (fun h3 => ?_) (fun h3 => ?_)
    · refine j_icge (t := 29) (pc' := 12) rfl rfl rfl (fun h4 => ?_) (fun h4 => ?_)
      · exact kF h4
      · exact kT h4
    · refine j_aload_n (pc' := 13) rfl rfl rfl ?_
      refine j_iload_n (pc' := 14) rfl rfl rfl ?_
      refine j_callPi (pc' := 17) (ai := 96) (vs := [.ref 71, .int l2]) (rest := []) rfl rfl (fun _ _ => rfl) (c_X8_isPeriod_71 l2 σ) (j_dd rfl hd) rfl (fun v1 => ?_)
      refine j_ql (Φl := (fun r Q => j_Tr true τ M_cX8_periodsInAll d 23 [some (.ref 71), some (.int r), some (.int l2)] [] σ Q)) ?_ (fun v2 => ?_)
      · refine j_twoT (pT := 20) (pF := 23) (L1 := [some (.ref 71), some (.int l1), some (.int l2)]) (st1 := []) (fun o kT kF => ?_) (fun h1 => ?_) (fun h1 => ?_)
        · refine j_ifeq (t := 23) (pc' := 20) rfl rfl rfl (fun h2 => ?_) (fun h2 => ?_)
          · exact kF (fun z => z h2)
          · exact kT h2
        · refine j_iincx (pc' := 23) (y := (1 : Int32)) (L' := [some (.ref 71), some (.int (l1 + (1 : Int32))), some (.int l2)]) rfl rfl rfl rfl rfl ?_
          exact j_end (fun _ h => h)
        · exact j_end (fun _ h => h)
      show j_J true τ M_cX8_periodsInAll d 23 [some (.ref 71), some (.int v2), some (.int l2)] [] σ _ _
      refine j_iincx (pc' := 26) (y := (1 : Int32)) (L' := [some (.ref 71), some (.int v2), some (.int (l2 + (1 : Int32)))]) rfl rfl rfl rfl rfl ?_
      refine j_goto (t := 4) rfl rfl ?_
      exact ih v2 (l2 + (1 : Int32))
    · refine j_wk [false, true, false] (L' := [none, some (.int l1), none]) rfl ?_
      exact j_end (fun _ h => h)

theorem c_X8_periodsInAll_71 (σ : j_G) : j_K true 1 98 [.ref 71] σ (f_X8_periodsInAll 71 72 σ) (j_Pi σ) := by
  refine j_mkK (M := M_cX8_periodsInAll) (L := [some (.ref 71), none, none]) (m := 2) t_98 rfl (j_rcvO j_a71 rfl) rfl (fun d hd τ => ?_)
  unfold f_X8_periodsInAll
  refine j_iconst (pc' := 1) (x := (0 : Int32)) rfl rfl rfl ?_
  refine j_istore_n (pc' := 2) (L' := [some (.ref 71), some (.int (0 : Int32)), none]) rfl rfl rfl ?_
  refine j_iconst (pc' := 3) (x := (1 : Int32)) rfl rfl rfl ?_
  refine j_istore_n (pc' := 4) (L' := [some (.ref 71), some (.int (0 : Int32)), some (.int (1 : Int32))]) rfl rfl rfl ?_
  refine j_q1 (l_X8_periodsInAll_4_71 hd τ σ j_F (0 : Int32) (1 : Int32)) (fun v1 => ?_)
  show j_J true τ M_cX8_periodsInAll d 29 [none, some (.int v1), none] [] σ _ _
  refine j_iload_n (pc' := 30) rfl rfl rfl ?_
  exact j_ret rfl rfl rfl (fun _ h => h)

theorem l_X8_periodsInAll_4_73 {d : Nat} (hd : 1 ≤ d) (τ : j_G) (σ : j_G) : ∀ (n : Nat) (l1 : Int32) (l2 : Int32), j_J true τ M_cX8_periodsInAll d 4 [some (.ref 73), some (.int l1), some (.int l2)] [] σ (p_X8_periodsInAll_4 73 74 σ n l1 l2) (fun r Q => j_Tr true τ M_cX8_periodsInAll d 29 [none, some (.int r), none] [] σ Q) := by
  intro n
  induction n with
  | zero => intro l1 l2; exact j_none
  | succ n ih =>
    intro l1 l2
    unfold p_X8_periodsInAll_4
    refine j_iload_n (pc' := 5) rfl rfl rfl ?_
    refine j_aload_n (pc' := 6) rfl rfl rfl ?_
    refine j_gfi (pc' := 9) rfl rfl j_a73 rfl ?_
    refine j_two (pT := 12) (pF := 29) (L1 := [some (.ref 73), some (.int l1), some (.int l2)]) (st1 := []) (fun o kT kF => ?_) (fun h3 => ?_) (fun h3 => ?_)
    · refine j_icge (t := 29) (pc' := 12) rfl rfl rfl (fun h4 => ?_) (fun h4 => ?_)
      · exact kF h4
      · exact kT h4
    · refine j_aload_n (pc' := 13) rfl rfl rfl ?_
      refine j_iload_n (pc' := 14) rfl rfl rfl ?_
      refine j_callPi (pc' := 17) (ai := 96) (vs := [.ref 73, .int l2]) (rest := []) rfl rfl (fun _ _ => rfl) (c_X8_isPeriod_73 l2 σ) (j_dd rfl hd) rfl (fun v1 => ?_)
      refine j_ql (Φl := (fun r Q => j_Tr true τ M_cX8_periodsInAll d 23 [some (.ref 73), some (.int r), some (.int l2)] [] σ Q)) ?_ (fun v2 => ?_)
      · refine j_twoT (pT := 20) (pF := 23) (L1 := [some (.ref 73), some (.int l1), some (.int l2)]) (st1 := []) (fun o kT kF => ?_) (fun h1 => ?_) (fun h1 => ?_)
        · refine j_ifeq (t := 23) (pc' := 20) rfl rfl rfl (fun h2 => ?_) (fun h2 => ?_)
          · exact kF (fun z => z h2)
          · exact kT h2
        · refine j_iincx (pc' := 23) (y := (1 : Int32)) (L' := [some (.ref 73), some (.int (l1 + (1 : Int32))), some (.int l2)]) rfl rfl rfl rfl rfl ?_
          exact j_end (fun _ h => h)
        · exact j_end (fun _ h => h)
      show j_J true τ M_cX8_periodsInAll d 23 [some (.ref 73), some (.int v2), some (.int l2)] [] σ _ _
      refine j_iincx (pc' := 26) (y := (1 : Int32)) (L' := [some (.ref 73), some (.int v2), some (.int (l2 + (1 : Int32)))]) rfl rfl rfl rfl rfl ?_
      refine j_goto (t := 4) rfl rfl ?_
      exact ih v2 (l2 + (1 : Int32))
    · refine j_wk [false, true, false] (L' := [none, some (.int l1), none]) rfl ?_
      exact j_end (fun _ h => h)

theorem c_X8_periodsInAll_73 (σ : j_G) : j_K true 1 98 [.ref 73] σ (f_X8_periodsInAll 73 74 σ) (j_Pi σ) := by
  refine j_mkK (M := M_cX8_periodsInAll) (L := [some (.ref 73), none, none]) (m := 2) t_98 rfl (j_rcvO j_a73 rfl) rfl (fun d hd τ => ?_)
  unfold f_X8_periodsInAll
  refine j_iconst (pc' := 1) (x := (0 : Int32)) rfl rfl rfl ?_
  refine j_istore_n (pc' := 2) (L' := [some (.ref 73), some (.int (0 : Int32)), none]) rfl rfl rfl ?_
  refine j_iconst (pc' := 3) (x := (1 : Int32)) rfl rfl rfl ?_
  refine j_istore_n (pc' := 4) (L' := [some (.ref 73), some (.int (0 : Int32)), some (.int (1 : Int32))]) rfl rfl rfl ?_
  refine j_q1 (l_X8_periodsInAll_4_73 hd τ σ j_F (0 : Int32) (1 : Int32)) (fun v1 => ?_)
  show j_J true τ M_cX8_periodsInAll d 29 [none, some (.int v1), none] [] σ _ _
  refine j_iload_n (pc' := 30) rfl rfl rfl ?_
  exact j_ret rfl rfl rfl (fun _ h => h)

noncomputable def f_X11_periods (l1 : Int32) (σ : j_G) : Option Int32 :=
  j_b1 (f_X11_whyUnheard l1 σ) fun v1 =>
  if v1 = 0 then (if l1 = 0 then (j_b1 (f_X8_periodsInAll 67 68 σ) fun v2 =>
  some v2) else
  if l1 = 1 then (j_b1 (f_X8_periodsInAll 69 70 σ) fun v3 =>
  some v3) else
  if l1 = 2 then (j_b1 (f_X8_periodsInAll 71 72 σ) fun v4 =>
  some v4) else
  if l1 = 3 then (j_b1 (f_X8_periodsInAll 73 74 σ) fun v5 =>
  some v5) else
  none) else (some v1)
theorem c_X11_periods (l1 : Int32) (σ : j_G) : j_K true 2 149 [.ref 0, .int l1] σ (f_X11_periods l1 σ) (j_Pi σ) := by
  refine j_mkK (M := M_cX11_periods) (L := [some (.ref 0), some (.int l1), none]) (m := 1) t_149 rfl (j_rcvO j_a0 rfl) rfl (fun d hd τ => ?_)
  unfold f_X11_periods
  refine j_aload_n (pc' := 1) rfl rfl rfl ?_
  refine j_iload_n (pc' := 2) rfl rfl rfl ?_
  refine j_callPi (pc' := 5) (ai := 193) (vs := [.ref 0, .int l1]) (rest := []) rfl rfl (fun _ _ => rfl) (c_X11_whyUnheard l1 σ) (j_dd rfl hd) rfl (fun v1 => ?_)
  refine j_istore_n (pc' := 6) (L' := [some (.ref 0), some (.int l1), some (.int v1)]) rfl rfl rfl ?_
  refine j_iload_n (pc' := 7) rfl rfl rfl ?_
  refine j_two (pT := 10) (pF := 22) (L1 := [some (.ref 0), some (.int l1), some (.int v1)]) (st1 := []) (fun o kT kF => ?_) (fun h5 => ?_) (fun h5 => ?_)
  · refine j_ifne (t := 22) (pc' := 10) rfl rfl rfl (fun h6 => ?_) (fun h6 => ?_)
    · exact kF h6
    · exact kT h6
  · refine j_aload_n (pc' := 11) rfl rfl rfl ?_
    refine j_gfr (pc' := 14) (x := 42) rfl rfl j_a0 rfl rfl ?_
    refine j_iload_n (pc' := 15) rfl rfl rfl ?_
    refine j_spl (k := (0 : Int32)) (fun h1 => ?_) (fun h1 => ?_)
    · subst h1
      refine j_aald (pc' := 16) (r := 67) rfl rfl j_a42 (by decide) rfl ?_
      refine j_callPi (pc' := 19) (ai := 98) (vs := [.ref 67]) (rest := []) rfl rfl (fun _ _ => rfl) (c_X8_periodsInAll_67  σ) (j_dd rfl hd) rfl (fun v2 => ?_)
      refine j_goto (t := 23) rfl rfl ?_
      exact j_ret rfl rfl rfl (fun _ h => h)
    refine j_spl (k := (1 : Int32)) (fun h2 => ?_) (fun h2 => ?_)
    · subst h2
      refine j_aald (pc' := 16) (r := 69) rfl rfl j_a42 (by decide) rfl ?_
      refine j_callPi (pc' := 19) (ai := 98) (vs := [.ref 69]) (rest := []) rfl rfl (fun _ _ => rfl) (c_X8_periodsInAll_69  σ) (j_dd rfl hd) rfl (fun v3 => ?_)
      refine j_goto (t := 23) rfl rfl ?_
      exact j_ret rfl rfl rfl (fun _ h => h)
    refine j_spl (k := (2 : Int32)) (fun h3 => ?_) (fun h3 => ?_)
    · subst h3
      refine j_aald (pc' := 16) (r := 71) rfl rfl j_a42 (by decide) rfl ?_
      refine j_callPi (pc' := 19) (ai := 98) (vs := [.ref 71]) (rest := []) rfl rfl (fun _ _ => rfl) (c_X8_periodsInAll_71  σ) (j_dd rfl hd) rfl (fun v4 => ?_)
      refine j_goto (t := 23) rfl rfl ?_
      exact j_ret rfl rfl rfl (fun _ h => h)
    refine j_spl (k := (3 : Int32)) (fun h4 => ?_) (fun h4 => ?_)
    · subst h4
      refine j_aald (pc' := 16) (r := 73) rfl rfl j_a42 (by decide) rfl ?_
      refine j_callPi (pc' := 19) (ai := 98) (vs := [.ref 73]) (rest := []) rfl rfl (fun _ _ => rfl) (c_X8_periodsInAll_73  σ) (j_dd rfl hd) rfl (fun v5 => ?_)
      refine j_goto (t := 23) rfl rfl ?_
      exact j_ret rfl rfl rfl (fun _ h => h)
    exact j_none
  · refine j_iload_n (pc' := 23) rfl rfl rfl ?_
    exact j_ret rfl rfl rfl (fun _ h => h)

noncomputable def p_X12_periods_17 (l1 : Int32) (σ : j_G) : Nat → Int32 → Int32 → Option Int32
  | 0, _, _ => none
  | n + 1, l3, l4 =>
    j_ix l1 4 (
    if l4 < (σ.1 94 (l1).toNatClampNeg) then (j_b1 (f_X12_isPeriod l1 l4 σ) fun v1 =>
    j_lt (if ¬ v1 = 0 then ((1 : Int32)) else ((0 : Int32))) fun v2 =>
    j_lt (l3 + v2) fun v3 =>
    p_X12_periods_17 l1 σ n v3 (l4 + (1 : Int32))) else (some l3))

noncomputable def f_X12_periods (l1 : Int32) (σ : j_G) : Option Int32 :=
  j_b1 (f_X12_asksHeard l1 σ) fun v1 =>
  if v1 < 0 then (some v1) else (j_b1 (p_X12_periods_17 l1 σ j_F (0 : Int32) (1 : Int32)) fun v2 =>
  some v2)
theorem l_X12_periods_17 {d : Nat} (hd : 3 ≤ d) (τ : j_G) (l1 : Int32) (σ : j_G) : ∀ (n : Nat) (l3 : Int32) (l4 : Int32), j_J false τ M_cX12_periods d 17 [some (.ref 75), some (.int l1), none, some (.int l3), some (.int l4)] [] σ (p_X12_periods_17 l1 σ n l3 l4) (fun r Q => j_Tr false τ M_cX12_periods d 52 [none, none, none, some (.int r), none] [] σ Q) := by
  intro n
  induction n with
  | zero => intro l3 l4; exact j_none
  | succ n ih =>
    intro l3 l4
    unfold p_X12_periods_17
    refine j_iload (pc' := 19) rfl rfl rfl ?_
    refine j_aload_n (pc' := 20) rfl rfl rfl ?_
    refine j_gfr (pc' := 23) (x := 94) rfl rfl j_a75 rfl rfl ?_
    refine j_iload_n (pc' := 24) rfl rfl rfl ?_
    refine j_iald (pc' := 25) rfl rfl j_a94 ?_
    refine j_two (pT := 28) (pF := 52) (L1 := [some (.ref 75), some (.int l1), none, some (.int l3), some (.int l4)]) (st1 := []) (fun o kT kF => ?_) (fun h3 => ?_) (fun h3 => ?_)
    · refine j_icge (t := 52) (pc' := 28) rfl rfl rfl (fun h4 => ?_) (fun h4 => ?_)
      · exact kF h4
      · exact kT h4
    · refine j_iload_n (pc' := 29) rfl rfl rfl ?_
      refine j_aload_n (pc' := 30) rfl rfl rfl ?_
      refine j_iload_n (pc' := 31) rfl rfl rfl ?_
      refine j_iload (pc' := 33) rfl rfl rfl ?_
      refine j_callPi (pc' := 36) (ai := 300) (vs := [.ref 75, .int l1, .int l4]) (rest := [.int l3]) rfl rfl (fun _ _ => rfl) (c_X12_isPeriod l1 l4 σ) (j_dd rfl hd) rfl (fun v1 => ?_)
      refine j_ql (Φl := (fun r Q => j_Tr false τ M_cX12_periods d 44 [some (.ref 75), some (.int l1), none, none, some (.int l4)] [.int r, .int l3] σ Q)) ?_ (fun v2 => ?_)
      · refine j_twoT (pT := 39) (pF := 43) (L1 := [some (.ref 75), some (.int l1), none, some (.int l3), some (.int l4)]) (st1 := [.int l3]) (fun o kT kF => ?_) (fun h1 => ?_) (fun h1 => ?_)
        · refine j_ifeq (t := 43) (pc' := 39) rfl rfl rfl (fun h2 => ?_) (fun h2 => ?_)
          · exact kF (fun z => z h2)
          · exact kT h2
        · refine j_iconst (pc' := 40) (x := (1 : Int32)) rfl rfl rfl ?_
          refine j_goto (t := 44) rfl rfl ?_
          refine j_wk [true, true, true, false, true] (L' := [some (.ref 75), some (.int l1), none, none, some (.int l4)]) rfl ?_
          exact j_end (fun _ h => h)
        · refine j_iconst (pc' := 44) (x := (0 : Int32)) rfl rfl rfl ?_
          refine j_wk [true, true, true, false, true] (L' := [some (.ref 75), some (.int l1), none, none, some (.int l4)]) rfl ?_
          exact j_end (fun _ h => h)
      show j_J false τ M_cX12_periods d 44 [some (.ref 75), some (.int l1), none, none, some (.int l4)] [.int v2, .int l3] σ _ _
      refine j_iadd (pc' := 45) rfl rfl ?_
      refine j_leti (fun v3 => ?_)
      refine j_istore_n (pc' := 46) (L' := [some (.ref 75), some (.int l1), none, some (.int v3), some (.int l4)]) rfl rfl rfl ?_
      refine j_iincx (pc' := 49) (y := (1 : Int32)) (L' := [some (.ref 75), some (.int l1), none, some (.int v3), some (.int (l4 + (1 : Int32)))]) rfl rfl rfl rfl rfl ?_
      refine j_goto (t := 17) rfl rfl ?_
      exact ih v3 (l4 + (1 : Int32))
    · refine j_wk [false, false, true, true, false] (L' := [none, none, none, some (.int l3), none]) rfl ?_
      exact j_end (fun _ h => h)

theorem c_X12_periods (l1 : Int32) (σ : j_G) : j_K false 3 303 [.ref 75, .int l1] σ (f_X12_periods l1 σ) (j_Pi σ) := by
  refine j_mkK (M := M_cX12_periods) (L := [some (.ref 75), some (.int l1), none, none, none]) (m := 3) t_303 rfl (j_rcvO j_a75 rfl) rfl (fun d hd τ => ?_)
  unfold f_X12_periods
  refine j_aload_n (pc' := 1) rfl rfl rfl ?_
  refine j_iload_n (pc' := 2) rfl rfl rfl ?_
  refine j_callPi (pc' := 5) (ai := 299) (vs := [.ref 75, .int l1]) (rest := []) rfl rfl (fun _ _ => rfl) (c_X12_asksHeard l1 σ) (j_dd rfl hd) rfl (fun v1 => ?_)
  refine j_istore_n (pc' := 6) (L' := [some (.ref 75), some (.int l1), some (.int v1), none, none]) rfl rfl rfl ?_
  refine j_iload_n (pc' := 7) rfl rfl rfl ?_
  refine j_two (pT := 10) (pF := 12) (L1 := [some (.ref 75), some (.int l1), some (.int v1), none, none]) (st1 := []) (fun o kT kF => ?_) (fun h1 => ?_) (fun h1 => ?_)
  · refine j_ifge (t := 12) (pc' := 10) rfl rfl rfl (fun h2 => ?_) (fun h2 => ?_)
    · exact kF h2
    · exact kT h2
  · refine j_iload_n (pc' := 11) rfl rfl rfl ?_
    exact j_ret rfl rfl rfl (fun _ h => h)
  · refine j_iconst (pc' := 13) (x := (0 : Int32)) rfl rfl rfl ?_
    refine j_istore_n (pc' := 14) (L' := [some (.ref 75), some (.int l1), some (.int v1), some (.int (0 : Int32)), none]) rfl rfl rfl ?_
    refine j_iconst (pc' := 15) (x := (1 : Int32)) rfl rfl rfl ?_
    refine j_istore (pc' := 17) (L' := [some (.ref 75), some (.int l1), some (.int v1), some (.int (0 : Int32)), some (.int (1 : Int32))]) rfl rfl rfl ?_
    refine j_wk [true, true, false, true, true] (L' := [some (.ref 75), some (.int l1), none, some (.int (0 : Int32)), some (.int (1 : Int32))]) rfl ?_
    refine j_q1 (l_X12_periods_17 hd τ l1 σ j_F (0 : Int32) (1 : Int32)) (fun v2 => ?_)
    show j_J false τ M_cX12_periods d 52 [none, none, none, some (.int v2), none] [] σ _ _
    refine j_iload_n (pc' := 53) rfl rfl rfl ?_
    exact j_ret rfl rfl rfl (fun _ h => h)

noncomputable def p_X11_luck_44 (s51 : Nat) (l6 : Int32) (σ : j_G) : Nat → Int64 → Int32 → Option Int64
  | 0, _, _ => none
  | n + 1, l4, l7 =>
    if (l7 < (σ.1 s51 0)) ∧ (¬ (1000000000 : Int64) < l4) then (j_lt (l4 * (l6).toInt64) fun v1 =>
    p_X11_luck_44 s51 l6 σ n v1 (l7 + (1 : Int32))) else (some l4)

noncomputable def f_X11_luck (l1 : Int32) (σ : j_G) : Option Int32 :=
  j_b1 (f_X11_whyUnheard l1 σ) fun v1 =>
  if ¬ v1 = 0 then (some v1) else (if l1 = 0 then (j_b1 (f_X8_leastPeriod 67 68 σ) fun v2 =>
  if v2 = (-1 : Int32) then (some (-1 : Int32)) else (j_lt (f_X2_openHoles σ) fun v3 =>
  j_b1 (p_X11_luck_44 67 v3 σ j_F (1 : Int64) v2) fun v4 =>
  if (1000000000 : Int64) < v4 then (some (-1 : Int32)) else (some (v4).toInt32))) else
  if l1 = 1 then (j_b1 (f_X8_leastPeriod 69 70 σ) fun v5 =>
  if v5 = (-1 : Int32) then (some (-1 : Int32)) else (j_lt (f_X2_openHoles σ) fun v6 =>
  j_b1 (p_X11_luck_44 69 v6 σ j_F (1 : Int64) v5) fun v7 =>
  if (1000000000 : Int64) < v7 then (some (-1 : Int32)) else (some (v7).toInt32))) else
  if l1 = 2 then (j_b1 (f_X8_leastPeriod 71 72 σ) fun v8 =>
  if v8 = (-1 : Int32) then (some (-1 : Int32)) else (j_lt (f_X2_openHoles σ) fun v9 =>
  j_b1 (p_X11_luck_44 71 v9 σ j_F (1 : Int64) v8) fun v10 =>
  if (1000000000 : Int64) < v10 then (some (-1 : Int32)) else (some (v10).toInt32))) else
  if l1 = 3 then (j_b1 (f_X8_leastPeriod 73 74 σ) fun v11 =>
  if v11 = (-1 : Int32) then (some (-1 : Int32)) else (j_lt (f_X2_openHoles σ) fun v12 =>
  j_b1 (p_X11_luck_44 73 v12 σ j_F (1 : Int64) v11) fun v13 =>
  if (1000000000 : Int64) < v13 then (some (-1 : Int32)) else (some (v13).toInt32))) else
  none)
theorem l_X11_luck_44_67 {d : Nat} (hd : 2 ≤ d) (τ : j_G) (l6 : Int32) (σ : j_G) : ∀ (n : Nat) (l4 : Int64) (l7 : Int32), j_J true τ M_cX11_luck d 44 [some (.ref 0), some (.int (0 : Int32)), none, none, some (.long l4), none, some (.int l6), some (.int l7)] [] σ (p_X11_luck_44 67 l6 σ n l4 l7) (fun r Q => j_Tr true τ M_cX11_luck d 81 [none, none, none, none, some (.long r), none, none, none] [] σ Q) := by
  intro n
  induction n with
  | zero => intro l4 l7; exact j_none
  | succ n ih =>
    intro l4 l7
    unfold p_X11_luck_44
    refine j_iload (pc' := 46) rfl rfl rfl ?_
    refine j_aload_n (pc' := 47) rfl rfl rfl ?_
    refine j_gfr (pc' := 50) (x := 42) rfl rfl j_a0 rfl rfl ?_
    refine j_iload_n (pc' := 51) rfl rfl rfl ?_
    refine j_aald (pc' := 52) (r := 67) rfl rfl j_a42 (by decide) rfl ?_
    refine j_gfi (pc' := 55) rfl rfl j_a67 rfl ?_
    refine j_two (pT := 67) (pF := 81) (L1 := [some (.ref 0), some (.int (0 : Int32)), none, none, some (.long l4), none, some (.int l6), some (.int l7)]) (st1 := []) (fun o kT kF => ?_) (fun h1 => ?_) (fun h1 => ?_)
    · refine j_icge (t := 81) (pc' := 58) rfl rfl rfl (fun h2 => ?_) (fun h2 => ?_)
      · exact kF (fun z => h2 z.1)
      · refine j_lload (pc' := 60) rfl rfl rfl ?_
        refine j_ldc2_w (pc' := 63) (x := (1000000000 : Int64)) rfl rfl rfl ?_
        refine j_lcmp (pc' := 64) rfl rfl ?_
        refine j_ifgtL (t := 81) (pc' := 67) rfl rfl rfl (fun h3 => ?_) (fun h3 => ?_)
        · exact kF (fun z => (fun z => z h3) z.2)
        · exact kT (⟨h2, h3⟩)
    · refine j_lload (pc' := 69) rfl rfl rfl ?_
      refine j_iload (pc' := 71) rfl rfl rfl ?_
      refine j_i2l (pc' := 72) rfl rfl ?_
      refine j_lmul (pc' := 73) rfl rfl ?_
      refine j_letl (fun v1 => ?_)
      refine j_lstore (pc' := 75) (L' := [some (.ref 0), some (.int (0 : Int32)), none, none, some (.long v1), none, some (.int l6), some (.int l7)]) rfl rfl rfl ?_
      refine j_iincx (pc' := 78) (y := (1 : Int32)) (L' := [some (.ref 0), some (.int (0 : Int32)), none, none, some (.long v1), none, some (.int l6), some (.int (l7 + (1 : Int32)))]) rfl rfl rfl rfl rfl ?_
      refine j_goto (t := 44) rfl rfl ?_
      exact ih v1 (l7 + (1 : Int32))
    · refine j_wk [false, false, true, true, true, true, false, false] (L' := [none, none, none, none, some (.long l4), none, none, none]) rfl ?_
      exact j_end (fun _ h => h)

theorem l_X11_luck_44_69 {d : Nat} (hd : 2 ≤ d) (τ : j_G) (l6 : Int32) (σ : j_G) : ∀ (n : Nat) (l4 : Int64) (l7 : Int32), j_J true τ M_cX11_luck d 44 [some (.ref 0), some (.int (1 : Int32)), none, none, some (.long l4), none, some (.int l6), some (.int l7)] [] σ (p_X11_luck_44 69 l6 σ n l4 l7) (fun r Q => j_Tr true τ M_cX11_luck d 81 [none, none, none, none, some (.long r), none, none, none] [] σ Q) := by
  intro n
  induction n with
  | zero => intro l4 l7; exact j_none
  | succ n ih =>
    intro l4 l7
    unfold p_X11_luck_44
    refine j_iload (pc' := 46) rfl rfl rfl ?_
    refine j_aload_n (pc' := 47) rfl rfl rfl ?_
    refine j_gfr (pc' := 50) (x := 42) rfl rfl j_a0 rfl rfl ?_
    refine j_iload_n (pc' := 51) rfl rfl rfl ?_
    refine j_aald (pc' := 52) (r := 69) rfl rfl j_a42 (by decide) rfl ?_
    refine j_gfi (pc' := 55) rfl rfl j_a69 rfl ?_
    refine j_two (pT := 67) (pF := 81) (L1 := [some (.ref 0), some (.int (1 : Int32)), none, none, some (.long l4), none, some (.int l6), some (.int l7)]) (st1 := []) (fun o kT kF => ?_) (fun h1 => ?_) (fun h1 => ?_)
    · refine j_icge (t := 81) (pc' := 58) rfl rfl rfl (fun h2 => ?_) (fun h2 => ?_)
      · exact kF (fun z => h2 z.1)
      · refine j_lload (pc' := 60) rfl rfl rfl ?_
        refine j_ldc2_w (pc' := 63) (x := (1000000000 : Int64)) rfl rfl rfl ?_
        refine j_lcmp (pc' := 64) rfl rfl ?_
        refine j_ifgtL (t := 81) (pc' := 67) rfl rfl rfl (fun h3 => ?_) (fun h3 => ?_)
        · exact kF (fun z => (fun z => z h3) z.2)
        · exact kT (⟨h2, h3⟩)
    · refine j_lload (pc' := 69) rfl rfl rfl ?_
      refine j_iload (pc' := 71) rfl rfl rfl ?_
      refine j_i2l (pc' := 72) rfl rfl ?_
      refine j_lmul (pc' := 73) rfl rfl ?_
      refine j_letl (fun v1 => ?_)
      refine j_lstore (pc' := 75) (L' := [some (.ref 0), some (.int (1 : Int32)), none, none, some (.long v1), none, some (.int l6), some (.int l7)]) rfl rfl rfl ?_
      refine j_iincx (pc' := 78) (y := (1 : Int32)) (L' := [some (.ref 0), some (.int (1 : Int32)), none, none, some (.long v1), none, some (.int l6), some (.int (l7 + (1 : Int32)))]) rfl rfl rfl rfl rfl ?_
      refine j_goto (t := 44) rfl rfl ?_
      exact ih v1 (l7 + (1 : Int32))
    · refine j_wk [false, false, true, true, true, true, false, false] (L' := [none, none, none, none, some (.long l4), none, none, none]) rfl ?_
      exact j_end (fun _ h => h)

theorem l_X11_luck_44_71 {d : Nat} (hd : 2 ≤ d) (τ : j_G) (l6 : Int32) (σ : j_G) : ∀ (n : Nat) (l4 : Int64) (l7 : Int32), j_J true τ M_cX11_luck d 44 [some (.ref 0), some (.int (2 : Int32)), none, none, some (.long l4), none, some (.int l6), some (.int l7)] [] σ (p_X11_luck_44 71 l6 σ n l4 l7) (fun r Q => j_Tr true τ M_cX11_luck d 81 [none, none, none, none, some (.long r), none, none, none] [] σ Q) := by
  intro n
  induction n with
  | zero => intro l4 l7; exact j_none
  | succ n ih =>
    intro l4 l7
    unfold p_X11_luck_44
    refine j_iload (pc' := 46) rfl rfl rfl ?_
    refine j_aload_n (pc' := 47) rfl rfl rfl ?_
    refine j_gfr (pc' := 50) (x := 42) rfl rfl j_a0 rfl rfl ?_
    refine j_iload_n (pc' := 51) rfl rfl rfl ?_
    refine j_aald (pc' := 52) (r := 71) rfl rfl j_a42 (by decide) rfl ?_
    refine j_gfi (pc' := 55) rfl rfl j_a71 rfl ?_
    refine j_two (pT := 67) (pF := 81) (L1 := [some (.ref 0), some (.int (2 : Int32)), none, none, some (.long l4), none, some (.int l6), some (.int l7)]) (st1 := []) (fun o kT kF => ?_) (fun h1 => ?_) (fun h1 => ?_)
    · refine j_icge (t := 81) (pc' := 58) rfl rfl rfl (fun h2 => ?_) (fun h2 => ?_)
      · exact kF (fun z => h2 z.1)
      · refine j_lload (pc' := 60) rfl rfl rfl ?_
        refine j_ldc2_w (pc' := 63) (x := (1000000000 : Int64)) rfl rfl rfl ?_
        refine j_lcmp (pc' := 64) rfl rfl ?_
        refine j_ifgtL (t := 81) (pc' := 67) rfl rfl rfl (fun h3 => ?_) (fun h3 => ?_)
        · exact kF (fun z => (fun z => z h3) z.2)
        · exact kT (⟨h2, h3⟩)
    · refine j_lload (pc' := 69) rfl rfl rfl ?_
      refine j_iload (pc' := 71) rfl rfl rfl ?_
      refine j_i2l (pc' := 72) rfl rfl ?_
      refine j_lmul (pc' := 73) rfl rfl ?_
      refine j_letl (fun v1 => ?_)
      refine j_lstore (pc' := 75) (L' := [some (.ref 0), some (.int (2 : Int32)), none, none, some (.long v1), none, some (.int l6), some (.int l7)]) rfl rfl rfl ?_
      refine j_iincx (pc' := 78) (y := (1 : Int32)) (L' := [some (.ref 0), some (.int (2 : Int32)), none, none, some (.long v1), none, some (.int l6), some (.int (l7 + (1 : Int32)))]) rfl rfl rfl rfl rfl ?_
      refine j_goto (t := 44) rfl rfl ?_
      exact ih v1 (l7 + (1 : Int32))
    · refine j_wk [false, false, true, true, true, true, false, false] (L' := [none, none, none, none, some (.long l4), none, none, none]) rfl ?_
      exact j_end (fun _ h => h)

theorem l_X11_luck_44_73 {d : Nat} (hd : 2 ≤ d) (τ : j_G) (l6 : Int32) (σ : j_G) : ∀ (n : Nat) (l4 : Int64) (l7 : Int32), j_J true τ M_cX11_luck d 44 [some (.ref 0), some (.int (3 : Int32)), none, none, some (.long l4), none, some (.int l6), some (.int l7)] [] σ (p_X11_luck_44 73 l6 σ n l4 l7) (fun r Q => j_Tr true τ M_cX11_luck d 81 [none, none, none, none, some (.long r), none, none, none] [] σ Q) := by
  intro n
  induction n with
  | zero => intro l4 l7; exact j_none
  | succ n ih =>
    intro l4 l7
    unfold p_X11_luck_44
    refine j_iload (pc' := 46) rfl rfl rfl ?_
    refine j_aload_n (pc' := 47) rfl rfl rfl ?_
    refine j_gfr (pc' := 50) (x := 42) rfl rfl j_a0 rfl rfl ?_
    refine j_iload_n (pc' := 51) rfl rfl rfl ?_
    refine j_aald (pc' := 52) (r := 73) rfl rfl j_a42 (by decide) rfl ?_
    refine j_gfi (pc' := 55) rfl rfl j_a73 rfl ?_
    refine j_two (pT := 67) (pF := 81) (L1 := [some (.ref 0), some (.int (3 : Int32)), none, none, some (.long l4), none, some (.int l6), some (.int l7)]) (st1 := []) (fun o kT kF => ?_) (fun h1 => ?_) (fun h1 => ?_)
    · refine j_icge (t := 81) (pc' := 58) rfl rfl rfl (fun h2 => ?_) (fun h2 => ?_)
      · exact kF (fun z => h2 z.1)
      · refine j_lload (pc' := 60) rfl rfl rfl ?_
        refine j_ldc2_w (pc' := 63) (x := (1000000000 : Int64)) rfl rfl rfl ?_
        refine j_lcmp (pc' := 64) rfl rfl ?_
        refine j_ifgtL (t := 81) (pc' := 67) rfl rfl rfl (fun h3 => ?_) (fun h3 => ?_)
        · exact kF (fun z => (fun z => z h3) z.2)
        · exact kT (⟨h2, h3⟩)
    · refine j_lload (pc' := 69) rfl rfl rfl ?_
      refine j_iload (pc' := 71) rfl rfl rfl ?_
      refine j_i2l (pc' := 72) rfl rfl ?_
      refine j_lmul (pc' := 73) rfl rfl ?_
      refine j_letl (fun v1 => ?_)
      refine j_lstore (pc' := 75) (L' := [some (.ref 0), some (.int (3 : Int32)), none, none, some (.long v1), none, some (.int l6), some (.int l7)]) rfl rfl rfl ?_
      refine j_iincx (pc' := 78) (y := (1 : Int32)) (L' := [some (.ref 0), some (.int (3 : Int32)), none, none, some (.long v1), none, some (.int l6), some (.int (l7 + (1 : Int32)))]) rfl rfl rfl rfl rfl ?_
      refine j_goto (t := 44) rfl rfl ?_
      exact ih v1 (l7 + (1 : Int32))
    · refine j_wk [false, false, true, true, true, true, false, false] (L' := [none, none, none, none, some (.long l4), none, none, none]) rfl ?_
      exact j_end (fun _ h => h)

theorem c_X11_luck (l1 : Int32) (σ : j_G) : j_K true 2 150 [.ref 0, .int l1] σ (f_X11_luck l1 σ) (j_Pi σ) := by
  refine j_mkK (M := M_cX11_luck) (L := [some (.ref 0), some (.int l1), none, none, none, none, none, none]) (m := 6) t_150 rfl (j_rcvO j_a0 rfl) rfl (fun d hd τ => ?_)
  unfold f_X11_luck
  refine j_aload_n (pc' := 1) rfl rfl rfl ?_
  refine j_iload_n (pc' := 2) rfl rfl rfl ?_
  refine j_callPi (pc' := 5) (ai := 193) (vs := [.ref 0, .int l1]) (rest := []) rfl rfl (fun _ _ => rfl) (c_X11_whyUnheard l1 σ) (j_dd rfl hd) rfl (fun v1 => ?_)
  refine j_istore_n (pc' := 6) (L' := [some (.ref 0), some (.int l1), some (.int v1), none, none, none, none, none]) rfl rfl rfl ?_
  refine j_iload_n (pc' := 7) rfl rfl rfl ?_
  refine j_two (pT := 10) (pF := 12) (L1 := [some (.ref 0), some (.int l1), some (.int v1), none, none, none, none, none]) (st1 := []) (fun o kT kF => ?_) (fun h21 => ?_) (fun h21 => ?_)
  · refine j_ifeq (t := 12) (pc' := 10) rfl rfl rfl (fun h22 => ?_) (fun h22 => ?_)
    · exact kF (fun z => z h22)
    · exact kT h22
  · refine j_iload_n (pc' := 11) rfl rfl rfl ?_
    exact j_ret rfl rfl rfl (fun _ h => h)
  · refine j_aload_n (pc' := 13) rfl rfl rfl ?_
    refine j_gfr (pc' := 16) (x := 42) rfl rfl j_a0 rfl rfl ?_
    refine j_iload_n (pc' := 17) rfl rfl rfl ?_
    refine j_spl (k := (0 : Int32)) (fun h1 => ?_) (fun h1 => ?_)
    · subst h1
      refine j_aald (pc' := 18) (r := 67) rfl rfl j_a42 (by decide) rfl ?_
      refine j_callPi (pc' := 21) (ai := 97) (vs := [.ref 67]) (rest := []) rfl rfl (fun _ _ => rfl) (c_X8_leastPeriod_67  σ) (j_dd rfl hd) rfl (fun v2 => ?_)
      refine j_istore_n (pc' := 22) (L' := [some (.ref 0), some (.int (0 : Int32)), some (.int v1), some (.int v2), none, none, none, none]) rfl rfl rfl ?_
      refine j_iload_n (pc' := 23) rfl rfl rfl ?_
      refine j_iconst (pc' := 24) (x := (-1 : Int32)) rfl rfl rfl ?_
      refine j_two (pT := 27) (pF := 29) (L1 := [some (.ref 0), some (.int (0 : Int32)), some (.int v1), some (.int v2), none, none, none, none]) (st1 := []) (fun o kT kF => ?_) (fun h4 => ?_) (fun h4 => ?_)
      · refine j_icne (t := 29) (pc' := 27) rfl rfl rfl (fun h5 => ?_) (fun h5 => ?_)
        · exact kF h5
        · exact kT h5
      · refine j_iconst (pc' := 28) (x := (-1 : Int32)) rfl rfl rfl ?_
        exact j_ret rfl rfl rfl (fun _ h => h)
      · refine j_lconst (pc' := 30) (x := (1 : Int64)) rfl rfl rfl ?_
        refine j_lstore (pc' := 32) (L' := [some (.ref 0), some (.int (0 : Int32)), some (.int v1), some (.int v2), some (.long (1 : Int64)), none, none, none]) rfl rfl rfl ?_
        refine j_aload_n (pc' := 33) rfl rfl rfl ?_
        refine j_gfr (pc' := 36) (x := 1) rfl rfl j_a0 rfl rfl ?_
        refine j_callTi (pc' := 39) (ai := 17) (vs := [.ref 1]) (rest := []) rfl rfl (fun _ _ => rfl) (c_X2_openHoles  σ) (j_dd rfl hd) rfl ?_
        refine j_leti (fun v3 => ?_)
        refine j_istore (pc' := 41) (L' := [some (.ref 0), some (.int (0 : Int32)), some (.int v1), some (.int v2), some (.long (1 : Int64)), none, some (.int v3), none]) rfl rfl rfl ?_
        refine j_iload_n (pc' := 42) rfl rfl rfl ?_
        refine j_istore (pc' := 44) (L' := [some (.ref 0), some (.int (0 : Int32)), some (.int v1), some (.int v2), some (.long (1 : Int64)), none, some (.int v3), some (.int v2)]) rfl rfl rfl ?_
        refine j_wk [true, true, false, false, true, true, true, true] (L' := [some (.ref 0), some (.int (0 : Int32)), none, none, some (.long (1 : Int64)), none, some (.int v3), some (.int v2)]) rfl ?_
        refine j_q1 (l_X11_luck_44_67 hd τ v3 σ j_F (1 : Int64) v2) (fun v4 => ?_)
        show j_J true τ M_cX11_luck d 81 [none, none, none, none, some (.long v4), none, none, none] [] σ _ _
        refine j_lload (pc' := 83) rfl rfl rfl ?_
        refine j_ldc2_w (pc' := 86) (x := (1000000000 : Int64)) rfl rfl rfl ?_
        refine j_lcmp (pc' := 87) rfl rfl ?_
        refine j_two (pT := 90) (pF := 94) (L1 := [none, none, none, none, some (.long v4), none, none, none]) (st1 := []) (fun o kT kF => ?_) (fun h2 => ?_) (fun h2 => ?_)
        · refine j_ifleL (t := 94) (pc' := 90) rfl rfl rfl (fun h3 => ?_) (fun h3 => ?_)
          · exact kF h3
          · exact kT h3
        · refine j_iconst (pc' := 91) (x := (-1 : Int32)) rfl rfl rfl ?_
          refine j_goto (t := 97) rfl rfl ?_
          exact j_ret rfl rfl rfl (fun _ h => h)
        · refine j_lload (pc' := 96) rfl rfl rfl ?_
          refine j_l2i (pc' := 97) rfl rfl ?_
          exact j_ret rfl rfl rfl (fun _ h => h)
    refine j_spl (k := (1 : Int32)) (fun h6 => ?_) (fun h6 => ?_)
    · subst h6
      refine j_aald (pc' := 18) (r := 69) rfl rfl j_a42 (by decide) rfl ?_
      refine j_callPi (pc' := 21) (ai := 97) (vs := [.ref 69]) (rest := []) rfl rfl (fun _ _ => rfl) (c_X8_leastPeriod_69  σ) (j_dd rfl hd) rfl (fun v5 => ?_)
      refine j_istore_n (pc' := 22) (L' := [some (.ref 0), some (.int (1 : Int32)), some (.int v1), some (.int v5), none, none, none, none]) rfl rfl rfl ?_
      refine j_iload_n (pc' := 23) rfl rfl rfl ?_
      refine j_iconst (pc' := 24) (x := (-1 : Int32)) rfl rfl rfl ?_
      refine j_two (pT := 27) (pF := 29) (L1 := [some (.ref 0), some (.int (1 : Int32)), some (.int v1), some (.int v5), none, none, none, none]) (st1 := []) (fun o kT kF => ?_) (fun h9 => ?_) (fun h9 => ?_)
      · refine j_icne (t := 29) (pc' := 27) rfl rfl rfl (fun h10 => ?_) (fun h10 => ?_)
        · exact kF h10
        · exact kT h10
      · refine j_iconst (pc' := 28) (x := (-1 : Int32)) rfl rfl rfl ?_
        exact j_ret rfl rfl rfl (fun _ h => h)
      · refine j_lconst (pc' := 30) (x := (1 : Int64)) rfl rfl rfl ?_
        refine j_lstore (pc' := 32) (L' := [some (.ref 0), some (.int (1 : Int32)), some (.int v1), some (.int v5), some (.long (1 : Int64)), none, none, none]) rfl rfl rfl ?_
        refine j_aload_n (pc' := 33) rfl rfl rfl ?_
        refine j_gfr (pc' := 36) (x := 1) rfl rfl j_a0 rfl rfl ?_
        refine j_callTi (pc' := 39) (ai := 17) (vs := [.ref 1]) (rest := []) rfl rfl (fun _ _ => rfl) (c_X2_openHoles  σ) (j_dd rfl hd) rfl ?_
        refine j_leti (fun v6 => ?_)
        refine j_istore (pc' := 41) (L' := [some (.ref 0), some (.int (1 : Int32)), some (.int v1), some (.int v5), some (.long (1 : Int64)), none, some (.int v6), none]) rfl rfl rfl ?_
        refine j_iload_n (pc' := 42) rfl rfl rfl ?_
        refine j_istore (pc' := 44) (L' := [some (.ref 0), some (.int (1 : Int32)), some (.int v1), some (.int v5), some (.long (1 : Int64)), none, some (.int v6), some (.int v5)]) rfl rfl rfl ?_
        refine j_wk [true, true, false, false, true, true, true, true] (L' := [some (.ref 0), some (.int (1 : Int32)), none, none, some (.long (1 : Int64)), none, some (.int v6), some (.int v5)]) rfl ?_
        refine j_q1 (l_X11_luck_44_69 hd τ v6 σ j_F (1 : Int64) v5) (fun v7 => ?_)
        show j_J true τ M_cX11_luck d 81 [none, none, none, none, some (.long v7), none, none, none] [] σ _ _
        refine j_lload (pc' := 83) rfl rfl rfl ?_
        refine j_ldc2_w (pc' := 86) (x := (1000000000 : Int64)) rfl rfl rfl ?_
        refine j_lcmp (pc' := 87) rfl rfl ?_
        refine j_two (pT := 90) (pF := 94) (L1 := [none, none, none, none, some (.long v7), none, none, none]) (st1 := []) (fun o kT kF => ?_) (fun h7 => ?_) (fun h7 => ?_)
        · refine j_ifleL (t := 94) (pc' := 90) rfl rfl rfl (fun h8 => ?_) (fun h8 => ?_)
          · exact kF h8
          · exact kT h8
        · refine j_iconst (pc' := 91) (x := (-1 : Int32)) rfl rfl rfl ?_
          refine j_goto (t := 97) rfl rfl ?_
          exact j_ret rfl rfl rfl (fun _ h => h)
        · refine j_lload (pc' := 96) rfl rfl rfl ?_
          refine j_l2i (pc' := 97) rfl rfl ?_
          exact j_ret rfl rfl rfl (fun _ h => h)
    refine j_spl (k := (2 : Int32)) (fun h11 => ?_) (fun h11 => ?_)
    · subst h11
      refine j_aald (pc' := 18) (r := 71) rfl rfl j_a42 (by decide) rfl ?_
      refine j_callPi (pc' := 21) (ai := 97) (vs := [.ref 71]) (rest := []) rfl rfl (fun _ _ => rfl) (c_X8_leastPeriod_71  σ) (j_dd rfl hd) rfl (fun v8 => ?_)
      refine j_istore_n (pc' := 22) (L' := [some (.ref 0), some (.int (2 : Int32)), some (.int v1), some (.int v8), none, none, none, none]) rfl rfl rfl ?_
      refine j_iload_n (pc' := 23) rfl rfl rfl ?_
      refine j_iconst (pc' := 24) (x := (-1 : Int32)) rfl rfl rfl ?_
      refine j_two (pT := 27) (pF := 29) (L1 := [some (.ref 0), some (.int (2 : Int32)), some (.int v1), some (.int v8), none, none, none, none]) (st1 := []) (fun o kT kF => ?_) (fun h14 => ?_) (fun h14 => ?_)
      · refine j_icne (t := 29) (pc' := 27) rfl rfl rfl (fun h15 => ?_) (fun h15 => ?_)
        · exact kF h15
        · exact kT h15
      · refine j_iconst (pc' := 28) (x := (-1 : Int32)) rfl rfl rfl ?_
        exact j_ret rfl rfl rfl (fun _ h => h)
      · refine j_lconst (pc' := 30) (x := (1 : Int64)) rfl rfl rfl ?_
        refine j_lstore (pc' := 32) (L' := [some (.ref 0), some (.int (2 : Int32)), some (.int v1), some (.int v8), some (.long (1 : Int64)), none, none, none]) rfl rfl rfl ?_
        refine j_aload_n (pc' := 33) rfl rfl rfl ?_
        refine j_gfr (pc' := 36) (x := 1) rfl rfl j_a0 rfl rfl ?_
        refine j_callTi (pc' := 39) (ai := 17) (vs := [.ref 1]) (rest := []) rfl rfl (fun _ _ => rfl) (c_X2_openHoles  σ) (j_dd rfl hd) rfl ?_
        refine j_leti (fun v9 => ?_)
        refine j_istore (pc' := 41) (L' := [some (.ref 0), some (.int (2 : Int32)), some (.int v1), some (.int v8), some (.long (1 : Int64)), none, some (.int v9), none]) rfl rfl rfl ?_
        refine j_iload_n (pc' := 42) rfl rfl rfl ?_
        refine j_istore (pc' := 44) (L' := [some (.ref 0), some (.int (2 : Int32)), some (.int v1), some (.int v8), some (.long (1 : Int64)), none, some (.int v9), some (.int v8)]) rfl rfl rfl ?_
        refine j_wk [true, true, false, false, true, true, true, true] (L' := [some (.ref 0), some (.int (2 : Int32)), none, none, some (.long (1 : Int64)), none, some (.int v9), some (.int v8)]) rfl ?_
        refine j_q1 (l_X11_luck_44_71 hd τ v9 σ j_F (1 : Int64) v8) (fun v10 => ?_)
        show j_J true τ M_cX11_luck d 81 [none, none, none, none, some (.long v10), none, none, none] [] σ _ _
        refine j_lload (pc' := 83) rfl rfl rfl ?_
        refine j_ldc2_w (pc' := 86) (x := (1000000000 : Int64)) rfl rfl rfl ?_
        refine j_lcmp (pc' := 87) rfl rfl ?_
        refine j_two (pT := 90) (pF := 94) (L1 := [none, none, none, none, some (.long v10), none, none, none]) (st1 := []) (fun o kT kF => ?_) (fun h12 => ?_) (fun h12 => ?_)
        · refine j_ifleL (t := 94) (pc' := 90) rfl rfl rfl (fun h13 => ?_) (fun h13 => ?_)
          · exact kF h13
          · exact kT h13
        · refine j_iconst (pc' := 91) (x := (-1 : Int32)) rfl rfl rfl ?_
          refine j_goto (t := 97) rfl rfl ?_
          exact j_ret rfl rfl rfl (fun _ h => h)
        · refine j_lload (pc' := 96) rfl rfl rfl ?_
          refine j_l2i (pc' := 97) rfl rfl ?_
          exact j_ret rfl rfl rfl (fun _ h => h)
    refine j_spl (k := (3 : Int32)) (fun h16 => ?_) (fun h16 => ?_)
    · subst h16
      refine j_aald (pc' := 18) (r := 73) rfl rfl j_a42 (by decide) rfl ?_
      refine j_callPi (pc' := 21) (ai := 97) (vs := [.ref 73]) (rest := []) rfl rfl (fun _ _ => rfl) (c_X8_leastPeriod_73  σ) (j_dd rfl hd) rfl (fun v11 => ?_)
      refine j_istore_n (pc' := 22) (L' := [some (.ref 0), some (.int (3 : Int32)), some (.int v1), some (.int v11), none, none, none, none]) rfl rfl rfl ?_
      refine j_iload_n (pc' := 23) rfl rfl rfl ?_
      refine j_iconst (pc' := 24) (x := (-1 : Int32)) rfl rfl rfl ?_
      refine j_two (pT := 27) (pF := 29) (L1 := [some (.ref 0), some (.int (3 : Int32)), some (.int v1), some (.int v11), none, none, none, none]) (st1 := []) (fun o kT kF => ?_) (fun h19 => ?_) (fun h19 => ?_)
      · refine j_icne (t := 29) (pc' := 27) rfl rfl rfl (fun h20 => ?_) (fun h20 => ?_)
        · exact kF h20
        · exact kT h20
      · refine j_iconst (pc' := 28) (x := (-1 : Int32)) rfl rfl rfl ?_
        exact j_ret rfl rfl rfl (fun _ h => h)
      · refine j_lconst (pc' := 30) (x := (1 : Int64)) rfl rfl rfl ?_
        refine j_lstore (pc' := 32) (L' := [some (.ref 0), some (.int (3 : Int32)), some (.int v1), some (.int v11), some (.long (1 : Int64)), none, none, none]) rfl rfl rfl ?_
        refine j_aload_n (pc' := 33) rfl rfl rfl ?_
        refine j_gfr (pc' := 36) (x := 1) rfl rfl j_a0 rfl rfl ?_
        refine j_callTi (pc' := 39) (ai := 17) (vs := [.ref 1]) (rest := []) rfl rfl (fun _ _ => rfl) (c_X2_openHoles  σ) (j_dd rfl hd) rfl ?_
        refine j_leti (fun v12 => ?_)
        refine j_istore (pc' := 41) (L' := [some (.ref 0), some (.int (3 : Int32)), some (.int v1), some (.int v11), some (.long (1 : Int64)), none, some (.int v12), none]) rfl rfl rfl ?_
        refine j_iload_n (pc' := 42) rfl rfl rfl ?_
        refine j_istore (pc' := 44) (L' := [some (.ref 0), some (.int (3 : Int32)), some (.int v1), some (.int v11), some (.long (1 : Int64)), none, some (.int v12), some (.int v11)]) rfl rfl rfl ?_
        refine j_wk [true, true, false, false, true, true, true, true] (L' := [some (.ref 0), some (.int (3 : Int32)), none, none, some (.long (1 : Int64)), none, some (.int v12), some (.int v11)]) rfl ?_
        refine j_q1 (l_X11_luck_44_73 hd τ v12 σ j_F (1 : Int64) v11) (fun v13 => ?_)
        show j_J true τ M_cX11_luck d 81 [none, none, none, none, some (.long v13), none, none, none] [] σ _ _
        refine j_lload (pc' := 83) rfl rfl rfl ?_
        refine j_ldc2_w (pc' := 86) (x := (1000000000 : Int64)) rfl rfl rfl ?_
        refine j_lcmp (pc' := 87) rfl rfl ?_
        refine j_two (pT := 90) (pF := 94) (L1 := [none, none, none, none, some (.long v13), none, none, none]) (st1 := []) (fun o kT kF => ?_) (fun h17 => ?_) (fun h17 => ?_)
        · refine j_ifleL (t := 94) (pc' := 90) rfl rfl rfl (fun h18 => ?_) (fun h18 => ?_)
          · exact kF h18
          · exact kT h18
        · refine j_iconst (pc' := 91) (x := (-1 : Int32)) rfl rfl rfl ?_
          refine j_goto (t := 97) rfl rfl ?_
          exact j_ret rfl rfl rfl (fun _ h => h)
        · refine j_lload (pc' := 96) rfl rfl rfl ?_
          refine j_l2i (pc' := 97) rfl rfl ?_
          exact j_ret rfl rfl rfl (fun _ h => h)
    exact j_none

