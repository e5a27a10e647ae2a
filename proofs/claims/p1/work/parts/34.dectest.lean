set_option maxRecDepth 100000 in
theorem t_92 : (x_mt : List xM)[92]? = some M_cX8_make := rfl
set_option maxRecDepth 100000 in
theorem t_109 : (x_mt : List xM)[109]? = some M_cX10_put := rfl
set_option maxRecDepth 100000 in
theorem t_112 : (x_mt : List xM)[112]? = some M_cX11_feed := rfl
set_option maxRecDepth 100000 in
theorem t_179 : (x_mt : List xM)[179]? = some M_cX11_row := rfl
set_option maxRecDepth 100000 in
theorem t_182 : (x_mt : List xM)[182]? = some M_cX11_isSlot := rfl
set_option maxRecDepth 100000 in
theorem t_196 : (x_mt : List xM)[196]? = some M_cX12_in := rfl
set_option maxRecDepth 100000 in
theorem t_208 : (x_mt : List xM)[208]? = some M_cX12_feed := rfl
set_option maxRecDepth 100000 in
theorem t_351 : (x_mt : List xM)[351]? = some M_cX12_isSlot := rfl
set_option maxRecDepth 100000 in
theorem t_353 : (x_mt : List xM)[353]? = some M_cX12_row := rfl
def p_X10_put_3 (l1 : Int32) : Nat → Int32 → j_G → Option j_G
  | 0, _, _ => none
  | n + 1, l2, σ =>
    if (¬ l2 < 0) ∧ ((σ.1 19 0) < (1200 : Int32)) then (j_ix (σ.1 19 0) 1200 (
    j_lt (j_si σ 20 ((σ.1 19 0)).toNatClampNeg (vp_nar .byte ((l1 >>> (l2 &&& 31))).toInt8.toInt32)) fun σ1 =>
    j_lt (j_si σ1 19 0 ((σ1.1 19 0) + (1 : Int32))) fun σ2 =>
    p_X10_put_3 l1 n (l2 + (-8 : Int32)) σ2)) else (some σ)

def f_X10_put (l1 : Int32) (σ : j_G) : Option j_G :=
  j_b1 (p_X10_put_3 l1 j_F (24 : Int32) σ) fun σ1 =>
  some σ1
theorem l_X10_put_3 {d : Nat} (hd : 0 ≤ d) (τ : j_G) (l1 : Int32) : ∀ (n : Nat) (l2 : Int32) (σ : j_G), j_J true τ M_cX10_put d 3 [some (.ref 19), some (.int l1), some (.int l2)] [] σ (p_X10_put_3 l1 n l2 σ) (fun r Q => j_Tr true τ M_cX10_put d 46 [none, none, none] [] r Q) := by
  intro n
  induction n with
  | zero => intro l2 σ; exact j_none
  | succ n ih =>
    intro l2 σ
    unfold p_X10_put_3
    refine j_iload_n (pc' := 4) rfl rfl rfl ?_
    refine j_two (pT := 17) (pF := 46) (L1 := [some (.ref 19), some (.int l1), some (.int l2)]) (st1 := []) (fun o kT kF => ?_) (fun h1 => ?_) (fun h1 => ?_)
    · refine j_iflt (t := 46) (pc' := 7) rfl rfl rfl (fun h2 => ?_) (fun h2 => ?_)
      · exact kF (fun z => z.1 h2)
      · refine j_aload_n (pc' := 8) rfl rfl rfl ?_
        refine j_gfi (pc' := 11) rfl rfl j_a19 rfl ?_
        refine j_sipush (pc' := 14) (x := (1200 : Int32)) rfl rfl rfl ?_
        refine j_icge (t := 46) (pc' := 17) rfl rfl rfl (fun h3 => ?_) (fun h3 => ?_)
        · exact kF (fun z => (h3) z.2)
        · exact kT (⟨h2, h3⟩)
    · refine j_aload_n (pc' := 18) rfl rfl rfl ?_
      refine j_gfr (pc' := 21) (x := 20) rfl rfl j_a19 rfl rfl ?_
      refine j_aload_n (pc' := 22) rfl rfl rfl ?_
      refine j_gfi (pc' := 25) rfl rfl j_a19 rfl ?_
      refine j_iload_n (pc' := 26) rfl rfl rfl ?_
      refine j_iload_n (pc' := 27) rfl rfl rfl ?_
      refine j_ishr (pc' := 28) rfl rfl ?_
      refine j_i2b (pc' := 29) rfl rfl ?_
      refine j_bast (pc' := 30) rfl rfl j_a20 (fun σ1 => ?_)
      refine j_aload_n (pc' := 31) rfl rfl rfl ?_
      refine j_dup (pc' := 32) rfl rfl rfl ?_
      refine j_gfi (pc' := 35) rfl rfl j_a19 rfl ?_
      refine j_iconst (pc' := 36) (x := (1 : Int32)) rfl rfl rfl ?_
      refine j_iadd (pc' := 37) rfl rfl ?_
      refine j_pfi (pc' := 40) rfl rfl j_a19 rfl rfl (fun σ2 => ?_)
      refine j_iincx (pc' := 43) (y := (-8 : Int32)) (L' := [some (.ref 19), some (.int l1), some (.int (l2 + (-8 : Int32)))]) rfl rfl rfl rfl rfl ?_
      refine j_goto (t := 3) rfl rfl ?_
      exact ih (l2 + (-8 : Int32)) σ2
    · refine j_wk [false, false, false] (L' := [none, none, none]) rfl ?_
      exact j_end (fun _ h => h)

theorem c_X10_put (l1 : Int32) (σ : j_G) : j_K true 0 109 [.ref 19, .int l1] σ (f_X10_put l1 σ) j_Rv := by
  refine j_mkK (M := M_cX10_put) (L := [some (.ref 19), some (.int l1), none]) (m := 1) t_109 rfl (j_rcvO j_a19 rfl) rfl (fun d hd τ => ?_)
  unfold f_X10_put
  refine j_bipush (pc' := 2) (x := (24 : Int32)) rfl rfl rfl ?_
  refine j_istore_n (pc' := 3) (L' := [some (.ref 19), some (.int l1), some (.int (24 : Int32))]) rfl rfl rfl ?_
  refine j_q1 (l_X10_put_3 hd τ l1 j_F (24 : Int32) σ) (fun σ1 => ?_)
  show j_J true τ M_cX10_put d 46 [none, none, none] [] σ1 _ _
  exact j_ret rfl rfl rfl (fun _ h => h)

def f_X11_feed (l1 : Int32) (l2 : Int32) (l3 : Int32) (l4 : Int32) (l5 : Int32) (σ : j_G) : Option (Int32 × j_G) :=
  if (1200 : Int32) < ((σ.1 19 0) + (20 : Int32)) then (some ((-1 : Int32), σ)) else (j_b1 (f_X10_put l1 σ) fun σ1 =>
  j_b1 (f_X10_put l2 σ1) fun σ2 =>
  j_b1 (f_X10_put l3 σ2) fun σ3 =>
  j_b1 (f_X10_put l4 σ3) fun σ4 =>
  j_b1 (f_X10_put l5 σ4) fun σ5 =>
  some ((σ5.1 19 0), σ5))
theorem c_X11_feed (l1 : Int32) (l2 : Int32) (l3 : Int32) (l4 : Int32) (l5 : Int32) (σ : j_G) : j_K true 1 112 [.ref 0, .int l1, .int l2, .int l3, .int l4, .int l5] σ (f_X11_feed l1 l2 l3 l4 l5 σ) j_Ri := by
  refine j_mkK (M := M_cX11_feed) (L := [some (.ref 0), some (.int l1), some (.int l2), some (.int l3), some (.int l4), some (.int l5)]) (m := 0) t_112 rfl (j_rcvO j_a0 rfl) rfl (fun d hd τ => ?_)
  unfold f_X11_feed
  refine j_aload_n (pc' := 1) rfl rfl rfl ?_
  refine j_gfr (pc' := 4) (x := 10) rfl rfl j_a0 rfl rfl ?_
  refine j_gfr (pc' := 7) (x := 19) rfl rfl j_a10 rfl rfl ?_
  refine j_gfi (pc' := 10) rfl rfl j_a19 rfl ?_
  refine j_bipush (pc' := 12) (x := (20 : Int32)) rfl rfl rfl ?_
  refine j_iadd (pc' := 13) rfl rfl ?_
  refine j_sipush (pc' := 16) (x := (1200 : Int32)) rfl rfl rfl ?_
  refine j_two (pT := 19) (pF := 21) (L1 := [some (.ref 0), some (.int l1), some (.int l2), some (.int l3), some (.int l4), some (.int l5)]) (st1 := []) (fun o kT kF => ?_) (fun h1 => ?_) (fun h1 => ?_)
  · refine j_icle (t := 21) (pc' := 19) rfl rfl rfl (fun h2 => ?_) (fun h2 => ?_)
    · exact kF h2
    · exact kT h2
  · refine j_iconst (pc' := 20) (x := (-1 : Int32)) rfl rfl rfl ?_
    exact j_ret rfl rfl rfl (fun _ h => h)
  · refine j_aload_n (pc' := 22) rfl rfl rfl ?_
    refine j_gfr (pc' := 25) (x := 10) rfl rfl j_a0 rfl rfl ?_
    refine j_gfr (pc' := 28) (x := 19) rfl rfl j_a10 rfl rfl ?_
    refine j_iload_n (pc' := 29) rfl rfl rfl ?_
    refine j_callRv (pc' := 32) (ai := 109) (vs := [.ref 19, .int l1]) (rest := []) rfl rfl (fun _ _ => rfl) (c_X10_put l1 σ) (j_dd rfl hd) rfl (fun σ1 => ?_)
    refine j_aload_n (pc' := 33) rfl rfl rfl ?_
    refine j_gfr (pc' := 36) (x := 10) rfl rfl j_a0 rfl rfl ?_
    refine j_gfr (pc' := 39) (x := 19) rfl rfl j_a10 rfl rfl ?_
    refine j_iload_n (pc' := 40) rfl rfl rfl ?_
    refine j_callRv (pc' := 43) (ai := 109) (vs := [.ref 19, .int l2]) (rest := []) rfl rfl (fun _ _ => rfl) (c_X10_put l2 σ1) (j_dd rfl hd) rfl (fun σ2 => ?_)
    refine j_aload_n (pc' := 44) rfl rfl rfl ?_
    refine j_gfr (pc' := 47) (x := 10) rfl rfl j_a0 rfl rfl ?_
    refine j_gfr (pc' := 50) (x := 19) rfl rfl j_a10 rfl rfl ?_
    refine j_iload_n (pc' := 51) rfl rfl rfl ?_
    refine j_callRv (pc' := 54) (ai := 109) (vs := [.ref 19, .int l3]) (rest := []) rfl rfl (fun _ _ => rfl) (c_X10_put l3 σ2) (j_dd rfl hd) rfl (fun σ3 => ?_)
    refine j_aload_n (pc' := 55) rfl rfl rfl ?_
    refine j_gfr (pc' := 58) (x := 10) rfl rfl j_a0 rfl rfl ?_
    refine j_gfr (pc' := 61) (x := 19) rfl rfl j_a10 rfl rfl ?_
    refine j_iload (pc' := 63) rfl rfl rfl ?_
    refine j_callRv (pc' := 66) (ai := 109) (vs := [.ref 19, .int l4]) (rest := []) rfl rfl (fun _ _ => rfl) (c_X10_put l4 σ3) (j_dd rfl hd) rfl (fun σ4 => ?_)
    refine j_aload_n (pc' := 67) rfl rfl rfl ?_
    refine j_gfr (pc' := 70) (x := 10) rfl rfl j_a0 rfl rfl ?_
    refine j_gfr (pc' := 73) (x := 19) rfl rfl j_a10 rfl rfl ?_
    refine j_iload (pc' := 75) rfl rfl rfl ?_
    refine j_callRv (pc' := 78) (ai := 109) (vs := [.ref 19, .int l5]) (rest := []) rfl rfl (fun _ _ => rfl) (c_X10_put l5 σ4) (j_dd rfl hd) rfl (fun σ5 => ?_)
    refine j_aload_n (pc' := 79) rfl rfl rfl ?_
    refine j_gfr (pc' := 82) (x := 10) rfl rfl j_a0 rfl rfl ?_
    refine j_gfr (pc' := 85) (x := 19) rfl rfl j_a10 rfl rfl ?_
    refine j_gfi (pc' := 88) rfl rfl j_a19 rfl ?_
    exact j_ret rfl rfl rfl (fun _ h => h)

def f_X11_isSlot (l0 : Int32) : Int32 :=
  if (¬ l0 < 0) ∧ (l0 < (4 : Int32)) then ((1 : Int32)) else ((0 : Int32))

theorem b_X11_isSlot (l0 : Int32) : f_X11_isSlot l0 = 0 ∨ f_X11_isSlot l0 = 1 := by
  unfold f_X11_isSlot
  repeat' split
  all_goals first | exact Or.inl rfl | exact Or.inr rfl
theorem c_X11_isSlot (l0 : Int32) (σ : j_G) : j_K true 0 182 [.int l0] σ (some (f_X11_isSlot l0)) (j_Pi σ) := by
  refine j_mkK (M := M_cX11_isSlot) (L := [some (.int l0)]) (m := 0) t_182 rfl (j_rcvS rfl) rfl (fun d hd τ => ?_)
  unfold f_X11_isSlot
  refine j_iload_n (pc' := 1) rfl rfl rfl ?_
  refine j_twoT (pT := 9) (pF := 13) (L1 := [some (.int l0)]) (st1 := []) (fun o kT kF => ?_) (fun h1 => ?_) (fun h1 => ?_)
  · refine j_iflt (t := 13) (pc' := 4) rfl rfl rfl (fun h2 => ?_) (fun h2 => ?_)
    · exact kF (fun z => z.1 h2)
    · refine j_iload_n (pc' := 5) rfl rfl rfl ?_
      refine j_iconst (pc' := 6) (x := (4 : Int32)) rfl rfl rfl ?_
      refine j_icge (t := 13) (pc' := 9) rfl rfl rfl (fun h3 => ?_) (fun h3 => ?_)
      · exact kF (fun z => (h3) z.2)
      · exact kT (⟨h2, h3⟩)
  · refine j_iconst (pc' := 10) (x := (1 : Int32)) rfl rfl rfl ?_
    refine j_goto (t := 14) rfl rfl ?_
    exact j_ret rfl rfl rfl (fun _ h => h)
  · refine j_iconst (pc' := 14) (x := (0 : Int32)) rfl rfl rfl ?_
    exact j_ret rfl rfl rfl (fun _ h => h)

def p_X8_make_23 (a0_2 : Nat) : Nat → Int32 → j_G → Option j_G
  | 0, _, _ => none
  | n + 1, l3, σ =>
    if l3 < (60 : Int32) then (j_ix l3 60 (
    j_lt (j_sl σ a0_2 (l3).toNatClampNeg (0 : Int64)) fun σ1 =>
    p_X8_make_23 a0_2 n (l3 + (1 : Int32)) σ1)) else (some σ)

def f_X8_make (a0 : Nat) (a0_2 : Nat) (l1 : Int32) (l2 : Int32) (σ : j_G) : Option j_G :=
  if (l2 < 0) ∨ ((60 : Int32) < l2) then (some σ) else (j_lt (j_si σ a0 1 l1) fun σ1 =>
  j_lt (j_si σ1 a0 0 l2) fun σ2 =>
  j_b1 (p_X8_make_23 a0_2 j_F (0 : Int32) σ2) fun σ3 =>
  some σ3)
theorem l_X8_make_23_67 {d : Nat} (hd : 0 ≤ d) (τ : j_G) : ∀ (n : Nat) (l3 : Int32) (σ : j_G), j_J true τ M_cX8_make d 23 [some (.ref 67), none, none, some (.int l3)] [] σ (p_X8_make_23 68 n l3 σ) (fun r Q => j_Tr true τ M_cX8_make d 42 [none, none, none, none] [] r Q) := by
  intro n
  induction n with
  | zero => intro l3 σ; exact j_none
  | succ n ih =>
    intro l3 σ
    unfold p_X8_make_23
    refine j_iload_n (pc' := 24) rfl rfl rfl ?_
    refine j_bipush (pc' := 26) (x := (60 : Int32)) rfl rfl rfl ?_
    refine j_two (pT := 29) (pF := 42) (L1 := [some (.ref 67), none, none, some (.int l3)]) (st1 := []) (fun o kT kF => ?_) (fun h1 => ?_) (fun h1 => ?_)
    · refine j_icge (t := 42) (pc' := 29) rfl rfl rfl (fun h2 => ?_) (fun h2 => ?_)
      · exact kF h2
      · exact kT h2
    · refine j_aload_n (pc' := 30) rfl rfl rfl ?_
      refine j_gfr (pc' := 33) (x := 68) rfl rfl j_a67 rfl rfl ?_
      refine j_iload_n (pc' := 34) rfl rfl rfl ?_
      refine j_lconst (pc' := 35) (x := (0 : Int64)) rfl rfl rfl ?_
      refine j_last (pc' := 36) rfl rfl j_a68 (fun σ1 => ?_)
      refine j_iincx (pc' := 39) (y := (1 : Int32)) (L' := [some (.ref 67), none, none, some (.int (l3 + (1 : Int32)))]) rfl rfl rfl rfl rfl ?_
      refine j_goto (t := 23) rfl rfl ?_
      exact ih (l3 + (1 : Int32)) σ1
    · refine j_wk [false, true, true, false] (L' := [none, none, none, none]) rfl ?_
      exact j_end (fun _ h => h)

theorem c_X8_make_67 (l1 : Int32) (l2 : Int32) (σ : j_G) : j_K true 0 92 [.ref 67, .int l1, .int l2] σ (f_X8_make 67 68 l1 l2 σ) j_Rv := by
  refine j_mkK (M := M_cX8_make) (L := [some (.ref 67), some (.int l1), some (.int l2), none]) (m := 1) t_92 rfl (j_rcvO j_a67 rfl) rfl (fun d hd τ => ?_)
  unfold f_X8_make
  refine j_iload_n (pc' := 1) rfl rfl rfl ?_
  refine j_two (pT := 10) (pF := 11) (L1 := [some (.ref 67), some (.int l1), some (.int l2), none]) (st1 := []) (fun o kT kF => ?_) (fun h1 => ?_) (fun h1 => ?_)
  · refine j_iflt (t := 10) (pc' := 4) rfl rfl rfl (fun h2 => ?_) (fun h2 => ?_)
    · exact kT (Or.inl h2)
    · refine j_iload_n (pc' := 5) rfl rfl rfl ?_
      refine j_bipush (pc' := 7) (x := (60 : Int32)) rfl rfl rfl ?_
      refine j_icle (t := 11) (pc' := 10) rfl rfl rfl (fun h3 => ?_) (fun h3 => ?_)
      · exact kF (fun z => z.elim h2 (h3))
      · exact kT (Or.inr (h3))
  · exact j_ret rfl rfl rfl (fun _ h => h)
  · refine j_aload_n (pc' := 12) rfl rfl rfl ?_
    refine j_iload_n (pc' := 13) rfl rfl rfl ?_
    refine j_pfi (pc' := 16) rfl rfl j_a67 rfl rfl (fun σ1 => ?_)
    refine j_aload_n (pc' := 17) rfl rfl rfl ?_
    refine j_iload_n (pc' := 18) rfl rfl rfl ?_
    refine j_pfi (pc' := 21) rfl rfl j_a67 rfl rfl (fun σ2 => ?_)
    refine j_iconst (pc' := 22) (x := (0 : Int32)) rfl rfl rfl ?_
    refine j_istore_n (pc' := 23) (L' := [some (.ref 67), some (.int l1), some (.int l2), some (.int (0 : Int32))]) rfl rfl rfl ?_
    refine j_wk [true, false, false, true] (L' := [some (.ref 67), none, none, some (.int (0 : Int32))]) rfl ?_
    refine j_q1 (l_X8_make_23_67 hd τ j_F (0 : Int32) σ2) (fun σ3 => ?_)
    show j_J true τ M_cX8_make d 42 [none, none, none, none] [] σ3 _ _
    exact j_ret rfl rfl rfl (fun _ h => h)

theorem l_X8_make_23_69 {d : Nat} (hd : 0 ≤ d) (τ : j_G) : ∀ (n : Nat) (l3 : Int32) (σ : j_G), j_J true τ M_cX8_make d 23 [some (.ref 69), none, none, some (.int l3)] [] σ (p_X8_make_23 70 n l3 σ) (fun r Q => j_Tr true τ M_cX8_make d 42 [none, none, none, none] [] r Q) := by
  intro n
  induction n with
  | zero => intro l3 σ; exact j_none
  | succ n ih =>
    intro l3 σ
    unfold p_X8_make_23
    refine j_iload_n (pc' := 24) rfl rfl rfl ?_
    refine j_bipush (pc' := 26) (x := (60 : Int32)) rfl rfl rfl ?_
    refine j_two (pT := 29) (pF := 42) (L1 := [some (.ref 69), none, none, some (.int l3)]) (st1 := []) (fun o kT kF => ?_) (fun h1 => ?_) (fun h1 => ?_)
    · refine j_icge (t := 42) (pc' := 29) rfl rfl rfl (fun h2 => ?_) (fun h2 => ?_)
      · exact kF h2
      · exact kT h2
    · refine j_aload_n (pc' := 30) rfl rfl rfl ?_
      refine j_gfr (pc' := 33) (x := 70) rfl rfl j_a69 rfl rfl ?_
      refine j_iload_n (pc' := 34) rfl rfl rfl ?_
      refine j_lconst (pc' := 35) (x := (0 : Int64)) rfl rfl rfl ?_
      refine j_last (pc' := 36) rfl rfl j_a70 (fun σ1 => ?_)
      refine j_iincx (pc' := 39) (y := (1 : Int32)) (L' := [some (.ref 69), none, none, some (.int (l3 + (1 : Int32)))]) rfl rfl rfl rfl rfl ?_
      refine j_goto (t := 23) rfl rfl ?_
      exact ih (l3 + (1 : Int32)) σ1
    · refine j_wk [false, true, true, false] (L' := [none, none, none, none]) rfl ?_
      exact j_end (fun _ h => h)

theorem c_X8_make_69 (l1 : Int32) (l2 : Int32) (σ : j_G) : j_K true 0 92 [.ref 69, .int l1, .int l2] σ (f_X8_make 69 70 l1 l2 σ) j_Rv := by
  refine j_mkK (M := M_cX8_make) (L := [some (.ref 69), some (.int l1), some (.int l2), none]) (m := 1) t_92 rfl (j_rcvO j_a69 rfl) rfl (fun d hd τ => ?_)
  unfold f_X8_make
  refine j_iload_n (pc' := 1) rfl rfl rfl ?_
  refine j_two (pT := 10) (pF := 11) (L1 := [some (.ref 69), some (.int l1), some (.int l2), none]) (st1 := []) (fun o kT kF => ?_) (fun h1 => ?_) (fun h1 => ?_)
  · refine j_iflt (t := 10) (pc' := 4) rfl rfl rfl (fun h2 => ?_) (fun h2 => ?_)
    · exact kT (Or.inl h2)
    · refine j_iload_n (pc' := 5) rfl rfl rfl ?_
      refine j_bipush (pc' := 7) (x := (60 : Int32)) rfl rfl rfl ?_
      refine j_icle (t := 11) (pc' := 10) rfl rfl rfl (fun h3 => ?_) (fun h3 => ?_)
      · exact kF (fun z => z.elim h2 (h3))
      · exact kT (Or.inr (h3))
  · exact j_ret rfl rfl rfl (fun _ h => h)
  · refine j_aload_n (pc' := 12) rfl rfl rfl ?_
    refine j_iload_n (pc' := 13) rfl rfl rfl ?_
    refine j_pfi (pc' := 16) rfl rfl j_a69 rfl rfl (fun σ1 => ?_)
    refine j_aload_n (pc' := 17) rfl rfl rfl ?_
    refine j_iload_n (pc' := 18) rfl rfl rfl ?_
    refine j_pfi (pc' := 21) rfl rfl j_a69 rfl rfl (fun σ2 => ?_)
    refine j_iconst (pc' := 22) (x := (0 : Int32)) rfl rfl rfl ?_
    refine j_istore_n (pc' := 23) (L' := [some (.ref 69), some (.int l1), some (.int l2), some (.int (0 : Int32))]) rfl rfl rfl ?_
    refine j_wk [true, false, false, true] (L' := [some (.ref 69), none, none, some (.int (0 : Int32))]) rfl ?_
    refine j_q1 (l_X8_make_23_69 hd τ j_F (0 : Int32) σ2) (fun σ3 => ?_)
    show j_J true τ M_cX8_make d 42 [none, none, none, none] [] σ3 _ _
    exact j_ret rfl rfl rfl (fun _ h => h)

theorem l_X8_make_23_71 {d : Nat} (hd : 0 ≤ d) (τ : j_G) : ∀ (n : Nat) (l3 : Int32) (σ : j_G), j_J true τ M_cX8_make d 23 [some (.ref 71), none, none, some (.int l3)] [] σ (p_X8_make_23 72 n l3 σ) (fun r Q => j_Tr true τ M_cX8_make d 42 [none, none, none, none] [] r Q) := by
  intro n
  induction n with
  | zero => intro l3 σ; exact j_none
  | succ n ih =>
    intro l3 σ
    unfold p_X8_make_23
    refine j_iload_n (pc' := 24) rfl rfl rfl ?_
    refine j_bipush (pc' := 26) (x := (60 : Int32)) rfl rfl rfl ?_
    refine j_two (pT := 29) (pF := 42) (L1 := [some (.ref 71), none, none, some (.int l3)]) (st1 := []) (fun o kT kF => ?_) (fun h1 => ?_) (fun h1 => ?_)
    · refine j_icge (t := 42) (pc' := 29) rfl rfl rfl (fun h2 => ?_) (fun h2 => ?_)
      · exact kF h2
      · exact kT h2
    · refine j_aload_n (pc' := 30) rfl rfl rfl ?_
      refine j_gfr (pc' := 33) (x := 72) rfl rfl j_a71 rfl rfl ?_
      refine j_iload_n (pc' := 34) rfl rfl rfl ?_
      refine j_lconst (pc' := 35) (x := (0 : Int64)) rfl rfl rfl ?_
      refine j_last (pc' := 36) rfl rfl j_a72 (fun σ1 => ?_)
      refine j_iincx (pc' := 39) (y := (1 : Int32)) (L' := [some (.ref 71), none, none, some (.int (l3 + (1 : Int32)))]) rfl rfl rfl rfl rfl ?_
      refine j_goto (t := 23) rfl rfl ?_
      exact ih (l3 + (1 : Int32)) σ1
    · refine j_wk [false, true, true, false] (L' := [none, none, none, none]) rfl ?_
      exact j_end (fun _ h => h)

theorem c_X8_make_71 (l1 : Int32) (l2 : Int32) (σ : j_G) : j_K true 0 92 [.ref 71, .int l1, .int l2] σ (f_X8_make 71 72 l1 l2 σ) j_Rv := by
  refine j_mkK (M := M_cX8_make) (L := [some (.ref 71), some (.int l1), some (.int l2), none]) (m := 1) t_92 rfl (j_rcvO j_a71 rfl) rfl (fun d hd τ => ?_)
  unfold f_X8_make
  refine j_iload_n (pc' := 1) rfl rfl rfl ?_
  refine j_two (pT := 10) (pF := 11) (L1 := [some (.ref 71), some (.int l1), some (.int l2), none]) (st1 := []) (fun o kT kF => ?_) (fun h1 => ?_) (fun h1 => ?_)
  · refine j_iflt (t := 10) (pc' := 4) rfl rfl rfl (fun h2 => ?_) (fun h2 => ?_)
    · exact kT (Or.inl h2)
    · refine j_iload_n (pc' := 5) rfl rfl rfl ?_
      refine j_bipush (pc' := 7) (x := (60 : Int32)) rfl rfl rfl ?_
      refine j_icle (t := 11) (pc' := 10) rfl rfl rfl (fun h3 => ?_) (fun h3 => ?_)
      · exact kF (fun z => z.elim h2 (h3))
      · exact kT (Or.inr (h3))
  · exact j_ret rfl rfl rfl (fun _ h => h)
  · refine j_aload_n (pc' := 12) rfl rfl rfl ?_
    refine j_iload_n (pc' := 13) rfl rfl rfl ?_
    refine j_pfi (pc' := 16) rfl rfl j_a71 rfl rfl (fun σ1 => ?_)
    refine j_aload_n (pc' := 17) rfl rfl rfl ?_
    refine j_iload_n (pc' := 18) rfl rfl rfl ?_
    refine j_pfi (pc' := 21) rfl rfl j_a71 rfl rfl (fun σ2 => ?_)
    refine j_iconst (pc' := 22) (x := (0 : Int32)) rfl rfl rfl ?_
    refine j_istore_n (pc' := 23) (L' := [some (.ref 71), some (.int l1), some (.int l2), some (.int (0 : Int32))]) rfl rfl rfl ?_
    refine j_wk [true, false, false, true] (L' := [some (.ref 71), none, none, some (.int (0 : Int32))]) rfl ?_
    refine j_q1 (l_X8_make_23_71 hd τ j_F (0 : Int32) σ2) (fun σ3 => ?_)
    show j_J true τ M_cX8_make d 42 [none, none, none, none] [] σ3 _ _
    exact j_ret rfl rfl rfl (fun _ h => h)

theorem l_X8_make_23_73 {d : Nat} (hd : 0 ≤ d) (τ : j_G) : ∀ (n : Nat) (l3 : Int32) (σ : j_G), j_J true τ M_cX8_make d 23 [some (.ref 73), none, none, some (.int l3)] [] σ (p_X8_make_23 74 n l3 σ) (fun r Q => j_Tr true τ M_cX8_make d 42 [none, none, none, none] [] r Q) := by
  intro n
  induction n with
  | zero => intro l3 σ; exact j_none
  | succ n ih =>
    intro l3 σ
    unfold p_X8_make_23
    refine j_iload_n (pc' := 24) rfl rfl rfl ?_
    refine j_bipush (pc' := 26) (x := (60 : Int32)) rfl rfl rfl ?_
    refine j_two (pT := 29) (pF := 42) (L1 := [some (.ref 73), none, none, some (.int l3)]) (st1 := []) (fun o kT kF => ?_) (fun h1 => ?_) (fun h1 => ?_)
    · refine j_icge (t := 42) (pc' := 29) rfl rfl rfl (fun h2 => ?_) (fun h2 => ?_)
      · exact kF h2
      · exact kT h2
    · refine j_aload_n (pc' := 30) rfl rfl rfl ?_
      refine j_gfr (pc' := 33) (x := 74) rfl rfl j_a73 rfl rfl ?_
      refine j_iload_n (pc' := 34) rfl rfl rfl ?_
      refine j_lconst (pc' := 35) (x := (0 : Int64)) rfl rfl rfl ?_
      refine j_last (pc' := 36) rfl rfl j_a74 (fun σ1 => ?_)
      refine j_iincx (pc' := 39) (y := (1 : Int32)) (L' := [some (.ref 73), none, none, some (.int (l3 + (1 : Int32)))]) rfl rfl rfl rfl rfl ?_
      refine j_goto (t := 23) rfl rfl ?_
      exact ih (l3 + (1 : Int32)) σ1
    · refine j_wk [false, true, true, false] (L' := [none, none, none, none]) rfl ?_
      exact j_end (fun _ h => h)

theorem c_X8_make_73 (l1 : Int32) (l2 : Int32) (σ : j_G) : j_K true 0 92 [.ref 73, .int l1, .int l2] σ (f_X8_make 73 74 l1 l2 σ) j_Rv := by
  refine j_mkK (M := M_cX8_make) (L := [some (.ref 73), some (.int l1), some (.int l2), none]) (m := 1) t_92 rfl (j_rcvO j_a73 rfl) rfl (fun d hd τ => ?_)
  unfold f_X8_make
  refine j_iload_n (pc' := 1) rfl rfl rfl ?_
  refine j_two (pT := 10) (pF := 11) (L1 := [some (.ref 73), some (.int l1), some (.int l2), none]) (st1 := []) (fun o kT kF => ?_) (fun h1 => ?_) (fun h1 => ?_)
  · refine j_iflt (t := 10) (pc' := 4) rfl rfl rfl (fun h2 => ?_) (fun h2 => ?_)
    · exact kT (Or.inl h2)
    · refine j_iload_n (pc' := 5) rfl rfl rfl ?_
      refine j_bipush (pc' := 7) (x := (60 : Int32)) rfl rfl rfl ?_
      refine j_icle (t := 11) (pc' := 10) rfl rfl rfl (fun h3 => ?_) (fun h3 => ?_)
      · exact kF (fun z => z.elim h2 (h3))
      · exact kT (Or.inr (h3))
  · exact j_ret rfl rfl rfl (fun _ h => h)
  · refine j_aload_n (pc' := 12) rfl rfl rfl ?_
    refine j_iload_n (pc' := 13) rfl rfl rfl ?_
    refine j_pfi (pc' := 16) rfl rfl j_a73 rfl rfl (fun σ1 => ?_)
    refine j_aload_n (pc' := 17) rfl rfl rfl ?_
    refine j_iload_n (pc' := 18) rfl rfl rfl ?_
    refine j_pfi (pc' := 21) rfl rfl j_a73 rfl rfl (fun σ2 => ?_)
    refine j_iconst (pc' := 22) (x := (0 : Int32)) rfl rfl rfl ?_
    refine j_istore_n (pc' := 23) (L' := [some (.ref 73), some (.int l1), some (.int l2), some (.int (0 : Int32))]) rfl rfl rfl ?_
    refine j_wk [true, false, false, true] (L' := [some (.ref 73), none, none, some (.int (0 : Int32))]) rfl ?_
    refine j_q1 (l_X8_make_23_73 hd τ j_F (0 : Int32) σ2) (fun σ3 => ?_)
    show j_J true τ M_cX8_make d 42 [none, none, none, none] [] σ3 _ _
    exact j_ret rfl rfl rfl (fun _ h => h)

def f_X11_row (l1 : Int32) (l2 : Int32) (l3 : Int32) (σ : j_G) : Option (Int32 × j_G) :=
  if ((f_X11_isSlot l1) = 0) ∨ ((l2 < 0) ∨ (((3 : Int32) < l2) ∨ ((60 : Int32) < l3))) then (some ((-2 : Int32), σ)) else (if l3 < 0 then (some ((-3 : Int32), σ)) else (if l1 = 0 then (j_b1 (f_X8_make 67 68 l2 l3 σ) fun σ1 =>
  some ((0 : Int32), σ1)) else
  if l1 = 1 then (j_b1 (f_X8_make 69 70 l2 l3 σ) fun σ2 =>
  some ((0 : Int32), σ2)) else
  if l1 = 2 then (j_b1 (f_X8_make 71 72 l2 l3 σ) fun σ3 =>
  some ((0 : Int32), σ3)) else
  if l1 = 3 then (j_b1 (f_X8_make 73 74 l2 l3 σ) fun σ4 =>
  some ((0 : Int32), σ4)) else
  none))
theorem c_X11_row (l1 : Int32) (l2 : Int32) (l3 : Int32) (σ : j_G) : j_K true 1 179 [.ref 0, .int l1, .int l2, .int l3] σ (f_X11_row l1 l2 l3 σ) j_Ri := by
  refine j_mkK (M := M_cX11_row) (L := [some (.ref 0), some (.int l1), some (.int l2), some (.int l3)]) (m := 0) t_179 rfl (j_rcvO j_a0 rfl) rfl (fun d hd τ => ?_)
  unfold f_X11_row
  refine j_iload_n (pc' := 1) rfl rfl rfl ?_
  refine j_callTi (pc' := 4) (ai := 182) (vs := [.int l1]) (rest := []) rfl rfl (fun _ _ => rfl) (c_X11_isSlot l1 σ) (j_dd rfl hd) rfl ?_
  refine j_two (pT := 22) (pF := 25) (L1 := [some (.ref 0), some (.int l1), some (.int l2), some (.int l3)]) (st1 := []) (fun o kT kF => ?_) (fun h7 => ?_) (fun h7 => ?_)
  · refine j_ifeq (t := 22) (pc' := 7) rfl rfl rfl (fun h8 => ?_) (fun h8 => ?_)
    · exact kT (Or.inl h8)
    · refine j_iload_n (pc' := 8) rfl rfl rfl ?_
      refine j_iflt (t := 22) (pc' := 11) rfl rfl rfl (fun h9 => ?_) (fun h9 => ?_)
      · exact kT (Or.inr (Or.inl h9))
      · refine j_iload_n (pc' := 12) rfl rfl rfl ?_
        refine j_iconst (pc' := 13) (x := (3 : Int32)) rfl rfl rfl ?_
        refine j_icgt (t := 22) (pc' := 16) rfl rfl rfl (fun h10 => ?_) (fun h10 => ?_)
        · exact kT (Or.inr (Or.inr (Or.inl h10)))
        · refine j_iload_n (pc' := 17) rfl rfl rfl ?_
          refine j_bipush (pc' := 19) (x := (60 : Int32)) rfl rfl rfl ?_
          refine j_icle (t := 25) (pc' := 22) rfl rfl rfl (fun h11 => ?_) (fun h11 => ?_)
          · exact kF (fun z => z.elim h8 (fun z => z.elim h9 (fun z => z.elim h10 (h11))))
          · exact kT (Or.inr (Or.inr (Or.inr (h11))))
  · refine j_bipush (pc' := 24) (x := (-2 : Int32)) rfl rfl rfl ?_
    exact j_ret rfl rfl rfl (fun _ h => h)
  · refine j_iload_n (pc' := 26) rfl rfl rfl ?_
    refine j_two (pT := 29) (pF := 32) (L1 := [some (.ref 0), some (.int l1), some (.int l2), some (.int l3)]) (st1 := []) (fun o kT kF => ?_) (fun h5 => ?_) (fun h5 => ?_)
    · refine j_ifge (t := 32) (pc' := 29) rfl rfl rfl (fun h6 => ?_) (fun h6 => ?_)
      · exact kF h6
      · exact kT h6
    · refine j_bipush (pc' := 31) (x := (-3 : Int32)) rfl rfl rfl ?_
      exact j_ret rfl rfl rfl (fun _ h => h)
    · refine j_aload_n (pc' := 33) rfl rfl rfl ?_
      refine j_gfr (pc' := 36) (x := 42) rfl rfl j_a0 rfl rfl ?_
      refine j_iload_n (pc' := 37) rfl rfl rfl ?_
      refine j_spl (k := (0 : Int32)) (fun h1 => ?_) (fun h1 => ?_)
      · subst h1
        refine j_aald (pc' := 38) (r := 67) rfl rfl j_a42 (by decide) rfl ?_
        refine j_iload_n (pc' := 39) rfl rfl rfl ?_
        refine j_iload_n (pc' := 40) rfl rfl rfl ?_
        refine j_callRv (pc' := 43) (ai := 92) (vs := [.ref 67, .int l2, .int l3]) (rest := []) rfl rfl (fun _ _ => rfl) (c_X8_make_67 l2 l3 σ) (j_dd rfl hd) rfl (fun σ1 => ?_)
        refine j_iconst (pc' := 44) (x := (0 : Int32)) rfl rfl rfl ?_
        exact j_ret rfl rfl rfl (fun _ h => h)
      refine j_spl (k := (1 : Int32)) (fun h2 => ?_) (fun h2 => ?_)
      · subst h2
        refine j_aald (pc' := 38) (r := 69) rfl rfl j_a42 (by decide) rfl ?_
        refine j_iload_n (pc' := 39) rfl rfl rfl ?_
        refine j_iload_n (pc' := 40) rfl rfl rfl ?_
        refine j_callRv (pc' := 43) (ai := 92) (vs := [.ref 69, .int l2, .int l3]) (rest := []) rfl rfl (fun _ _ => rfl) (c_X8_make_69 l2 l3 σ) (j_dd rfl hd) rfl (fun σ2 => ?_)
        refine j_iconst (pc' := 44) (x := (0 : Int32)) rfl rfl rfl ?_
        exact j_ret rfl rfl rfl (fun _ h => h)
      refine j_spl (k := (2 : Int32)) (fun h3 => ?_) (fun h3 => ?_)
      · subst h3
        refine j_aald (pc' := 38) (r := 71) rfl rfl j_a42 (by decide) rfl ?_
        refine j_iload_n (pc' := 39) rfl rfl rfl ?_
        refine j_iload_n (pc' := 40) rfl rfl rfl ?_
        refine j_callRv (pc' := 43) (ai := 92) (vs := [.ref 71, .int l2, .int l3]) (rest := []) rfl rfl (fun _ _ => rfl) (c_X8_make_71 l2 l3 σ) (j_dd rfl hd) rfl (fun σ3 => ?_)
        refine j_iconst (pc' := 44) (x := (0 : Int32)) rfl rfl rfl ?_
        exact j_ret rfl rfl rfl (fun _ h => h)
      refine j_spl (k := (3 : Int32)) (fun h4 => ?_) (fun h4 => ?_)
      · subst h4
        refine j_aald (pc' := 38) (r := 73) rfl rfl j_a42 (by decide) rfl ?_
        refine j_iload_n (pc' := 39) rfl rfl rfl ?_
        refine j_iload_n (pc' := 40) rfl rfl rfl ?_
        refine j_callRv (pc' := 43) (ai := 92) (vs := [.ref 73, .int l2, .int l3]) (rest := []) rfl rfl (fun _ _ => rfl) (c_X8_make_73 l2 l3 σ) (j_dd rfl hd) rfl (fun σ4 => ?_)
        refine j_iconst (pc' := 44) (x := (0 : Int32)) rfl rfl rfl ?_
        exact j_ret rfl rfl rfl (fun _ h => h)
      exact j_none

def p_X12_feed_55 : Nat → Int32 → j_G → Option j_G
  | 0, _, _ => none
  | n + 1, l6, σ =>
    if l6 < (20 : Int32) then (if (4 : Int32) = 0 then none else (
    j_ix (l6 / (4 : Int32)) 5 (
    if (4 : Int32) = 0 then none else (
    j_ix ((σ.1 75 5) + l6) 1200 (
    j_lt (j_si σ 79 (((σ.1 75 5) + l6)).toNatClampNeg (vp_nar .byte (((σ.1 80 ((l6 / (4 : Int32))).toNatClampNeg) >>> (((24 : Int32) - ((8 : Int32) * (l6 - l6 / (4 : Int32) * (4 : Int32)))) &&& 31))).toInt8.toInt32)) fun σ1 =>
    p_X12_feed_55 n (l6 + (1 : Int32)) σ1))))) else (some σ)

def f_X12_feed (l1 : Int32) (l2 : Int32) (l3 : Int32) (l4 : Int32) (l5 : Int32) (σ : j_G) : Option (Int32 × j_G) :=
  if (1200 : Int32) < ((σ.1 75 5) + (20 : Int32)) then (some ((-1 : Int32), σ)) else (j_ix (0 : Int32) 5 (
  j_lt (j_si σ 80 ((0 : Int32)).toNatClampNeg l1) fun σ1 =>
  j_ix (1 : Int32) 5 (
  j_lt (j_si σ1 80 ((1 : Int32)).toNatClampNeg l2) fun σ2 =>
  j_ix (2 : Int32) 5 (
  j_lt (j_si σ2 80 ((2 : Int32)).toNatClampNeg l3) fun σ3 =>
  j_ix (3 : Int32) 5 (
  j_lt (j_si σ3 80 ((3 : Int32)).toNatClampNeg l4) fun σ4 =>
  j_ix (4 : Int32) 5 (
  j_lt (j_si σ4 80 ((4 : Int32)).toNatClampNeg l5) fun σ5 =>
  j_b1 (p_X12_feed_55 j_F (0 : Int32) σ5) fun σ6 =>
  j_lt (j_si σ6 75 5 ((σ6.1 75 5) + (20 : Int32))) fun σ7 =>
  some ((σ7.1 75 5), σ7)))))))
theorem l_X12_feed_55 {d : Nat} (hd : 0 ≤ d) (τ : j_G) : ∀ (n : Nat) (l6 : Int32) (σ : j_G), j_J false τ M_cX12_feed d 55 [some (.ref 75), none, none, none, none, none, some (.int l6)] [] σ (p_X12_feed_55 n l6 σ) (fun r Q => j_Tr false τ M_cX12_feed d 101 [some (.ref 75), none, none, none, none, none, none] [] r Q) := by
  intro n
  induction n with
  | zero => intro l6 σ; exact j_none
  | succ n ih =>
    intro l6 σ
    unfold p_X12_feed_55
    refine j_iload (pc' := 57) rfl rfl rfl ?_
    refine j_bipush (pc' := 59) (x := (20 : Int32)) rfl rfl rfl ?_
    refine j_two (pT := 62) (pF := 101) (L1 := [some (.ref 75), none, none, none, none, none, some (.int l6)]) (st1 := []) (fun o kT kF => ?_) (fun h1 => ?_) (fun h1 => ?_)
    · refine j_icge (t := 101) (pc' := 62) rfl rfl rfl (fun h2 => ?_) (fun h2 => ?_)
      · exact kF h2
      · exact kT h2
    · refine j_aload_n (pc' := 63) rfl rfl rfl ?_
      refine j_gfr (pc' := 66) (x := 79) rfl rfl j_a75 rfl rfl ?_
      refine j_aload_n (pc' := 67) rfl rfl rfl ?_
      refine j_gfi (pc' := 70) rfl rfl j_a75 rfl ?_
      refine j_iload (pc' := 72) rfl rfl rfl ?_
      refine j_iadd (pc' := 73) rfl rfl ?_
      refine j_aload_n (pc' := 74) rfl rfl rfl ?_
      refine j_gfr (pc' := 77) (x := 80) rfl rfl j_a75 rfl rfl ?_
      refine j_iload (pc' := 79) rfl rfl rfl ?_
      refine j_iconst (pc' := 80) (x := (4 : Int32)) rfl rfl rfl ?_
      refine j_idiv (pc' := 81) rfl rfl ?_
      refine j_iald (pc' := 82) rfl rfl j_a80 ?_
      refine j_bipush (pc' := 84) (x := (24 : Int32)) rfl rfl rfl ?_
      refine j_bipush (pc' := 86) (x := (8 : Int32)) rfl rfl rfl ?_
      refine j_iload (pc' := 88) rfl rfl rfl ?_
      refine j_iconst (pc' := 89) (x := (4 : Int32)) rfl rfl rfl ?_
      refine j_irem (pc' := 90) rfl rfl ?_
      refine j_imul (pc' := 91) rfl rfl ?_
      refine j_isub (pc' := 92) rfl rfl ?_
      refine j_ishr (pc' := 93) rfl rfl ?_
      refine j_i2b (pc' := 94) rfl rfl ?_
      refine j_bast (pc' := 95) rfl rfl j_a79 (fun σ1 => ?_)
      refine j_iincx (pc' := 98) (y := (1 : Int32)) (L' := [some (.ref 75), none, none, none, none, none, some (.int (l6 + (1 : Int32)))]) rfl rfl rfl rfl rfl ?_
      refine j_goto (t := 55) rfl rfl ?_
      exact ih (l6 + (1 : Int32)) σ1
    · refine j_wk [true, true, true, true, true, true, false] (L' := [some (.ref 75), none, none, none, none, none, none]) rfl ?_
      exact j_end (fun _ h => h)

theorem c_X12_feed (l1 : Int32) (l2 : Int32) (l3 : Int32) (l4 : Int32) (l5 : Int32) (σ : j_G) : j_K false 0 208 [.ref 75, .int l1, .int l2, .int l3, .int l4, .int l5] σ (f_X12_feed l1 l2 l3 l4 l5 σ) j_Ri := by
  refine j_mkK (M := M_cX12_feed) (L := [some (.ref 75), some (.int l1), some (.int l2), some (.int l3), some (.int l4), some (.int l5), none]) (m := 1) t_208 rfl (j_rcvO j_a75 rfl) rfl (fun d hd τ => ?_)
  unfold f_X12_feed
  refine j_aload_n (pc' := 1) rfl rfl rfl ?_
  refine j_gfi (pc' := 4) rfl rfl j_a75 rfl ?_
  refine j_bipush (pc' := 6) (x := (20 : Int32)) rfl rfl rfl ?_
  refine j_iadd (pc' := 7) rfl rfl ?_
  refine j_sipush (pc' := 10) (x := (1200 : Int32)) rfl rfl rfl ?_
  refine j_two (pT := 13) (pF := 15) (L1 := [some (.ref 75), some (.int l1), some (.int l2), some (.int l3), some (.int l4), some (.int l5), none]) (st1 := []) (fun o kT kF => ?_) (fun h1 => ?_) (fun h1 => ?_)
  · refine j_icle (t := 15) (pc' := 13) rfl rfl rfl (fun h2 => ?_) (fun h2 => ?_)
    · exact kF h2
    · exact kT h2
  · refine j_iconst (pc' := 14) (x := (-1 : Int32)) rfl rfl rfl ?_
    exact j_ret rfl rfl rfl (fun _ h => h)
  · refine j_aload_n (pc' := 16) rfl rfl rfl ?_
    refine j_gfr (pc' := 19) (x := 80) rfl rfl j_a75 rfl rfl ?_
    refine j_iconst (pc' := 20) (x := (0 : Int32)) rfl rfl rfl ?_
    refine j_iload_n (pc' := 21) rfl rfl rfl ?_
    refine j_iast (pc' := 22) rfl rfl j_a80 (fun σ1 => ?_)
    refine j_aload_n (pc' := 23) rfl rfl rfl ?_
    refine j_gfr (pc' := 26) (x := 80) rfl rfl j_a75 rfl rfl ?_
    refine j_iconst (pc' := 27) (x := (1 : Int32)) rfl rfl rfl ?_
    refine j_iload_n (pc' := 28) rfl rfl rfl ?_
    refine j_iast (pc' := 29) rfl rfl j_a80 (fun σ2 => ?_)
    refine j_aload_n (pc' := 30) rfl rfl rfl ?_
    refine j_gfr (pc' := 33) (x := 80) rfl rfl j_a75 rfl rfl ?_
    refine j_iconst (pc' := 34) (x := (2 : Int32)) rfl rfl rfl ?_
    refine j_iload_n (pc' := 35) rfl rfl rfl ?_
    refine j_iast (pc' := 36) rfl rfl j_a80 (fun σ3 => ?_)
    refine j_aload_n (pc' := 37) rfl rfl rfl ?_
    refine j_gfr (pc' := 40) (x := 80) rfl rfl j_a75 rfl rfl ?_
    refine j_iconst (pc' := 41) (x := (3 : Int32)) rfl rfl rfl ?_
    refine j_iload (pc' := 43) rfl rfl rfl ?_
    refine j_iast (pc' := 44) rfl rfl j_a80 (fun σ4 => ?_)
    refine j_aload_n (pc' := 45) rfl rfl rfl ?_
    refine j_gfr (pc' := 48) (x := 80) rfl rfl j_a75 rfl rfl ?_
    refine j_iconst (pc' := 49) (x := (4 : Int32)) rfl rfl rfl ?_
    refine j_iload (pc' := 51) rfl rfl rfl ?_
    refine j_iast (pc' := 52) rfl rfl j_a80 (fun σ5 => ?_)
    refine j_iconst (pc' := 53) (x := (0 : Int32)) rfl rfl rfl ?_
    refine j_istore (pc' := 55) (L' := [some (.ref 75), some (.int l1), some (.int l2), some (.int l3), some (.int l4), some (.int l5), some (.int (0 : Int32))]) rfl rfl rfl ?_
    refine j_wk [true, false, false, false, false, false, true] (L' := [some (.ref 75), none, none, none, none, none, some (.int (0 : Int32))]) rfl ?_
    refine j_q1 (l_X12_feed_55 hd τ j_F (0 : Int32) σ5) (fun σ6 => ?_)
    show j_J false τ M_cX12_feed d 101 [some (.ref 75), none, none, none, none, none, none] [] σ6 _ _
    refine j_aload_n (pc' := 102) rfl rfl rfl ?_
    refine j_dup (pc' := 103) rfl rfl rfl ?_
    refine j_gfi (pc' := 106) rfl rfl j_a75 rfl ?_
    refine j_bipush (pc' := 108) (x := (20 : Int32)) rfl rfl rfl ?_
    refine j_iadd (pc' := 109) rfl rfl ?_
    refine j_pfi (pc' := 112) rfl rfl j_a75 rfl rfl (fun σ7 => ?_)
    refine j_aload_n (pc' := 113) rfl rfl rfl ?_
    refine j_gfi (pc' := 116) rfl rfl j_a75 rfl ?_
    exact j_ret rfl rfl rfl (fun _ h => h)

def f_X12_in (l0 : Int64) (l2 : Int64) (l4 : Int64) : Int32 :=
  if (¬ l0 < l2) ∧ (¬ l4 < l0) then ((1 : Int32)) else ((0 : Int32))

theorem b_X12_in (l0 : Int64) (l2 : Int64) (l4 : Int64) : f_X12_in l0 l2 l4 = 0 ∨ f_X12_in l0 l2 l4 = 1 := by
  unfold f_X12_in
  repeat' split
  all_goals first | exact Or.inl rfl | exact Or.inr rfl
theorem c_X12_in (l0 : Int64) (l2 : Int64) (l4 : Int64) (σ : j_G) : j_K false 0 196 [.long l0, .long l2, .long l4] σ (some (f_X12_in l0 l2 l4)) (j_Pi σ) := by
  refine j_mkK (M := M_cX12_in) (L := [some (.long l0), none, some (.long l2), none, some (.long l4), none]) (m := 0) t_196 rfl (j_rcvS rfl) rfl (fun d hd τ => ?_)
  unfold f_X12_in
  refine j_lload_n (pc' := 1) rfl rfl rfl ?_
  refine j_lload_n (pc' := 2) rfl rfl rfl ?_
  refine j_lcmp (pc' := 3) rfl rfl ?_
  refine j_twoT (pT := 13) (pF := 17) (L1 := [some (.long l0), none, some (.long l2), none, some (.long l4), none]) (st1 := []) (fun o kT kF => ?_) (fun h1 => ?_) (fun h1 => ?_)
  · refine j_ifltL (t := 17) (pc' := 6) rfl rfl rfl (fun h2 => ?_) (fun h2 => ?_)
    · exact kF (fun z => z.1 h2)
    · refine j_lload_n (pc' := 7) rfl rfl rfl ?_
      refine j_lload (pc' := 9) rfl rfl rfl ?_
      refine j_lcmp (pc' := 10) rfl rfl ?_
      refine j_ifgtL (t := 17) (pc' := 13) rfl rfl rfl (fun h3 => ?_) (fun h3 => ?_)
      · exact kF (fun z => (fun z => z h3) z.2)
      · exact kT (⟨h2, h3⟩)
  · refine j_iconst (pc' := 14) (x := (1 : Int32)) rfl rfl rfl ?_
    refine j_goto (t := 18) rfl rfl ?_
    exact j_ret rfl rfl rfl (fun _ h => h)
  · refine j_iconst (pc' := 18) (x := (0 : Int32)) rfl rfl rfl ?_
    exact j_ret rfl rfl rfl (fun _ h => h)

def f_X12_isSlot (l0 : Int32) : Int32 :=
  (f_X12_in (l0).toInt64 (0 : Int64) (3 : Int64))

theorem b_X12_isSlot (l0 : Int32) : f_X12_isSlot l0 = 0 ∨ f_X12_isSlot l0 = 1 := by
  unfold f_X12_isSlot
  exact (b_X12_in (l0).toInt64 (0 : Int64) (3 : Int64))
theorem c_X12_isSlot (l0 : Int32) (σ : j_G) : j_K false 1 351 [.int l0] σ (some (f_X12_isSlot l0)) (j_Pi σ) := by
  refine j_mkK (M := M_cX12_isSlot) (L := [some (.int l0)]) (m := 0) t_351 rfl (j_rcvS rfl) rfl (fun d hd τ => ?_)
  unfold f_X12_isSlot
  refine j_iload_n (pc' := 1) rfl rfl rfl ?_
  refine j_i2l (pc' := 2) rfl rfl ?_
  refine j_lconst (pc' := 3) (x := (0 : Int64)) rfl rfl rfl ?_
  refine j_ldc2_w (pc' := 6) (x := (3 : Int64)) rfl rfl rfl ?_
  refine j_callTi (pc' := 9) (ai := 196) (vs := [.long (l0).toInt64, .long (0 : Int64), .long (3 : Int64)]) (rest := []) rfl rfl (fun _ _ => rfl) (c_X12_in (l0).toInt64 (0 : Int64) (3 : Int64) σ) (j_dd rfl hd) rfl ?_
  exact j_retb rfl rfl (b_X12_in (l0).toInt64 (0 : Int64) (3 : Int64)) (fun _ h => h)

def p_X12_row_52 (l1 : Int32) : Nat → Int32 → j_G → Option j_G
  | 0, _, _ => none
  | n + 1, l4, σ =>
    if l4 < (60 : Int32) then (j_ix (((60 : Int32) * l1) + l4) 240 (
    j_lt (j_sl σ 96 ((((60 : Int32) * l1) + l4)).toNatClampNeg (0 : Int64)) fun σ1 =>
    p_X12_row_52 l1 n (l4 + (1 : Int32)) σ1)) else (some σ)

def f_X12_row (l1 : Int32) (l2 : Int32) (l3 : Int32) (σ : j_G) : Option (Int32 × j_G) :=
  if ((f_X12_isSlot l1) = 0) ∨ (((f_X12_in (l2).toInt64 (0 : Int64) (3 : Int64)) = 0) ∨ ((60 : Int32) < l3)) then (some ((-2 : Int32), σ)) else (if l3 < 0 then (some ((-3 : Int32), σ)) else (j_ix l1 4 (
  j_lt (j_si σ 94 (l1).toNatClampNeg l3) fun σ1 =>
  j_ix l1 4 (
  j_lt (j_si σ1 95 (l1).toNatClampNeg l2) fun σ2 =>
  j_b1 (p_X12_row_52 l1 j_F (0 : Int32) σ2) fun σ3 =>
  some ((0 : Int32), σ3)))))
theorem l_X12_row_52 {d : Nat} (hd : 2 ≤ d) (τ : j_G) (l1 : Int32) : ∀ (n : Nat) (l4 : Int32) (σ : j_G), j_J false τ M_cX12_row d 52 [some (.ref 75), some (.int l1), none, none, some (.int l4)] [] σ (p_X12_row_52 l1 n l4 σ) (fun r Q => j_Tr false τ M_cX12_row d 78 [none, none, none, none, none] [] r Q) := by
  intro n
  induction n with
  | zero => intro l4 σ; exact j_none
  | succ n ih =>
    intro l4 σ
    unfold p_X12_row_52
    refine j_iload (pc' := 54) rfl rfl rfl ?_
    refine j_bipush (pc' := 56) (x := (60 : Int32)) rfl rfl rfl ?_
    refine j_two (pT := 59) (pF := 78) (L1 := [some (.ref 75), some (.int l1), none, none, some (.int l4)]) (st1 := []) (fun o kT kF => ?_) (fun h1 => ?_) (fun h1 => ?_)
    · refine j_icge (t := 78) (pc' := 59) rfl rfl rfl (fun h2 => ?_) (fun h2 => ?_)
      · exact kF h2
      · exact kT h2
    · refine j_aload_n (pc' := 60) rfl rfl rfl ?_
      refine j_gfr (pc' := 63) (x := 96) rfl rfl j_a75 rfl rfl ?_
      refine j_bipush (pc' := 65) (x := (60 : Int32)) rfl rfl rfl ?_
      refine j_iload_n (pc' := 66) rfl rfl rfl ?_
      refine j_imul (pc' := 67) rfl rfl ?_
      refine j_iload (pc' := 69) rfl rfl rfl ?_
      refine j_iadd (pc' := 70) rfl rfl ?_
      refine j_lconst (pc' := 71) (x := (0 : Int64)) rfl rfl rfl ?_
      refine j_last (pc' := 72) rfl rfl j_a96 (fun σ1 => ?_)
      refine j_iincx (pc' := 75) (y := (1 : Int32)) (L' := [some (.ref 75), some (.int l1), none, none, some (.int (l4 + (1 : Int32)))]) rfl rfl rfl rfl rfl ?_
      refine j_goto (t := 52) rfl rfl ?_
      exact ih (l4 + (1 : Int32)) σ1
    · refine j_wk [false, false, true, true, false] (L' := [none, none, none, none, none]) rfl ?_
      exact j_end (fun _ h => h)

theorem c_X12_row (l1 : Int32) (l2 : Int32) (l3 : Int32) (σ : j_G) : j_K false 2 353 [.ref 75, .int l1, .int l2, .int l3] σ (f_X12_row l1 l2 l3 σ) j_Ri := by
  refine j_mkK (M := M_cX12_row) (L := [some (.ref 75), some (.int l1), some (.int l2), some (.int l3), none]) (m := 1) t_353 rfl (j_rcvO j_a75 rfl) rfl (fun d hd τ => ?_)
  unfold f_X12_row
  refine j_iload_n (pc' := 1) rfl rfl rfl ?_
  refine j_callTi (pc' := 4) (ai := 351) (vs := [.int l1]) (rest := []) rfl rfl (fun _ _ => rfl) (c_X12_isSlot l1 σ) (j_dd rfl hd) rfl ?_
  refine j_two (pT := 25) (pF := 28) (L1 := [some (.ref 75), some (.int l1), some (.int l2), some (.int l3), none]) (st1 := []) (fun o kT kF => ?_) (fun h3 => ?_) (fun h3 => ?_)
  · refine j_ifeq (t := 25) (pc' := 7) rfl rfl rfl (fun h4 => ?_) (fun h4 => ?_)
    · exact kT (Or.inl h4)
    · refine j_iload_n (pc' := 8) rfl rfl rfl ?_
      refine j_i2l (pc' := 9) rfl rfl ?_
      refine j_lconst (pc' := 10) (x := (0 : Int64)) rfl rfl rfl ?_
      refine j_ldc2_w (pc' := 13) (x := (3 : Int64)) rfl rfl rfl ?_
      refine j_callTi (pc' := 16) (ai := 196) (vs := [.long (l2).toInt64, .long (0 : Int64), .long (3 : Int64)]) (rest := []) rfl rfl (fun _ _ => rfl) (c_X12_in (l2).toInt64 (0 : Int64) (3 : Int64) σ) (j_dd rfl hd) rfl ?_
      refine j_ifeq (t := 25) (pc' := 19) rfl rfl rfl (fun h5 => ?_) (fun h5 => ?_)
      · exact kT (Or.inr (Or.inl h5))
      · refine j_iload_n (pc' := 20) rfl rfl rfl ?_
        refine j_bipush (pc' := 22) (x := (60 : Int32)) rfl rfl rfl ?_
        refine j_icle (t := 28) (pc' := 25) rfl rfl rfl (fun h6 => ?_) (fun h6 => ?_)
        · exact kF (fun z => z.elim h4 (fun z => z.elim h5 (h6)))
        · exact kT (Or.inr (Or.inr (h6)))
  · refine j_bipush (pc' := 27) (x := (-2 : Int32)) rfl rfl rfl ?_
    exact j_ret rfl rfl rfl (fun _ h => h)
  · refine j_iload_n (pc' := 29) rfl rfl rfl ?_
    refine j_two (pT := 32) (pF := 35) (L1 := [some (.ref 75), some (.int l1), some (.int l2), some (.int l3), none]) (st1 := []) (fun o kT kF => ?_) (fun h1 => ?_) (fun h1 => ?_)
    · refine j_ifge (t := 35) (pc' := 32) rfl rfl rfl (fun h2 => ?_) (fun h2 => ?_)
      · exact kF h2
      · exact kT h2
    · refine j_bipush (pc' := 34) (x := (-3 : Int32)) rfl rfl rfl ?_
      exact j_ret rfl rfl rfl (fun _ h => h)
    · refine j_aload_n (pc' := 36) rfl rfl rfl ?_
      refine j_gfr (pc' := 39) (x := 94) rfl rfl j_a75 rfl rfl ?_
      refine j_iload_n (pc' := 40) rfl rfl rfl ?_
      refine j_iload_n (pc' := 41) rfl rfl rfl ?_
      refine j_iast (pc' := 42) rfl rfl j_a94 (fun σ1 => ?_)
      refine j_aload_n (pc' := 43) rfl rfl rfl ?_
      refine j_gfr (pc' := 46) (x := 95) rfl rfl j_a75 rfl rfl ?_
      refine j_iload_n (pc' := 47) rfl rfl rfl ?_
      refine j_iload_n (pc' := 48) rfl rfl rfl ?_
      refine j_iast (pc' := 49) rfl rfl j_a95 (fun σ2 => ?_)
      refine j_iconst (pc' := 50) (x := (0 : Int32)) rfl rfl rfl ?_
      refine j_istore (pc' := 52) (L' := [some (.ref 75), some (.int l1), some (.int l2), some (.int l3), some (.int (0 : Int32))]) rfl rfl rfl ?_
      refine j_wk [true, true, false, false, true] (L' := [some (.ref 75), some (.int l1), none, none, some (.int (0 : Int32))]) rfl ?_
      refine j_q1 (l_X12_row_52 hd τ l1 j_F (0 : Int32) σ2) (fun σ3 => ?_)
      show j_J false τ M_cX12_row d 78 [none, none, none, none, none] [] σ3 _ _
      refine j_iconst (pc' := 79) (x := (0 : Int32)) rfl rfl rfl ?_
      exact j_ret rfl rfl rfl (fun _ h => h)

