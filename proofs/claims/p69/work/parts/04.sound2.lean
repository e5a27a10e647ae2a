/-! ===== soundness, instruction by instruction ===== -/
def x_lok (ins : Instr) (len : Nat) : Prop := match ins with
  | .tableswitch _ _ _ _ => True
  | .lookupswitch _ _ => True
  | .bipush _ => len = 2
  | .ldc _ => len = 2
  | .iload _ => len = 2
  | .lload _ => len = 2
  | .aload _ => len = 2
  | .istore _ => len = 2
  | .lstore _ => len = 2
  | .astore _ => len = 2
  | .newarray _ => len = 2
  | .sipush _ => len = 3
  | .ldc_w _ => len = 3
  | .ldc2_w _ => len = 3
  | .iinc _ _ => len = 3
  | .ifCond _ _ => len = 3
  | .if_icmp _ _ => len = 3
  | .goto _ => len = 3
  | .getfield _ => len = 3
  | .putfield _ => len = 3
  | .new _ => len = 3
  | .anewarray _ => len = 3
  | .invokespecial _ => len = 3
  | .invokevirtual _ => len = 3
  | .invokestatic _ => len = 3
  | _ => len = 1
def x_ok1 (own : String) (nL : Nat) (ins : Instr) (a : Nat) : Prop := match ins with
  | .ldc i => (4294967296 ≤ a ∧ ∃ tx, x_lit[a - 4294967296]? = some (own, i, tx)) ∨ (a < 4294967296 ∧ Cond.constant own i (Int32.ofNat a) ∈ x_bw)
  | .ldc_w i => Cond.constant own i (Int32.ofNat a) ∈ x_bw
  | .ldc2_w i => Cond.constantLong own i (Int64.ofNat a) ∈ x_bw
  | .istore_n n => (n : Nat) < nL
  | .istore n => n < nL
  | .astore_n n => (n : Nat) < nL
  | .astore n => n < nL
  | .lstore_n n => (n : Nat) + 1 < nL
  | .lstore n => n + 1 < nL
  | .iinc n _ => n < nL
  | _ => True
section XS
variable {p : Program} {l : Launch} {e : Env} {R : Room} {s : State} {m : MethodId} {args : Array Value} {below : List Frame} {meth : Method} {c : Code} {H : Heap} {locs : List Loc} {cells slots : Nat} {Q : State → Prop}
variable {cc : ByteArray} {pc : Nat} {ls : Array Slot} {own : String} {ad : Nat → Nat} {nL : Nat} {L : xL} {st : List Value} {h : xH} {k z : Nat} {ins : Instr} {len a b : Nat}
/-- what one plain step leaves to be shown -/
def x_Nx (p : Program) (l : Launch) (e : Env) (R : Room) (s : State) (m : MethodId) (args : Array Value) (below : List Frame) (meth : Method) (c : Code) (H : Heap) (locs : List Loc) (cells slots : Nat) (Q : State → Prop) (ls : Array Slot) (ad : Nat → Nat) (nL : Nat) (h : xH) (k z : Nat) (st : List Value) (pc : Nat) (o : xC ⊕ ((Nat × List Value × List Value) ⊕ Option Value)) : Prop :=
  ∃ (pc' : Nat) (L' : xL) (st' : List Value), o = .inl (pc', L', st', h, k, z) ∧ ((∀ ls' : Array Slot, lv_has ls' nL (x_cl ad L') → W p l e R s m args below meth c H locs cells slots Q (F0 m pc' ls' (st'.map (x_cv ad)))) → W p l e R s m args below meth c H locs cells slots Q (F0 m pc ls (st.map (x_cv ad))))
theorem x_go_of {pc' : Nat} {L' : xL} {st' : List Value} {o} (hi : x_go pc' L' st' h k z = some o) : o = .inl (pc', L', st', h, k, z) := (Option.some.inj hi).symm
set_option maxHeartbeats 4000000 in
theorem x_s1 (hx : p.tables.exec = Jvm.exec) (hb : c.code = cc) (hown : s.vm.findClass own = some m.cls) (hts : ∀ w ∈ x_bw, w.before args s = true) (hd : decode cc pc = .ok (ins, len)) (hlen : x_lok ins len) (hw : x_ok1 own nL ins a) (hV : ∀ (j : Nat) (own' : String) (k' : Nat) (tx : String), x_lit[j]? = some (own', k', tx) → vk_R own' k' tx (ad (x_str + j)) s) {o} (hi : x_ins1 ins pc a L st h k z = some o) (hl : lv_has ls nL (x_cl ad L)) : x_Nx p l e R s m args below meth c H locs cells slots Q ls ad nL h k z st pc o := by
  unfold x_ins1 at hi
  split at hi
  -- constants
  · cases hlen; exact ⟨_, _, _, x_go_of hi, fun k => lv_iconst hx hb hd rfl (k ls hl)⟩
  · cases hlen; exact ⟨_, _, _, x_go_of hi, fun k => lv_bipush hx hb hd rfl (k ls hl)⟩
  · cases hlen; exact ⟨_, _, _, x_go_of hi, fun k => lv_sipush hx hb hd rfl (k ls hl)⟩
  · cases hlen; exact ⟨_, _, _, x_go_of hi, fun k => lv_lconst hx hb hd rfl (k ls hl)⟩
  · cases hlen
    rcases hw with ⟨h1, tx, h2⟩ | ⟨h1, h2⟩
    · rw [show Nat.ble 4294967296 a = true from Nat.ble_eq_true_of_le h1] at hi
      exact ⟨_, _, _, x_go_of hi, fun k => va_ldcS hx hb hown (hV _ _ _ _ h2) hd (k ls hl)⟩
    · have hb0 : Nat.ble 4294967296 a = false := by
        cases hq : Nat.ble 4294967296 a with
        | false => rfl
        | true => exact absurd (Nat.le_of_ble_eq_true hq) (by omega)
      rw [hb0] at hi
      exact ⟨_, _, _, x_go_of hi, fun k => lv_ldc hx hb hown (hts _ h2) hd (k ls hl)⟩
  · cases hlen; exact ⟨_, _, _, x_go_of hi, fun k => lv_ldcw hx hb hown (hts _ hw) hd (k ls hl)⟩
  · cases hlen; exact ⟨_, _, _, x_go_of hi, fun k => lv_ldc2 hx hb hown (hts _ hw) hd (k ls hl)⟩
  -- loads
  · cases hlen; split at hi
    · rename_i q; exact ⟨_, _, _, x_go_of hi, fun k => lv_iload_n hx hb hd rfl (x_lv hl q) (k ls hl)⟩
    · cases hi
  · cases hlen; split at hi
    · rename_i q; exact ⟨_, _, _, x_go_of hi, fun k => lv_iload hx hb hd (x_lv hl q) (k ls hl)⟩
    · cases hi
  · cases hlen; split at hi
    · rename_i q; exact ⟨_, _, _, x_go_of hi, fun k => lv_lload_n hx hb hd rfl (x_lv hl q) (k ls hl)⟩
    · cases hi
  · cases hlen; split at hi
    · rename_i q; exact ⟨_, _, _, x_go_of hi, fun k => lv_lload hx hb hd (x_lv hl q) (k ls hl)⟩
    · cases hi
  · cases hlen; split at hi
    · rename_i q; exact ⟨_, _, _, x_go_of hi, fun k => lv_aload_n hx hb hd rfl (x_lv hl q) (k ls hl)⟩
    · cases hi
  · cases hlen; split at hi
    · rename_i q; exact ⟨_, _, _, x_go_of hi, fun k => lv_aload hx hb hd (x_lv hl q) (k ls hl)⟩
    · cases hi
  -- stores
  · cases hlen; obtain ⟨x, r, rfl, hj⟩ := x_i1_of hi; exact ⟨_, _, _, x_go_of hj, fun k => lv_istore_n hx hb hd rfl hl hw (x_cl_st1 ad L _ (.int x)) k⟩
  · cases hlen; obtain ⟨x, r, rfl, hj⟩ := x_i1_of hi; exact ⟨_, _, _, x_go_of hj, fun k => lv_istore hx hb hd hl hw (x_cl_st1 ad L _ (.int x)) k⟩
  · cases hlen; obtain ⟨x, r, rfl, hj⟩ := x_l1_of hi; exact ⟨_, _, _, x_go_of hj, fun k => lv_lstore_n hx hb hd rfl hl hw (x_cl_st2 ad L _ (.long x)) k⟩
  · cases hlen; obtain ⟨x, r, rfl, hj⟩ := x_l1_of hi; exact ⟨_, _, _, x_go_of hj, fun k => lv_lstore hx hb hd hl hw (x_cl_st2 ad L _ (.long x)) k⟩
  · cases hlen; obtain ⟨x, r, rfl, hj⟩ := x_a1_of hi; exact ⟨_, _, _, x_go_of hj, fun k => lv_astore_n hx hb hd rfl hl hw (x_cl_st1 ad L _ (.ref x)) k⟩
  · cases hlen; obtain ⟨x, r, rfl, hj⟩ := x_a1_of hi; exact ⟨_, _, _, x_go_of hj, fun k => lv_astore hx hb hd hl hw (x_cl_st1 ad L _ (.ref x)) k⟩
  · cases hlen; split at hi
    · rename_i i n _ x q
      obtain ⟨kk, hkk⟩ := List.getElem?_of_mem (x_ld_mem q)
      refine ⟨_, _, _, x_go_of hi, fun k => lv_iinc (k := kk) (x := x) (v := x + Int32.ofInt n) hx hb hd hl ?_ rfl hw (x_cl_st1 ad L _ (.int (x + Int32.ofInt n))) k⟩
      unfold x_cl
      rw [List.getElem?_map, hkk]
      rfl
    · cases hi
  -- arithmetic
  · cases hlen; obtain ⟨x, y, r, rfl, hj⟩ := x_i2_of hi; exact ⟨_, _, _, x_go_of hj, fun k => lv_iadd hx hb hd (k ls hl)⟩
  · cases hlen; obtain ⟨x, y, r, rfl, hj⟩ := x_i2_of hi; exact ⟨_, _, _, x_go_of hj, fun k => lv_isub hx hb hd (k ls hl)⟩
  · cases hlen; obtain ⟨x, y, r, rfl, hj⟩ := x_i2_of hi; exact ⟨_, _, _, x_go_of hj, fun k => lv_imul hx hb hd (k ls hl)⟩
  · cases hlen; obtain ⟨x, y, r, rfl, hj⟩ := x_i2_of hi; exact ⟨_, _, _, x_go_of hj, fun k => lv_iand hx hb hd (k ls hl)⟩
  · cases hlen; obtain ⟨x, y, r, rfl, hj⟩ := x_i2_of hi; exact ⟨_, _, _, x_go_of hj, fun k => lv_ior hx hb hd (k ls hl)⟩
  · cases hlen; obtain ⟨x, y, r, rfl, hj⟩ := x_i2_of hi; exact ⟨_, _, _, x_go_of hj, fun k => lv_ixor hx hb hd (k ls hl)⟩
  · cases hlen; obtain ⟨x, y, r, rfl, hj⟩ := x_i2_of hi; split at hj
    · cases hj
    · rename_i q; exact ⟨_, _, _, x_go_of hj, fun k => lv_idiv hx hb hd q (k ls hl)⟩
  · cases hlen; obtain ⟨x, y, r, rfl, hj⟩ := x_i2_of hi; split at hj
    · cases hj
    · rename_i q; exact ⟨_, _, _, x_go_of hj, fun k => lv_irem hx hb hd q (k ls hl)⟩
  · cases hlen; obtain ⟨x, y, r, rfl, hj⟩ := x_i2_of hi; exact ⟨_, _, _, x_go_of hj, fun k => lv_ishl hx hb hd (k ls hl)⟩
  · cases hlen; obtain ⟨x, y, r, rfl, hj⟩ := x_i2_of hi; exact ⟨_, _, _, x_go_of hj, fun k => lv_ishr hx hb hd (k ls hl)⟩
  · cases hlen; obtain ⟨x, y, r, rfl, hj⟩ := x_i2_of hi; exact ⟨_, _, _, x_go_of hj, fun k => lv_iushr hx hb hd rfl (k ls hl)⟩
  · cases hlen; obtain ⟨x, y, r, rfl, hj⟩ := x_l2_of hi; exact ⟨_, _, _, x_go_of hj, fun k => lv_ladd hx hb hd (k ls hl)⟩
  · cases hlen; obtain ⟨x, y, r, rfl, hj⟩ := x_l2_of hi; exact ⟨_, _, _, x_go_of hj, fun k => lv_lmul hx hb hd (k ls hl)⟩
  · cases hlen; obtain ⟨x, y, r, rfl, hj⟩ := x_l2_of hi; exact ⟨_, _, _, x_go_of hj, fun k => lv_land hx hb hd (k ls hl)⟩
  · cases hlen; obtain ⟨x, y, r, rfl, hj⟩ := x_l2_of hi; exact ⟨_, _, _, x_go_of hj, fun k => lv_lor hx hb hd (k ls hl)⟩
  · cases hlen; obtain ⟨x, y, r, rfl, hj⟩ := x_l2_of hi; split at hj
    · cases hj
    · rename_i q; exact ⟨_, _, _, x_go_of hj, fun k => lv_ldiv hx hb hd q (k ls hl)⟩
  · cases hlen; obtain ⟨x, y, r, rfl, hj⟩ := x_l2_of hi; split at hj
    · cases hj
    · rename_i q; exact ⟨_, _, _, x_go_of hj, fun k => lv_lrem hx hb hd q (k ls hl)⟩
  · cases hlen; obtain ⟨x, y, r, rfl, hj⟩ := x_li_of hi; exact ⟨_, _, _, x_go_of hj, fun k => lv_lshl hx hb hd rfl (k ls hl)⟩
  · cases hlen; obtain ⟨x, y, r, rfl, hj⟩ := x_li_of hi; exact ⟨_, _, _, x_go_of hj, fun k => lv_lshr hx hb hd rfl (k ls hl)⟩
  · cases hlen; obtain ⟨x, y, r, rfl, hj⟩ := x_l2_of hi; exact ⟨_, _, _, x_go_of hj, fun k => W.lcmp hx hb hd (k ls hl)⟩
  · cases hlen; obtain ⟨x, r, rfl, hj⟩ := x_i1_of hi; exact ⟨_, _, _, x_go_of hj, fun k => lv_i2l hx hb hd rfl (k ls hl)⟩
  · cases hlen; obtain ⟨x, r, rfl, hj⟩ := x_l1_of hi; exact ⟨_, _, _, x_go_of hj, fun k => lv_l2i hx hb hd rfl (k ls hl)⟩
  · cases hlen; obtain ⟨x, r, rfl, hj⟩ := x_i1_of hi; exact ⟨_, _, _, x_go_of hj, fun k => lv_i2b hx hb hd rfl (k ls hl)⟩
  · cases hlen; obtain ⟨x, r, rfl, hj⟩ := x_i1_of hi; exact ⟨_, _, _, x_go_of hj, fun k => lv_i2s hx hb hd rfl (k ls hl)⟩
  -- stack
  · cases hlen; obtain ⟨v, r, rfl, hj⟩ := x_v1_of hi
    obtain ⟨q, hj⟩ := x_bif hj
    exact ⟨_, _, _, x_go_of hj, fun k => lv_dup hx hb hd (by rw [x_cv_cat]; exact Nat.eq_of_beq_eq_true q) (k ls hl)⟩
  · cases hlen; obtain ⟨v, w, r, rfl, hj⟩ := x_v2_of hi
    obtain ⟨q, hj⟩ := x_bif hj
    have q := Bool.and_eq_true_iff.mp q
    exact ⟨_, _, _, x_go_of hj, fun k => lv_dup2_11 hx hb hd (by rw [x_cv_cat]; exact Nat.eq_of_beq_eq_true q.1) (by rw [x_cv_cat]; exact Nat.eq_of_beq_eq_true q.2) (k ls hl)⟩
  · cases hlen; obtain ⟨v, r, rfl, hj⟩ := x_v1_of hi
    obtain ⟨q, hj⟩ := x_bif hj
    exact ⟨_, _, _, x_go_of hj, fun k => lv_pop hx hb hd (by rw [x_cv_cat]; exact Nat.eq_of_beq_eq_true q) (k ls hl)⟩
  · cases hlen; obtain ⟨v, r, rfl, hj⟩ := x_v1_of hi
    obtain ⟨q, hj⟩ := x_bif hj
    exact ⟨_, _, _, x_go_of hj, fun k => lv_pop2_2 hx hb hd (by rw [x_cv_cat]; exact Nat.eq_of_beq_eq_true q) (k ls hl)⟩
  -- branches
  · cases hlen; obtain ⟨x, r, rfl, hj⟩ := x_i1_of hi; obtain ⟨t, ht, hj⟩ := x_br_of hj
    unfold x_cond at hj
    split at hj <;> split at hj <;> rename_i q
    · exact ⟨_, _, _, x_go_of hj, fun k => lv_if_eq hx hb hd ht (fun _ => k ls hl) (fun q' => absurd q q')⟩
    · exact ⟨_, _, _, x_go_of hj, fun k => lv_if_eq hx hb hd ht (fun q' => absurd q' q) (fun _ => k ls hl)⟩
    · exact ⟨_, _, _, x_go_of hj, fun k => lv_if_ne hx hb hd ht (fun _ => k ls hl) (fun q' => absurd q' q)⟩
    · exact ⟨_, _, _, x_go_of hj, fun k => lv_if_ne hx hb hd ht (fun q' => absurd q' q) (fun _ => k ls hl)⟩
    · exact ⟨_, _, _, x_go_of hj, fun k => lv_if_lt hx hb hd ht (fun _ => k ls hl) (fun q' => absurd q q')⟩
    · exact ⟨_, _, _, x_go_of hj, fun k => lv_if_lt hx hb hd ht (fun q' => absurd q' q) (fun _ => k ls hl)⟩
    · exact ⟨_, _, _, x_go_of hj, fun k => lv_if_ge hx hb hd ht (fun _ => k ls hl) (fun q' => absurd q q')⟩
    · exact ⟨_, _, _, x_go_of hj, fun k => lv_if_ge hx hb hd ht (fun q' => absurd q' q) (fun _ => k ls hl)⟩
    · exact ⟨_, _, _, x_go_of hj, fun k => lv_if_gt hx hb hd ht (fun _ => k ls hl) (fun q' => absurd q q')⟩
    · exact ⟨_, _, _, x_go_of hj, fun k => lv_if_gt hx hb hd ht (fun q' => absurd q' q) (fun _ => k ls hl)⟩
    · exact ⟨_, _, _, x_go_of hj, fun k => lv_if_le hx hb hd ht (fun _ => k ls hl) (fun q' => absurd q q')⟩
    · exact ⟨_, _, _, x_go_of hj, fun k => lv_if_le hx hb hd ht (fun q' => absurd q' q) (fun _ => k ls hl)⟩
  · cases hlen; obtain ⟨x, y, r, rfl, hj⟩ := x_i2_of hi; obtain ⟨t, ht, hj⟩ := x_br_of hj
    unfold x_cond at hj
    split at hj <;> split at hj <;> rename_i q
    · exact ⟨_, _, _, x_go_of hj, fun k => lv_icmp_eq hx hb hd ht (fun _ => k ls hl) (fun q' => absurd q q')⟩
    · exact ⟨_, _, _, x_go_of hj, fun k => lv_icmp_eq hx hb hd ht (fun q' => absurd q' q) (fun _ => k ls hl)⟩
    · exact ⟨_, _, _, x_go_of hj, fun k => lv_icmp_ne hx hb hd ht (fun _ => k ls hl) (fun q' => absurd q' q)⟩
    · exact ⟨_, _, _, x_go_of hj, fun k => lv_icmp_ne hx hb hd ht (fun q' => absurd q' q) (fun _ => k ls hl)⟩
    · exact ⟨_, _, _, x_go_of hj, fun k => lv_icmp_lt hx hb hd ht (fun _ => k ls hl) (fun q' => absurd q q')⟩
    · exact ⟨_, _, _, x_go_of hj, fun k => lv_icmp_lt hx hb hd ht (fun q' => absurd q' q) (fun _ => k ls hl)⟩
    · exact ⟨_, _, _, x_go_of hj, fun k => lv_icmp_ge hx hb hd ht (fun _ => k ls hl) (fun q' => absurd q q')⟩
    · exact ⟨_, _, _, x_go_of hj, fun k => lv_icmp_ge hx hb hd ht (fun q' => absurd q' q) (fun _ => k ls hl)⟩
    · exact ⟨_, _, _, x_go_of hj, fun k => lv_icmp_gt hx hb hd ht (fun _ => k ls hl) (fun q' => absurd q q')⟩
    · exact ⟨_, _, _, x_go_of hj, fun k => lv_icmp_gt hx hb hd ht (fun q' => absurd q' q) (fun _ => k ls hl)⟩
    · exact ⟨_, _, _, x_go_of hj, fun k => lv_icmp_le hx hb hd ht (fun _ => k ls hl) (fun q' => absurd q q')⟩
    · exact ⟨_, _, _, x_go_of hj, fun k => lv_icmp_le hx hb hd ht (fun q' => absurd q' q) (fun _ => k ls hl)⟩
  · cases hlen; obtain ⟨t, ht, hi⟩ := x_br_of hi
    exact ⟨_, _, _, x_go_of hi, fun k => lv_goto hx hb hd ht (k ls hl)⟩
  · obtain ⟨x, r, rfl, hj⟩ := x_i1_of hi
    split at hj
    · rename_i q; obtain ⟨t, ht, hj⟩ := x_br_of hj
      exact ⟨_, _, _, x_go_of hj, fun k => lv_tableOut hx hb hd q ht (k ls hl)⟩
    · rename_i q
      split at hj
      · rename_i off ho; obtain ⟨t, ht, hj⟩ := x_br_of hj
        exact ⟨_, _, _, x_go_of hj, fun k => lv_tableIn hx hb hd (fun z => q (Or.inl z)) (fun z => q (Or.inr z)) ho ht (k ls hl)⟩
      · cases hj
  · obtain ⟨x, r, rfl, hj⟩ := x_i1_of hi
    split at hj
    · rename_i q; obtain ⟨t, ht, hj⟩ := x_br_of hj
      exact ⟨_, _, _, x_go_of hj, fun k => lv_lookup hx hb hd q rfl ht (k ls hl)⟩
    · cases hj
  · cases hi
end XS
