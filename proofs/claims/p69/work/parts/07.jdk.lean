/-! ===== calls: what a method's world is, and String's own methods on constants ===== -/
def x_Rm (R : Room) (d : Nat) : Prop := d + 5 ≤ R.frames ∧ 37 * (d + 5) ≤ R.locals
def x_room (d k z : Nat) : Room := { frames := d + 5, cells := k, slots := z, locals := 37 * (d + 5) }
def x_Pv (base : Nat) (ad : Nat → Nat) (D : va_G) (av : List Value) (h : xH) : Array Value → State → Prop := va_Pc av (fun U => x_W ad base D h U U.heap ∧ va_K D vwCl [] U ∧ x_St U base ad)
def x_Pc (base : Nat) (ad : Nat → Nat) (D : va_G) (vs : List Value) (h : xH) : Array Value → State → Prop := x_Pv base ad D (vs.map (x_cv ad)) h
def x_Qc (base : Nat) (ad : Nat → Nat) (D : va_G) (v : Option Value) (h' : xH) : Array Value → State → Outcome → State → Prop := fun _ st oc t => oc = .returned (v.map (x_cv ad)) ∧ x_W ad base D h' t t.heap ∧ va_F (fun q => base ≤ q) st t
theorem x_Pv_blind {base : Nat} {ad : Nat → Nat} {D : va_G} {av : List Value} {h : xH} : FrameBlind (x_Pv base ad D av h) := by
  intro a U g mk q
  exact ⟨q.1, x_W.moved (u := U) (U := U.calling g mk a) (Vm.Alike.refl U.vm) q.2.1, va_K.moved (u := U) (U := U.calling g mk a) (Vm.Alike.refl U.vm) q.2.2.1, x_St.same (U := U.calling g mk a) rfl rfl q.2.2.2⟩
theorem x_Pc_blind {base : Nat} {ad : Nat → Nat} {D : va_G} {vs : List Value} {h : xH} : FrameBlind (x_Pc base ad D vs h) := x_Pv_blind
section XS6a
variable {p : Program} {l : Launch} {e : Env} {R : Room} {s : State} {m : MethodId} {args : Array Value} {below : List Frame} {meth : Method} {c : Code} {H : Heap} {locs : List Loc} {cells slots : Nat} {Q : State → Prop}
variable {cc : ByteArray} {pc : Nat} {ls : Array Slot} {own : String} {y : MethodName} {ad : Nat → Nat} {nL : Nat} {L : xL} {st rest : List Value} {h : xH} {k z : Nat} {ins : Instr} {len a b base d : Nat} {D : va_G}
/-- behind a call -/
theorem x_cont (X : x_At s m args own D base ad h H locs) {v : Option Value} {h2 : xH} {mc ms : Nat} {a0 : Array Value} {st0 rest0 : List Value} (hr : va_Run p l e R s m args below meth c H locs k z mc ms (F0 m pc ls st0) rest0 (x_Qc base ad D v h2 a0) (fun q => base ≤ q))
    (kk : ∀ (H1 : Heap) (locs1 : List Loc), x_At s m args own D base ad h2 H1 locs1 → W p l e R s m args below meth c H1 locs1 (k + mc) (z + ms) Q (F0 m (pc + 3) ls ((v.map (x_cv ad)).toList ++ rest0))) : W p l e R s m args below meth c H locs k z Q (F0 m pc ls st0) := by
  obtain ⟨hown, hts, hK, hbase, w, hS⟩ := X
  intro T hT X
  obtain ⟨v', st₀, t, T', LL, h0, X', hL, e1, e2, ⟨hv, hw, hz, hk⟩, stp⟩ := hr T hT X
  have hv' : v' = v.map (x_cv ad) := Outcome.returned.inj hv
  subst hv'
  rw [h0] at hz hk
  have hal : s.vm.Alike t.vm := by rw [← e2]; exact X'.warmed.alike
  obtain ⟨t2, a1, b1⟩ := kk T'.heap (locs ++ LL) ⟨hown, hts, hK, hbase, by rw [e1]; exact x_W.moved hal.symm hw, ⟨Nat.le_trans hS.1 (by rw [e1]; exact hz), fun q h1 h2 => by rw [e1, hk q (Nat.lt_of_lt_of_le h1 hS.1) h2]; exact hS.2.1 q h1 h2, fun q hq => by
      rcases List.mem_append.mp hq with h | h
      · exact hS.2.2 q h
      · exact hL q h⟩⟩ T' rfl X'
  exact ⟨t2, stp t2 a1, b1⟩
/-- a contract out of a walk, where no row of the machine's own stands for the method (whatever its class) -/
theorem x_ofW {ws ws' : List Cond} {rm : Room} {Pc : Array Value → State → Prop} {Qc : Array Value → State → Outcome → State → Prop} {mc ms : Nat} {free : Addr → Prop} {maxL : Nat} {ret : Option FieldType} (hy : plainFor y = true) (hw : ws = Cond.code y cc maxL ret :: ws')
    (walk : ∀ (p : Program) (e : Env) (s : State) (m : MethodId) (args : Array Value) (below : List Frame) (meth : Method) (c : Code) (s₁ : State), BodyLoose p l y (headSpec ws rm) cc maxL ret e s m args below meth c s₁ → c.maxLocals = maxL → Pc args s → W p l e (headSpec ws rm).room s m args below meth c s.heap [] 0 0 (MQ below Qc args s mc ms free) (entryFrame m args maxL)) : Met l y ws rm Pc Qc mc ms free := by
  refine MetFree.of_bodySF (code := cc) (maxLocals := maxL) (ret := ret) hy (fun args s m h hn => ?_) (fun p e s m args below meth c s₁ B hml hP _ => ?_)
  · have hin : Cond.code y cc maxL ret ∈ ws := by rw [hw]; exact List.mem_cons_self
    obtain ⟨meth, c, q1, q2, q3, q4, q5, q6, -⟩ := Cond.code_spec hn (atoms_spec (ws := ws) h _ hin)
    exact ⟨meth, c, q1, q2, q3, q4, q5, q6⟩
  · have heq : s₁.heap = s.heap := by rw [B.state]; rfl
    obtain ⟨t, a1, o, b1, b2, b3⟩ := walk p e s m args below meth c s₁ B hml hP s₁ heq (Stand.of_body B)
    exact ⟨t, o, a1, b1, b2, b3.1, b3.2⟩
theorem x_jG {bytes : ByteArray} {maxL : Nat} {ret : Option FieldType} (hM : Cond.code y bytes maxL ret ∈ x_bw) : GoodIn x_bw (Cond.code y bytes maxL ret :: x_bw) := by
  intro w hw
  have h : w ∈ x_bw := by
    rcases List.mem_cons.mp hw with rfl | h
    · exact hM
    · exact h
  exact ⟨h, good_of_word (x_bw_good w h)⟩
def x_jr (f : Nat) : Room := { frames := f, cells := 0, slots := 0, locals := 37 * f }
theorem x_jpre {av : List Value} (X : x_At s m args own D base ad h H locs) (hT : x_St s base ad) : ∀ U : State, U.heap = H → s.WarmedH U.vm → x_Pv base ad D av h av.toArray U := by
  obtain ⟨hown, hts, hK, hbase, w, hS⟩ := X
  exact fun U hU hW => ⟨rfl, by rw [hU]; exact x_W.moved hW.alike w, va_K.moved hW.alike hK, hT.next hU hW hS⟩
/-- a call of a static method of the JDK -/
theorem x_jcS {i n f maxL : Nat} {bytes : ByteArray} {ret : Option FieldType} {av : List Value} {v : Option Value} (X : x_At s m args own D base ad h H locs) (hT : x_St s base ad) (hx : p.tables.exec = Jvm.exec) (hb : c.code = cc) (hml : c.maxLocals = nL) (hsz : ls.size = nL)
    (met : Met l y (Cond.code y bytes maxL ret :: x_bw) (x_jr f) (x_Pv base ad D av h) (x_Qc base ad D v h) 0 0 (fun q => base ≤ q)) (hcode : Cond.code y bytes maxL ret ∈ x_bw) (hini : Cond.initialized y.cls ∈ x_bw) (hlink : Cond.methodLink own i y ∈ x_bw) (hstat : Cond.static y ∈ x_bw)
    (hd3 : y.cls ≠ "java/lang/invoke/MethodHandle" ∧ y.cls ≠ "java/lang/invoke/VarHandle" ∧ (parseMethodDescriptor y.desc).map (fun d => d.parameters.length) = some n) (hroom : f + 1 ≤ R.frames ∧ 8 + (maxL + 11) + 37 * f ≤ R.locals) (hcells : k ≤ R.cells ∧ z ≤ R.slots) (hn : av.length = n) (h8 : (rest.map fun v => v.category).sum ≤ 8) (hdi : decode cc pc = .ok (.invokestatic i, 3))
    (kk : ∀ (H1 : Heap) (locs1 : List Loc), x_At s m args own D base ad h H1 locs1 → W p l e R s m args below meth c H1 locs1 k z Q (F0 m (pc + 3) ls ((v.map (x_cv ad)).toList ++ rest))) : W p l e R s m args below meth c H locs k z Q (F0 m pc ls (av.reverse ++ rest)) := by
  have hts := X.2.1
  have cb := callB_of (R := R) (s := s) (args := args) (own := own) (index := i) (y := y) (bytes := bytes) (maxL := maxL) (ret := ret) (ws := Cond.code y bytes maxL ret :: x_bw) (rm := x_jr f) (mc := 0) (ms := 0) n hts (x_jG hcode) rfl rfl rfl (hts _ hini) (hts _ hlink) hd3 hroom
  exact x_cont X (va_runS (As := av) (rest := rest) ⟨hx, hb, hml, X.1, hts⟩ met ⟨cb, hts _ hstat⟩ ⟨x_Pv_blind, x_jpre X hT⟩ rfl hn hsz rfl (lv_room h8) hdi hcells) kk
/-- a call of a method of String on a constant -/
theorem x_jcV {i n f maxL q : Nat} {bytes : ByteArray} {ret : Option FieldType} {av : List Value} {v : Option Value} (X : x_At s m args own D base ad h H locs) (hT : x_St s base ad) (hx : p.tables.exec = Jvm.exec) (hb : c.code = cc) (hml : c.maxLocals = nL) (hsz : ls.size = nL) (hq : ∃ cell : Cell, H[q]? = some cell ∧ cell.vm.isStatics = false ∧ s.vm.findClass y.cls = some cell.cls)
    (met : Met l y (Cond.code y bytes maxL ret :: x_bw) (x_jr f) (x_Pv base ad D (.ref q :: av) h) (x_Qc base ad D v h) 0 0 (fun q => base ≤ q)) (hcode : Cond.code y bytes maxL ret ∈ x_bw) (hini : Cond.initialized y.cls ∈ x_bw) (hlink : Cond.methodLink own i y ∈ x_bw) (hinst : Cond.instanceMethod y ∈ x_bw) (hsel : Cond.selects y.cls y y ∈ x_bw)
    (hd3 : y.cls ≠ "java/lang/invoke/MethodHandle" ∧ y.cls ≠ "java/lang/invoke/VarHandle" ∧ (parseMethodDescriptor y.desc).map (fun d => d.parameters.length) = some n) (hroom : f + 1 ≤ R.frames ∧ 8 + (maxL + 11) + 37 * f ≤ R.locals) (hcells : k ≤ R.cells ∧ z ≤ R.slots) (hn : av.length = n) (h8 : (rest.map fun v => v.category).sum ≤ 8) (hdi : decode cc pc = .ok (.invokevirtual i, 3))
    (kk : ∀ (H1 : Heap) (locs1 : List Loc), x_At s m args own D base ad h H1 locs1 → W p l e R s m args below meth c H1 locs1 k z Q (F0 m (pc + 3) ls ((v.map (x_cv ad)).toList ++ rest))) : W p l e R s m args below meth c H locs k z Q (F0 m pc ls (av.reverse ++ .ref q :: rest)) := by
  have hts := X.2.1
  have cb := callB_of (R := R) (s := s) (args := args) (own := own) (index := i) (y := y) (bytes := bytes) (maxL := maxL) (ret := ret) (ws := Cond.code y bytes maxL ret :: x_bw) (rm := x_jr f) (mc := 0) (ms := 0) n hts (x_jG hcode) rfl rfl rfl (hts _ hini) (hts _ hlink) hd3 hroom
  exact x_cont X (va_runV (As := av) (rest := rest) ⟨hx, hb, hml, X.1, hts⟩ met ⟨cb, hts _ hinst, hts _ hsel⟩ ⟨x_Pv_blind, hq, x_jpre X hT⟩ rfl hn hsz rfl (lv_room h8) hdi hcells) kk
/-- the beginning of a method of the JDK -/
theorem x_jb {f maxL : Nat} {bytes : ByteArray} {ret : Option FieldType} {av : List Value} {v : Option Value} (hy : plainFor y = true) (hcat : (lg_sl av).length ≤ maxL)
    (walk : ∀ (p : Program) (e : Env) (s : State) (m : MethodId) (args : Array Value) (below : List Frame) (meth : Method) (c : Code) (ls : Array Slot), p.tables.exec = Jvm.exec → c.code = bytes → c.maxLocals = maxL → meth.sig.returnType = ret → meth.locks = false → x_At s m args y.cls D base ad h s.heap [] → x_St s base ad → lv_has ls maxL (lv_args 0 av) → W p l e (x_jr f) s m args below meth c s.heap [] 0 0 (MQ below (x_Qc base ad D v h) args s 0 0 (fun q => base ≤ q)) (F0 m 0 ls [])) : Met l y (Cond.code y bytes maxL ret :: x_bw) (x_jr f) (x_Pv base ad D av h) (x_Qc base ad D v h) 0 0 (fun q => base ≤ q) := by
  refine x_ofW hy rfl ?_
  intro p e s m args below meth c s₁ B hml hv
  obtain ⟨rfl, hW, hK, hT⟩ := hv
  have hts := atoms_spec (ws := Cond.code y bytes maxL ret :: x_bw) B.pre
  have hl := lv_entry av (n := maxL) hcat
  rw [lg_entry_eq]
  generalize (lg_sl av ++ List.replicate (maxL - (lg_sl av).length) Slot.unset).toArray = ls at hl ⊢
  have hbase : base ≤ s.heap.size := by have := hW.2.2.1; omega
  exact walk p e s m _ below meth c ls B.exec B.bytes hml B.returns B.notSynchronized ⟨findClass_of_methodNamed B.named, fun w hw => hts w (List.mem_cons_of_mem _ hw), hK, hbase, hW, va_S.rf⟩ hT hl
theorem x_jfin {v : Option Value} (X : x_At s m args own D base ad h H locs) : ∀ t : State, t.heap = H → s.WarmedH t.vm → x_Qc base ad D v h args s (.returned (v.map (x_cv ad))) t := by
  obtain ⟨hown, hts, hK, hbase, w, hS⟩ := X
  exact fun t ht hW => ⟨rfl, by rw [ht]; exact x_W.moved hW.alike w, hS.F ht⟩
def x_jl : List Cond := [
  .code yJ0_coder_7d493 cJ0_coder_7d493 1 (some .byte), .instanceMethod yJ0_coder_7d493, .selects RJ0 yJ0_coder_7d493 yJ0_coder_7d493, .methodLink RJ0 335 yJ0_coder_7d493,
  .code yJ0_isLatin1_aae02 cJ0_isLatin1_aae02 1 (some .boolean), .instanceMethod yJ0_isLatin1_aae02, .selects RJ0 yJ0_isLatin1_aae02 yJ0_isLatin1_aae02, .methodLink RJ0 492 yJ0_isLatin1_aae02,
  .code yJ0_length_8abf5 cJ0_length_8abf5 1 (some .int), .instanceMethod yJ0_length_8abf5, .selects RJ0 yJ0_length_8abf5 yJ0_length_8abf5,
  .code yJ0_charAt_5068e cJ0_charAt_5068e 2 (some .char), .instanceMethod yJ0_charAt_5068e, .selects RJ0 yJ0_charAt_5068e yJ0_charAt_5068e,
  .code yJ0_checkIndex_df160 cJ0_checkIndex_df160 2 none, .static yJ0_checkIndex_df160, .methodLink RJ1 9 yJ0_checkIndex_df160,
  .code yJ1_charAt_3b067 cJ1_charAt_3b067 2 (some .char), .static yJ1_charAt_3b067, .methodLink RJ0 495 yJ1_charAt_3b067,
  .code yJ3_checkIndex_8e157 cJ3_checkIndex_8e157 3 (some .int), .static yJ3_checkIndex_8e157, .methodLink RJ0 1059 yJ3_checkIndex_8e157,
  .initialized RJ0, .initialized RJ1, .initialized RJ3,
  .fieldLink RJ0 9 "java/lang/String" "value" "[B", .fieldLink RJ0 15 "java/lang/String" "coder" "B", .fieldLink RJ0 38 "java/lang/String" "COMPACT_STRINGS" "Z", .fieldLink RJ0 1053 "jdk/internal/util/Preconditions" "SIOOBE_FORMATTER" "Ljava/util/function/BiFunction;"]
def x_JW : Prop := ∀ w ∈ x_jl, w ∈ x_bw
theorem x_jw (hJ : x_JW) {w : Cond} (j : Nat) (e : x_jl[j]? = some w) : w ∈ x_bw := hJ w (List.mem_of_getElem? e)
theorem x_jmem {l : List Int32} {k : Nat} (h : k < l.length) : l.getD k 0 ∈ l := by
  rw [List.getD_eq_getElem?_getD, List.getElem?_eq_getElem h]
  exact List.getElem_mem h
theorem x_jsh : ∀ j : Nat, j < x_sbyt.length → (Int32.ofNat (x_sbyt.getD j []).length) >>> ((0 : Int32) &&& 31) = Int32.ofNat (x_sbyt.getD j []).length := by decide +kernel
theorem x_jlen : ∀ j : Nat, j < x_sbyt.length → (x_sbyt.getD j []).length < 2 ^ 31 := by decide +kernel
theorem x_jch : ∀ j : Nat, j < x_sbyt.length → ∀ b ∈ x_sbyt.getD j [], ((b &&& (255 : Int32)).toUInt32 % 65536).toInt32 = b ∧ narrow .char (.int b) = .int b := by decide +kernel
set_option maxHeartbeats 4000000 in
theorem x_jcoder (hJ : x_JW) {j : Nat} (hj : j < x_sbyt.length) : Met l yJ0_coder_7d493 (Cond.code yJ0_coder_7d493 cJ0_coder_7d493 1 (some .byte) :: x_bw) (x_jr 0) (x_Pv base ad D [.ref (ad (x_str + j))] h) (x_Qc base ad D (some (.int 0)) h) 0 0 (fun q => base ≤ q) := by
  refine x_jb (by decide +kernel) (Nat.le_of_ble_eq_true rfl) ?_
  intro p e s m args below meth c ls hx hb hml hr hlk X hT hl
  obtain ⟨hown, hts, hK, hbase, w, hS⟩ := id X
  obtain ⟨hV, hZ, hq, -⟩ := id hT
  obtain ⟨o1, o2, o3, o4⟩ := hV j hj
  refine va_gets hx hb hZ hS hown (hts _ (x_jw hJ 28 rfl)) (fun _ h => h) (show decode cJ0_coder_7d493 0 = .ok (.getstatic 38, 3) by decide +kernel) ?_
  refine lv_if_eq hx hb (tgt := 13) (show decode cJ0_coder_7d493 3 = .ok (.ifCond .eq 10, 3) by decide +kernel) rfl (fun h => absurd h (by decide)) (fun _ => ?_)
  refine lv_aload_n hx hb (show decode cJ0_coder_7d493 6 = .ok (.aload_n 0, 1) by decide +kernel) rfl (lv_at hl 0 rfl) ?_
  refine vk_getf hx hb o2 hS hown (hts _ (x_jw hJ 27 rfl)) (fun _ h => h) (show decode cJ0_coder_7d493 7 = .ok (.getfield 15, 3) by decide +kernel) ?_
  refine lv_goto hx hb (tgt := 14) (show decode cJ0_coder_7d493 10 = .ok (.goto 4, 3) by decide +kernel) rfl ?_
  exact W.zret hx hb hr (ty := .byte) (by decide) (x_jfin (v := some (.int 0)) X) hS.2.2 (show decode cJ0_coder_7d493 14 = .ok (.ireturn, 1) by decide +kernel) hlk
set_option maxHeartbeats 4000000 in
theorem x_jlatin (hJ : x_JW) {j : Nat} (hj : j < x_sbyt.length) : Met l yJ0_isLatin1_aae02 (Cond.code yJ0_isLatin1_aae02 cJ0_isLatin1_aae02 1 (some .boolean) :: x_bw) (x_jr 0) (x_Pv base ad D [.ref (ad (x_str + j))] h) (x_Qc base ad D (some (.int 1)) h) 0 0 (fun q => base ≤ q) := by
  refine x_jb (by decide +kernel) (Nat.le_of_ble_eq_true rfl) ?_
  intro p e s m args below meth c ls hx hb hml hr hlk X hT hl
  obtain ⟨hown, hts, hK, hbase, w, hS⟩ := id X
  obtain ⟨hV, hZ, hq, -⟩ := id hT
  obtain ⟨o1, o2, o3, o4⟩ := hV j hj
  refine va_gets hx hb hZ hS hown (hts _ (x_jw hJ 28 rfl)) (fun _ h => h) (show decode cJ0_isLatin1_aae02 0 = .ok (.getstatic 38, 3) by decide +kernel) ?_
  refine lv_if_eq hx hb (tgt := 17) (show decode cJ0_isLatin1_aae02 3 = .ok (.ifCond .eq 14, 3) by decide +kernel) rfl (fun h => absurd h (by decide)) (fun _ => ?_)
  refine lv_aload_n hx hb (show decode cJ0_isLatin1_aae02 6 = .ok (.aload_n 0, 1) by decide +kernel) rfl (lv_at hl 0 rfl) ?_
  refine vk_getf hx hb o2 hS hown (hts _ (x_jw hJ 27 rfl)) (fun _ h => h) (show decode cJ0_isLatin1_aae02 7 = .ok (.getfield 15, 3) by decide +kernel) ?_
  refine lv_if_ne hx hb (tgt := 17) (show decode cJ0_isLatin1_aae02 10 = .ok (.ifCond .ne 7, 3) by decide +kernel) rfl (fun h => absurd rfl h) (fun _ => ?_)
  refine lv_iconst (v := 1) hx hb (show decode cJ0_isLatin1_aae02 13 = .ok (.iconst 1, 1) by decide +kernel) (by decide) ?_
  refine lv_goto hx hb (tgt := 18) (show decode cJ0_isLatin1_aae02 14 = .ok (.goto 4, 3) by decide +kernel) rfl ?_
  exact W.zret hx hb hr (ty := .boolean) (by decide) (x_jfin (v := some (.int 1)) X) hS.2.2 (show decode cJ0_isLatin1_aae02 18 = .ok (.ireturn, 1) by decide +kernel) hlk
theorem x_jrecv (X : x_At s m args own D base ad h H locs) (hT : x_St s base ad) {j : Nat} (hj : j < x_sbyt.length) : ∃ cell : Cell, H[ad (x_str + j)]? = some cell ∧ cell.vm.isStatics = false ∧ s.vm.findClass "java/lang/String" = some cell.cls := by
  obtain ⟨cell, h1, h2, h3, -⟩ := (hT.1 j hj).1.kept X.2.2.2.2.2.2.1
  exact ⟨cell, h1, h2, h3⟩
set_option maxHeartbeats 4000000 in
theorem x_jlength (hJ : x_JW) {j : Nat} (hj : j < x_sbyt.length) : Met l yJ0_length_8abf5 (Cond.code yJ0_length_8abf5 cJ0_length_8abf5 1 (some .int) :: x_bw) (x_jr 1) (x_Pv base ad D [.ref (ad (x_str + j))] h) (x_Qc base ad D (some (.int (Int32.ofNat (x_sbyt.getD j []).length))) h) 0 0 (fun q => base ≤ q) := by
  refine x_jb (by decide +kernel) (Nat.le_of_ble_eq_true rfl) ?_
  intro p e s m args below meth c ls hx hb hml hr hlk X hT hl
  obtain ⟨hown, hts, hK, hbase, w, hS⟩ := id X
  obtain ⟨hV, hZ, hq, -⟩ := id hT
  obtain ⟨o1, o2, o3, o4⟩ := hV j hj
  refine lv_aload_n hx hb (show decode cJ0_length_8abf5 0 = .ok (.aload_n 0, 1) by decide +kernel) rfl (lv_at hl 0 rfl) ?_
  refine vk_getf hx hb o3 hS hown (hts _ (x_jw hJ 26 rfl)) (fun _ h => h) (show decode cJ0_length_8abf5 1 = .ok (.getfield 9, 3) by decide +kernel) ?_
  refine va_tlen hx hb o4 hS (v := Int32.ofNat (x_sbyt.getD j []).length) rfl (show decode cJ0_length_8abf5 4 = .ok (.arraylength, 1) by decide +kernel) ?_
  refine lv_aload_n hx hb (show decode cJ0_length_8abf5 5 = .ok (.aload_n 0, 1) by decide +kernel) rfl (lv_at hl 0 rfl) ?_
  refine x_jcV (n := 0) (i := 335) (y := yJ0_coder_7d493) (av := []) (v := some (.int 0)) X hT hx hb hml hl.1 (x_jrecv X hT hj) (x_jcoder hJ hj) (x_jw hJ 0 rfl) (x_jw hJ 23 rfl) (x_jw hJ 3 rfl) (x_jw hJ 1 rfl) (x_jw hJ 2 rfl) ⟨by decide +kernel, by decide +kernel, by decide +kernel⟩ ⟨Nat.le_refl _, by decide⟩ ⟨Nat.le_refl _, Nat.le_refl _⟩ rfl (by show 1 ≤ 8; decide) (show decode cJ0_length_8abf5 6 = .ok (.invokevirtual 335, 3) by decide +kernel) (fun H1 locs1 X1 => ?_)
  refine lv_ishr hx hb (x := Int32.ofNat (x_sbyt.getD j []).length) (y := 0) (show decode cJ0_length_8abf5 9 = .ok (.ishr, 1) by decide +kernel) ?_
  rw [x_jsh j hj]
  exact W.iret hx hb hr (x_jfin (v := some (.int (Int32.ofNat (x_sbyt.getD j []).length))) X1) X1.2.2.2.2.2.2.2 (show decode cJ0_length_8abf5 10 = .ok (.ireturn, 1) by decide +kernel) hlk
set_option maxHeartbeats 4000000 in
theorem x_jpcheck (hJ : x_JW) {i n : Int32} (h0 : ¬ i < 0) (hn : i < n) {u : Value} (hu : u.category = 1) : Met l yJ3_checkIndex_8e157 (Cond.code yJ3_checkIndex_8e157 cJ3_checkIndex_8e157 3 (some .int) :: x_bw) (x_jr 0) (x_Pv base ad D [.int i, .int n, u] h) (x_Qc base ad D (some (.int i)) h) 0 0 (fun q => base ≤ q) := by
  refine x_jb (by decide +kernel) (by simp [lg_sl, hu, show ∀ q : Int32, (Value.int q).category = 1 from fun _ => rfl]) ?_
  intro p e s m args below meth c ls hx hb hml hr hlk X hT hl
  obtain ⟨hown, hts, hK, hbase, w, hS⟩ := id X
  have l0 : ls[0]? = some (.val (.int i)) := lv_at hl 0 rfl
  have l1 : ls[1]? = some (.val (.int n)) := lv_at hl 1 rfl
  refine lv_iload_n hx hb (show decode cJ3_checkIndex_8e157 0 = .ok (.iload_n 0, 1) by decide +kernel) rfl l0 ?_
  refine lv_if_lt hx hb (tgt := 9) (show decode cJ3_checkIndex_8e157 1 = .ok (.ifCond .lt 8, 3) by decide +kernel) rfl (fun h => absurd h h0) (fun _ => ?_)
  refine lv_iload_n hx hb (show decode cJ3_checkIndex_8e157 4 = .ok (.iload_n 0, 1) by decide +kernel) rfl l0 ?_
  refine lv_iload_n hx hb (show decode cJ3_checkIndex_8e157 5 = .ok (.iload_n 1, 1) by decide +kernel) rfl l1 ?_
  refine lv_icmp_lt hx hb (tgt := 16) (show decode cJ3_checkIndex_8e157 6 = .ok (.if_icmp .lt 10, 3) by decide +kernel) rfl (fun _ => ?_) (fun h => absurd hn h)
  refine lv_iload_n hx hb (show decode cJ3_checkIndex_8e157 16 = .ok (.iload_n 0, 1) by decide +kernel) rfl l0 ?_
  exact W.iret hx hb hr (x_jfin (v := some (.int i)) X) hS.2.2 (show decode cJ3_checkIndex_8e157 17 = .ok (.ireturn, 1) by decide +kernel) hlk
set_option maxHeartbeats 4000000 in
theorem x_jscheck (hJ : x_JW) {i n : Int32} (h0 : ¬ i < 0) (hn : i < n) : Met l yJ0_checkIndex_df160 (Cond.code yJ0_checkIndex_df160 cJ0_checkIndex_df160 2 none :: x_bw) (x_jr 1) (x_Pv base ad D [.int i, .int n] h) (x_Qc base ad D none h) 0 0 (fun q => base ≤ q) := by
  refine x_jb (by decide +kernel) (Nat.le_of_ble_eq_true rfl) ?_
  intro p e s m args below meth c ls hx hb hml hr hlk X hT hl
  obtain ⟨hown, hts, hK, hbase, w, hS⟩ := id X
  obtain ⟨hV, hZ, hq, -⟩ := id hT
  refine lv_iload_n hx hb (show decode cJ0_checkIndex_df160 0 = .ok (.iload_n 0, 1) by decide +kernel) rfl (lv_at hl 0 rfl) ?_
  refine lv_iload_n hx hb (show decode cJ0_checkIndex_df160 1 = .ok (.iload_n 1, 1) by decide +kernel) rfl (lv_at hl 1 rfl) ?_
  have go : ∀ u : Value, u.category = 1 → W p l e (x_jr 1) s m args below meth c s.heap [] 0 0 (MQ below (x_Qc base ad D none h) args s 0 0 (fun q => base ≤ q)) (F0 m 5 ls [u, .int n, .int i]) := by
    intro u hu
    refine x_jcS (n := 3) (i := 1059) (y := yJ3_checkIndex_8e157) (av := [.int i, .int n, u]) (rest := []) (v := some (.int i)) X hT hx hb hml hl.1 (x_jpcheck hJ h0 hn hu) (x_jw hJ 20 rfl) (x_jw hJ 25 rfl) (x_jw hJ 22 rfl) (x_jw hJ 21 rfl) ⟨by decide +kernel, by decide +kernel, by decide +kernel⟩ ⟨Nat.le_refl _, by decide⟩ ⟨Nat.le_refl _, Nat.le_refl _⟩ rfl (by decide) (show decode cJ0_checkIndex_df160 5 = .ok (.invokestatic 1059, 3) by decide +kernel) (fun H1 locs1 X1 => ?_)
    refine lv_pop hx hb (va := .int i) (show decode cJ0_checkIndex_df160 8 = .ok (.pop, 1) by decide +kernel) rfl ?_
    exact W.vret hx hb hr (x_jfin (v := none) X1) X1.2.2.2.2.2.2.2 (show decode cJ0_checkIndex_df160 9 = .ok (.return_, 1) by decide +kernel) hlk
  rcases hq with hz | ⟨t, hz⟩
  · exact va_gets hx hb hz hS hown (hts _ (x_jw hJ 29 rfl)) (fun _ h => h) (show decode cJ0_checkIndex_df160 2 = .ok (.getstatic 1053, 3) by decide +kernel) (go _ rfl)
  · exact va_gets hx hb hz hS hown (hts _ (x_jw hJ 29 rfl)) (fun _ h => h) (show decode cJ0_checkIndex_df160 2 = .ok (.getstatic 1053, 3) by decide +kernel) (go _ rfl)
set_option maxHeartbeats 4000000 in
theorem x_jlchar (hJ : x_JW) {j : Nat} (hj : j < x_sbyt.length) {i : Int32} (hi : vp_in i (x_sbyt.getD j []).length) : Met l yJ1_charAt_3b067 (Cond.code yJ1_charAt_3b067 cJ1_charAt_3b067 2 (some .char) :: x_bw) (x_jr 2) (x_Pv base ad D [.ref (ad (x_val + j)), .int i] h) (x_Qc base ad D (some (.int ((x_sbyt.getD j []).getD i.toNatClampNeg 0))) h) 0 0 (fun q => base ≤ q) := by
  refine x_jb (by decide +kernel) (Nat.le_of_ble_eq_true rfl) ?_
  intro p e s m args below meth c ls hx hb hml hr hlk X hT hl
  obtain ⟨hown, hts, hK, hbase, w, hS⟩ := id X
  obtain ⟨hV, hZ, hq, -⟩ := id hT
  obtain ⟨o1, o2, o3, o4⟩ := hV j hj
  have hlen := x_jlen j hj
  obtain ⟨q, hq1, hq2⟩ := vp_in_of hi hlen
  have h0 : ¬ i < 0 := fun z => hi (Or.inl z)
  have hlt : i < Int32.ofNat (x_sbyt.getD j []).length := by rw [hq2]; exact nI_lt hq1 hlen
  refine lv_iload_n hx hb (show decode cJ1_charAt_3b067 0 = .ok (.iload_n 1, 1) by decide +kernel) rfl (lv_at hl 1 rfl) ?_
  refine lv_aload_n hx hb (show decode cJ1_charAt_3b067 1 = .ok (.aload_n 0, 1) by decide +kernel) rfl (lv_at hl 0 rfl) ?_
  refine va_tlen hx hb o4 hS (v := Int32.ofNat (x_sbyt.getD j []).length) rfl (show decode cJ1_charAt_3b067 2 = .ok (.arraylength, 1) by decide +kernel) ?_
  refine x_jcS (n := 2) (i := 9) (y := yJ0_checkIndex_df160) (av := [.int i, .int (Int32.ofNat (x_sbyt.getD j []).length)]) (rest := []) (v := none) X hT hx hb hml hl.1 (x_jscheck hJ h0 hlt) (x_jw hJ 14 rfl) (x_jw hJ 23 rfl) (x_jw hJ 16 rfl) (x_jw hJ 15 rfl) ⟨by decide +kernel, by decide +kernel, by decide +kernel⟩ ⟨Nat.le_refl _, by decide⟩ ⟨Nat.le_refl _, Nat.le_refl _⟩ rfl (by decide) (show decode cJ1_charAt_3b067 3 = .ok (.invokestatic 9, 3) by decide +kernel) (fun H1 locs1 X1 => ?_)
  have hS1 := X1.2.2.2.2.2
  refine lv_aload_n hx hb (show decode cJ1_charAt_3b067 6 = .ok (.aload_n 0, 1) by decide +kernel) rfl (lv_at hl 0 rfl) ?_
  refine lv_iload_n hx hb (show decode cJ1_charAt_3b067 7 = .ok (.iload_n 1, 1) by decide +kernel) rfl (lv_at hl 1 rfl) ?_
  refine va_tb hx hb o4 hS1 hi (v := .int ((x_sbyt.getD j []).getD i.toNatClampNeg 0)) rfl (show decode cJ1_charAt_3b067 8 = .ok (.baload, 1) by decide +kernel) ?_
  refine lv_sipush (v := 255) hx hb (show decode cJ1_charAt_3b067 9 = .ok (.sipush 255, 3) by decide +kernel) (by decide) ?_
  refine lv_iand hx hb (show decode cJ1_charAt_3b067 12 = .ok (.iand, 1) by decide +kernel) ?_
  have hmem : (x_sbyt.getD j []).getD i.toNatClampNeg 0 ∈ x_sbyt.getD j [] := by
    have hz : i.toNatClampNeg < (x_sbyt.getD j []).length := by rw [hq2, nI_clamp (by omega)]; exact hq1
    exact x_jmem hz
  obtain ⟨g1, g2⟩ := x_jch j hj _ hmem
  refine lv_i2c hx hb (v := (x_sbyt.getD j []).getD i.toNatClampNeg 0) (show decode cJ1_charAt_3b067 13 = .ok (.i2c, 1) by decide +kernel) g1 ?_
  exact W.zret hx hb hr (ty := .char) g2 (x_jfin (v := some (.int ((x_sbyt.getD j []).getD i.toNatClampNeg 0))) X1) hS1.2.2 (show decode cJ1_charAt_3b067 14 = .ok (.ireturn, 1) by decide +kernel) hlk
set_option maxHeartbeats 4000000 in
theorem x_jcharAt (hJ : x_JW) {j : Nat} (hj : j < x_sbyt.length) {i : Int32} (hi : vp_in i (x_sbyt.getD j []).length) : Met l yJ0_charAt_5068e (Cond.code yJ0_charAt_5068e cJ0_charAt_5068e 2 (some .char) :: x_bw) (x_jr 3) (x_Pv base ad D [.ref (ad (x_str + j)), .int i] h) (x_Qc base ad D (some (.int ((x_sbyt.getD j []).getD i.toNatClampNeg 0))) h) 0 0 (fun q => base ≤ q) := by
  refine x_jb (by decide +kernel) (Nat.le_of_ble_eq_true rfl) ?_
  intro p e s m args below meth c ls hx hb hml hr hlk X hT hl
  obtain ⟨hown, hts, hK, hbase, w, hS⟩ := id X
  obtain ⟨hV, hZ, hq, -⟩ := id hT
  obtain ⟨o1, o2, o3, o4⟩ := hV j hj
  refine lv_aload_n hx hb (show decode cJ0_charAt_5068e 0 = .ok (.aload_n 0, 1) by decide +kernel) rfl (lv_at hl 0 rfl) ?_
  refine x_jcV (n := 0) (i := 492) (y := yJ0_isLatin1_aae02) (av := []) (rest := []) (v := some (.int 1)) X hT hx hb hml hl.1 (x_jrecv X hT hj) (x_jlatin hJ hj) (x_jw hJ 4 rfl) (x_jw hJ 23 rfl) (x_jw hJ 7 rfl) (x_jw hJ 5 rfl) (x_jw hJ 6 rfl) ⟨by decide +kernel, by decide +kernel, by decide +kernel⟩ ⟨by decide, by decide⟩ ⟨Nat.le_refl _, Nat.le_refl _⟩ rfl (by decide) (show decode cJ0_charAt_5068e 1 = .ok (.invokevirtual 492, 3) by decide +kernel) (fun H1 locs1 X1 => ?_)
  have hS1 := X1.2.2.2.2.2
  refine lv_if_eq hx hb (x := 1) (tgt := 16) (show decode cJ0_charAt_5068e 4 = .ok (.ifCond .eq 12, 3) by decide +kernel) rfl (fun h => absurd h (by decide)) (fun _ => ?_)
  refine lv_aload_n hx hb (show decode cJ0_charAt_5068e 7 = .ok (.aload_n 0, 1) by decide +kernel) rfl (lv_at hl 0 rfl) ?_
  refine vk_getf hx hb o3 hS1 hown (hts _ (x_jw hJ 26 rfl)) (fun _ h => h) (show decode cJ0_charAt_5068e 8 = .ok (.getfield 9, 3) by decide +kernel) ?_
  refine lv_iload_n hx hb (show decode cJ0_charAt_5068e 11 = .ok (.iload_n 1, 1) by decide +kernel) rfl (lv_at hl 1 rfl) ?_
  refine x_jcS (n := 2) (i := 495) (y := yJ1_charAt_3b067) (av := [.ref (ad (x_val + j)), .int i]) (rest := []) (v := some (.int ((x_sbyt.getD j []).getD i.toNatClampNeg 0))) X1 hT hx hb hml hl.1 (x_jlchar hJ hj hi) (x_jw hJ 17 rfl) (x_jw hJ 24 rfl) (x_jw hJ 19 rfl) (x_jw hJ 18 rfl) ⟨by decide +kernel, by decide +kernel, by decide +kernel⟩ ⟨by decide, by decide⟩ ⟨Nat.le_refl _, Nat.le_refl _⟩ rfl (by decide) (show decode cJ0_charAt_5068e 12 = .ok (.invokestatic 495, 3) by decide +kernel) (fun H2 locs2 X2 => ?_)
  obtain ⟨b, hb1, g2⟩ : ∃ b : Int32, (x_sbyt.getD j []).getD i.toNatClampNeg 0 = b ∧ narrow .char (.int b) = .int b := by
    have hlen := x_jlen j hj
    obtain ⟨q, hq1, hq2⟩ := vp_in_of hi hlen
    have hz : i.toNatClampNeg < (x_sbyt.getD j []).length := by rw [hq2, nI_clamp (by omega)]; exact hq1
    refine ⟨_, rfl, (x_jch j hj _ ?_).2⟩
    exact x_jmem hz
  exact W.zret hx hb hr (ty := .char) (by rw [hb1]; exact g2) (x_jfin (v := some (.int ((x_sbyt.getD j []).getD i.toNatClampNeg 0))) X2) X2.2.2.2.2.2.2.2 (show decode cJ0_charAt_5068e 15 = .ok (.ireturn, 1) by decide +kernel) hlk
end XS6a
