/-! THE CLAIM OUT OF ONE WALK OF THE LAW'S BODY. Your part is whole_start (and what it stands on); all else here is the same for every law, but numbers. -/
def R_law : String := "MoleBoardLaw"
def lw_P (b : Addr) (xs : List Int32) (args : Array Value) (s : State) : Prop := args = #[.ref b] ∧ s.IntsAt b xs ∧ xs.length ≤ 3072 ∧ (Jvm.Cond.and given_1 narrow_1).before args s = true
def lw_Q (_ : Array Value) (s : State) (o : Outcome) (t : State) : Prop := o = .returned (some (.int 1)) ∧ Framed s o t [] 600000 7302250
def lw_Z (below : List Frame) (a : Array Value) (s : State) : State → Prop := fun t => ∃ o, t.status = .running ∧ Ended t below o ∧ lw_Q a s o t
/-- the law's own end, with 1 on the stack, nothing written that was there before, its room as the claim has it -/
theorem lw_ret {p : Program} {l : Launch} {e : Env} {s : State} {m : MethodId} {below : List Frame} {meth : Method} {c : Code} {b : Nat} (hx : p.tables.exec = Jvm.exec) (hb : c.code = code) (hr : meth.sig.returnType = ret) (hlocks : meth.locks = false) {pc : Nat} {H : Heap} {ls : Array Slot} (hdg : decode code pc = .ok (.ireturn, 1)) : W p l e room_1 s m #[Value.ref b] below meth c H [] 600000 7302250 (lw_Z below #[Value.ref b] s) (F0 m pc ls [.int 1]) := by
  intro T hT X
  obtain ⟨fs, hret, hrun, hended, hW, hframe⟩ := X.leave (v := some (.int 1)) (hlocks := hlocks) (fun h => by rw [hr] at h; cases h)
  have hmeth' : T.vm.method? m = some meth := X.method'
  refine ⟨T.setFrames fs, ?_, .returned (some (.int 1)), hrun, hended, rfl, ⟨_, rfl⟩, hW, hframe⟩
  jvm_step X.here [X.here.top, hx, hb, hdg, hmeth', hr, ret, narrow_b1]
  (try refine ⟨rfl, ?_⟩); (try refine ⟨rfl, ?_⟩)
  first | (intro acts; rw [hret _ acts rfl rfl rfl]) | rw [hret _ _ rfl rfl rfl]
  exact Steps.refl _
/-- what holds at the law's entry: the machine, the code, the tables' words (any of lw_tbl by 'hts w (by decide +kernel)'), the script of L ints xs at the cell b, what the Statement gives of the start (any of its parts by flat_of_before) -/
def lw_At (p : Program) (s : State) (m : MethodId) (meth : Method) (c : Code) (b L : Nat) (xs : Nat → Int32) : Prop :=
  p.tables.exec = Jvm.exec ∧ c.code = code ∧ meth.sig.returnType = ret ∧ c.maxLocals = 4 ∧ s.vm.findClass R_law = some m.cls ∧ (∀ w ∈ lw_tbl, w.before #[Value.ref b] s = true) ∧ va_X b L xs s s.heap ∧ b < s.heap.size ∧ meth.locks = false ∧ (Jvm.Cond.and given_1 narrow_1).before #[Value.ref b] s = true
/-! ===== the claim out of a run of the interpreter ===== -/
def x_Law (N : Nat) : Prop := ∀ (L : Nat) (xs : Nat → Int32), L ≤ N → ∃ (n : Nat) (h' : xH) (k' z' : Nat), x_run x_mt (some (L, xs)) n 10 M_law (0, [(0, .ref x_scr)], [], [], 0, 0) = some (some (.int 1), h', k', z') ∧ k' ≤ room_1.cells ∧ z' ≤ room_1.slots
theorem x_known {s : State} {args : Array Value} (hts : ∀ w ∈ lw_tbl, w.before args s = true) : ∃ D : va_G, va_K D vwCl [] s := by
  have each : ∀ ci : Nat, ∃ (cC : ClassId) (iS : Nat → Nat), ∀ q : vw_C, (vwCl : List vw_C)[ci]? = some q → u_Kn s q.1 q.2.1 q.2.2 cC iS := by
    intro ci
    cases h : (vwCl : List vw_C)[ci]? with
    | none => exact ⟨0, fun _ => 0, fun q hq => by cases hq⟩
    | some q =>
      obtain ⟨C, T, N⟩ := q
      obtain ⟨hin, -, -, hins, -⟩ := x_okC_ok ci C T N h
      obtain ⟨cC, iS, hK⟩ := u_known (C := C) (T := T) (N := N) (n := N) hts (fun w hw => x_bw_tbl (hin w hw)) (hts _ (x_bw_tbl hins))
      exact ⟨cC, iS, fun q hq => by cases hq; exact hK⟩
  exact ⟨(fun ci => Classical.choose (each ci), fun ci => Classical.choose (Classical.choose_spec (each ci))), fun ci q hq => Classical.choose_spec (Classical.choose_spec (each ci)) q hq, fun k q hq => by simp at hq⟩
/-- the String constants at the start -/
def x_tm (j : Nat) : Term := match x_lit[j]? with
  | some q => .string q.1 q.2.1
  | none => .string "" 0
def x_sc (j : Nat) : List Cond := [.exactly (x_tm j) "java/lang/String", .eq (.field (x_tm j) "java/lang/String" "coder" "B") (.int 0), .arrayOf (.field (x_tm j) "java/lang/String" "value" "[B") .byte, .eq (.length (.field (x_tm j) "java/lang/String" "value" "[B")) (.int (Int32.ofNat (x_sbyt.getD j []).length))] ++ (List.range (x_sbyt.getD j []).length).map (fun i => .eq (.elem (.field (x_tm j) "java/lang/String" "value" "[B") (.int (Int32.ofNat i))) (.int ((x_sbyt.getD j []).getD i 0)))
set_option maxRecDepth 100000 in
theorem x_flat : ((List.range x_sbyt.length).all (fun j => decide (((flatC narrow_1).drop (x_off j)).take (x_sc j).length = x_sc j))) = true := by decide +kernel
theorem x_sc_of {args : Array Value} {s : State} (h : narrow_1.before args s = true) {j : Nat} (hj : j < x_sbyt.length) : ∀ w ∈ x_sc j, w.before args s = true := by
  intro w hw
  have h1 := List.all_eq_true.mp x_flat j (List.mem_range.mpr hj)
  have h2 : ((flatC narrow_1).drop (x_off j)).take (x_sc j).length = x_sc j := of_decide_eq_true h1
  rw [← h2] at hw
  exact flat_of_before _ h w (List.mem_of_mem_drop (List.mem_of_mem_take hw))
theorem x_strs {s : State} {b : Nat} (hg : (Jvm.Cond.and given_1 narrow_1).before #[Value.ref b] s = true) (hts : ∀ w ∈ lw_tbl, w.before #[Value.ref b] s = true) : ∃ adK adV : Nat → Nat,
    (∀ j : Nat, j < x_sbyt.length → va_O "java/lang/String" (adK j) (fun q => s.heap.size ≤ q) s s.heap ∧ va_OF "java/lang/String" "coder" "B" (.int 0) (adK j) (fun q => s.heap.size ≤ q) s s.heap ∧ va_OF "java/lang/String" "value" "[B" (.ref (adV j)) (adK j) (fun q => s.heap.size ≤ q) s s.heap ∧ va_T .byte (adV j) (x_sbyt.getD j []).length (fun i => .int ((x_sbyt.getD j []).getD i 0)) (fun q => s.heap.size ≤ q) s s.heap) ∧
    (∀ (j : Nat) (own : String) (k : Nat) (tx : String), x_lit[j]? = some (own, k, tx) → vk_R own k tx (adK j) s) ∧
    va_Z "java/lang/String" "COMPACT_STRINGS" "Z" (.int 1) (fun q => s.heap.size ≤ q) s s.heap ∧ va_Zq "jdk/internal/util/Preconditions" "SIOOBE_FORMATTER" "Ljava/util/function/BiFunction;" (fun q => s.heap.size ≤ q) s s.heap := by
  rw [Cond.before_and, Bool.and_eq_true] at hg
  have hn := hg.2
  have hA : ∀ a : Nat, a < s.heap.size → ¬ s.heap.size ≤ a := fun a h => by omega
  have h0 : ∀ j : Nat, ∃ q : Nat × Nat, j < x_sbyt.length → (x_tm j).eval #[Value.ref b] s none [] s = some (.ref q.1) ∧ va_O "java/lang/String" q.1 (fun q => s.heap.size ≤ q) s s.heap ∧ va_OF "java/lang/String" "coder" "B" (.int 0) q.1 (fun q => s.heap.size ≤ q) s s.heap ∧ va_OF "java/lang/String" "value" "[B" (.ref q.2) q.1 (fun q => s.heap.size ≤ q) s s.heap ∧ va_T .byte q.2 (x_sbyt.getD j []).length (fun i => .int ((x_sbyt.getD j []).getD i 0)) (fun q => s.heap.size ≤ q) s s.heap := by
    intro j
    by_cases hj : j < x_sbyt.length
    · have hc := x_sc_of hn hj
      have c0 := hc (.exactly (x_tm j) "java/lang/String") (List.mem_append_left _ (List.mem_of_getElem? (i := 0) rfl))
      have c1 := hc (.eq (.field (x_tm j) "java/lang/String" "coder" "B") (.int 0)) (List.mem_append_left _ (List.mem_of_getElem? (i := 1) rfl))
      have c2 := hc (.arrayOf (.field (x_tm j) "java/lang/String" "value" "[B") .byte) (List.mem_append_left _ (List.mem_of_getElem? (i := 2) rfl))
      have c3 := hc (.eq (.length (.field (x_tm j) "java/lang/String" "value" "[B")) (.int (Int32.ofNat (x_sbyt.getD j []).length))) (List.mem_append_left _ (List.mem_of_getElem? (i := 3) rfl))
      obtain ⟨a, c, cA, kA, q1, q2, q3, q4, q5, q6, -⟩ := Cond.exactly_spec (args := #[Value.ref b]) (first := s) (o := none) (s := s) (idx := []) (t := x_tm j) (cls := "java/lang/String") c0
      obtain ⟨t, ht, hTT⟩ := va_Tof (f := fun i => .int ((x_sbyt.getD j []).getD i 0)) (A := fun q => s.heap.size ≤ q) (x_jlen j hj) c2 (va_eqt c3) (fun i hi => va_eqt (hc _ (List.mem_append_right _ (List.mem_map.mpr ⟨i, List.mem_range.mpr hi, rfl⟩)))) hA
      exact ⟨(a, t), fun _ => ⟨q1, ⟨cA, q3, q5, by rw [q6]; exact q2, hA a (Array.getElem?_eq_some_iff.mp q3).1⟩, vk_OFof q1 (va_eqt c1) hA, vk_OFof q1 ht hA, hTT⟩⟩
    · exact ⟨(0, 0), fun h => absurd h hj⟩
  obtain ⟨ad, had⟩ := Classical.axiomOfChoice h0
  refine ⟨fun j => (ad j).1, fun j => (ad j).2, fun j hj => (had j hj).2, fun j own k tx e => ?_, ?_, ?_⟩
  · have hj : j < x_sbyt.length := Nat.lt_of_lt_of_eq (List.getElem?_eq_some_iff.mp e).1 x_ll
    have h1 := (had j hj).1
    have et : x_tm j = .string own k := by unfold x_tm; rw [e]
    rw [et] at h1
    exact vk_R.of (hts _ (x_lit_in _ (List.mem_of_getElem? e))) h1
  · exact va_Zof (hts _ x_ly1) (hts _ x_ly2) (va_eqt (flat_of_before _ hn _ (List.mem_of_getElem? (i := 2) rfl))) hA
  · exact va_Zqof (hts _ x_ly3) (hts _ x_ly4) (flat_of_before _ hn _ (List.mem_of_getElem? (i := 3) rfl)) hA
theorem x_start (hLaw : ∀ (L : Nat) (xs : Nat → Int32), L ≤ 3072 → ∃ (n : Nat) (h' : xH) (k' z' : Nat), x_run x_mt (some (L, xs)) n 10 M_law (0, [(0, .ref x_scr)], [], [], 0, 0) = some (some (.int 1), h', k', z') ∧ k' ≤ room_1.cells ∧ z' ≤ room_1.slots) {p : Program} {e : Env} {s : State} {m : MethodId} {below : List Frame} {meth : Method} {c : Code} (l : Launch) {b L : Nat} {xs : Nat → Int32} (hL : L ≤ 3072) (C0 : lw_At p s m meth c b L xs) : W p l e room_1 s m #[Value.ref b] below meth c s.heap [] 0 0 (lw_Z below #[Value.ref b] s) (entryFrame m ([Value.ref b] : List Value).toArray 4) := by
  obtain ⟨hx, hb, hr, hml, hown, hts, hX, hbl, hlocks, hgv⟩ := C0
  obtain ⟨n, h', k', z', hrun, hk, hz⟩ := hLaw L xs hL
  obtain ⟨D, hK⟩ := x_known hts
  have wk := x_walk x_okC_ok x_mt_ok n 10 M_law (some (L, xs)) _ _ h' k' z' rk_law hrun
  have hl := lv_entry ([.ref b]) (n := 4) (Nat.le_of_ble_eq_true rfl)
  rw [lg_entry_eq]
  generalize (lg_sl ([.ref b]) ++ List.replicate (4 - (lg_sl ([.ref b])).length) Slot.unset).toArray = ls at hl ⊢
  have hl : lv_has ls 4 [(0, .ref b)] := hl
  obtain ⟨adK, adV, hstr, hlit, hcs, hsi⟩ := x_strs hgv hts
  have had : ∀ k, k < x_scr → (fun k => if k < x_scr then s.heap.size + k else if k < x_str then b else if k < x_val then adK (k - x_str) else adV (k - x_val)) k = s.heap.size + k := fun k hk => if_pos hk
  have hsc : (fun k => if k < x_scr then s.heap.size + k else if k < x_str then b else if k < x_val then adK (k - x_str) else adV (k - x_val)) x_scr = b := by
    show (if x_scr < x_scr then _ else if x_scr < x_str then b else _) = b
    rw [if_neg (Nat.lt_irrefl _), if_pos (by decide)]
  have hak : ∀ j, j < x_sbyt.length → (fun k => if k < x_scr then s.heap.size + k else if k < x_str then b else if k < x_val then adK (k - x_str) else adV (k - x_val)) (x_str + j) = adK j := by
    intro j hj
    have hj2 : j < 1000 := Nat.lt_of_lt_of_le hj (by decide)
    show (if x_str + j < x_scr then _ else if x_str + j < x_str then b else if x_str + j < x_val then adK (x_str + j - x_str) else _) = _
    rw [if_neg (by unfold x_str x_scr; omega), if_neg (by omega), if_pos (by unfold x_str x_val; omega), Nat.add_sub_cancel_left]
  have hav : ∀ j, j < x_sbyt.length → (fun k => if k < x_scr then s.heap.size + k else if k < x_str then b else if k < x_val then adK (k - x_str) else adV (k - x_val)) (x_val + j) = adV j := by
    intro j hj
    show (if x_val + j < x_scr then _ else if x_val + j < x_str then b else if x_val + j < x_val then _ else adV (x_val + j - x_val)) = _
    rw [if_neg (by unfold x_val x_scr; omega), if_neg (by unfold x_val x_str; omega), if_neg (by omega), Nat.add_sub_cancel_left]
  generalize (fun k => if k < x_scr then s.heap.size + k else if k < x_str then b else if k < x_val then adK (k - x_str) else adV (k - x_val)) = ad at had hsc hak hav
  have hT : x_St s s.heap.size ad := by
    refine ⟨fun j hj => ?_, hcs, hsi, fun j own k tx e => ?_⟩
    · obtain ⟨o1, o2, o3, o4⟩ := hstr j hj
      rw [hak j hj, hav j hj]
      exact ⟨o1, o2, o3, o4⟩
    · have hj : j < x_sbyt.length := Nat.lt_of_lt_of_eq (List.getElem?_eq_some_iff.mp e).1 x_ll
      rw [hak j hj]
      exact hlit j own k tx e
  have hW : x_W ad s.heap.size D [] s s.heap := ⟨had, Nat.zero_le _, rfl, fun _ => 0, fun k q h => by simp [x_cw] at h, fun k e t h => by simp at h, fun C hC => by
    have e : x_ao = x_ao := rfl
    exact va_AO.of (A := #[Value.ref b]) (hts _ (x_ao_in C hC))⟩
  refine wk.2.2 (ad := ad) (base := s.heap.size) (D := D) hx hb hml ?_ ⟨hown, fun w hw => hts w (x_bw_tbl hw), hK, Nat.le_refl _, hW, va_S.rf⟩ ⟨fun n f q => ?_, hT⟩ ⟨by decide, by decide⟩ hk hz (by rw [show x_cl ad [(0, .ref x_scr)] = [(0, .ref (ad x_scr))] from rfl, hsc]; exact hl) ?_
  · intro q; exact absurd q (by decide)
  · cases q
    rw [hsc]
    exact ⟨hX, hbl, Nat.not_le.mpr hbl⟩
  · intro H1 locs1 ls1 pc1 ins st1 hd hv X
    obtain ⟨-, -, -, -, -, hS⟩ := X
    unfold x_ret at hv
    split at hv
    · split at hv
      · cases hv
        refine va_forget (fun q hq => hS.2.2 q hq) ?_
        refine W.widen hk hz ?_
        exact lw_ret hx hb hr hlocks hd
      · rename_i q; cases q
      · cases hv
    · split at hv <;> cases hv
    · split at hv <;> cases hv
    · split at hv <;> cases hv
    · cases hv

