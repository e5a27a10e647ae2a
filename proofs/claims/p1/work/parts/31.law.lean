/-! THE CLAIM OUT OF ONE WALK OF THE LAW'S BODY. Your part is whole_start (and what it stands on); all else here is the same for every law, but numbers. -/
def R_law : String := "MoleBoardLaw"
def lw_P (b : Addr) (xs : List Int32) (args : Array Value) (s : State) : Prop := args = #[.ref b] ∧ s.IntsAt b xs ∧ xs.length ≤ 6 ∧ (Jvm.Cond.and given_1 narrow_1).before args s = true
def lw_Q (_ : Array Value) (s : State) (o : Outcome) (t : State) : Prop := o = .returned (some (.int 1)) ∧ Framed s o t [] 600000 7302250
def lw_Z (below : List Frame) (a : Array Value) (s : State) : State → Prop := fun t => ∃ o, t.status = .running ∧ Ended t below o ∧ lw_Q a s o t
/-- the law's own end, with 1 on the stack, nothing written that was there before, its room as the claim has it -/
theorem lw_ret {p : Program} {l : Launch} {e : Env} {s : State} {m : MethodId} {below : List Frame} {meth : Method} {c : Code} {b : Nat} (hx : p.tables.exec = Jvm.exec) (hb : c.code = code) (hr : meth.sig.returnType = ret) (hlocks : meth.locks = false) {pc : Nat} {H : Heap} {ls : Array Slot} (hdg : decode code pc = .ok (.ireturn, 1)) : W p l e room_1 s m #[Value.ref b] below meth c H [] 600000 7302250 (lw_Z below #[Value.ref b] s) (F0 m pc ls [.int 1]) := by
  intro T hT X
  obtain ⟨fs, hret, hrun, hended, hW, hframe⟩ := X.leave (v := some (.int 1)) (hlocks := hlocks) (fun h => by rw [hr] at h; cases h)
  have hmeth' : T.vm.method? m = some meth := X.method'
  refine ⟨T.setFrames fs, ?_, .returned (some (.int 1)), hrun, hended, rfl, ⟨_, rfl⟩, hW, hframe⟩
  jvm_step X.here [X.here.top, hx, hb, hdg, hmeth', hr, ret, narrow_b1]
  (try refine ⟨rfl, ?_⟩); (try refine ⟨rfl, ?_⟩)
  first | (intro acts; rw [hret _ acts rfl rfl rfl]) | rw [hret _ _ rfl rfl rfl]
  exact Steps.refl _
/-- what holds at the law's entry: the machine, the code, the tables' words (any of lw_tbl by 'hts w (by decide +kernel)'), the script of L ints xs at the cell b, what the Statement gives of the start (any of its parts by flat_of_before) -/
def lw_At (p : Program) (s : State) (m : MethodId) (meth : Method) (c : Code) (b L : Nat) (xs : Nat → Int32) : Prop :=
  p.tables.exec = Jvm.exec ∧ c.code = code ∧ meth.sig.returnType = ret ∧ c.maxLocals = 4 ∧ s.vm.findClass R_law = some m.cls ∧ (∀ w ∈ lw_tbl, w.before #[Value.ref b] s = true) ∧ va_X b L xs s s.heap ∧ b < s.heap.size ∧ meth.locks = false ∧ (Jvm.Cond.and given_1 narrow_1).before #[Value.ref b] s = true
/-! ===== the claim out of a run of the interpreter ===== -/
def x_Law (N : Nat) : Prop := ∀ (L : Nat) (xs : Nat → Int32), L ≤ N → ∃ (n : Nat) (h' : xH) (k' z' : Nat), x_run x_mt (some (L, xs)) n 13 M_law (0, [(0, .ref x_scr)], [], [], 0, 0) = some (some (.int 1), h', k', z') ∧ k' ≤ room_1.cells ∧ z' ≤ room_1.slots
theorem x_known {s : State} {args : Array Value} (hts : ∀ w ∈ lw_tbl, w.before args s = true) : ∃ D : va_G, va_K D vwCl [] s := by
  have each : ∀ ci : Nat, ∃ (cC : ClassId) (iS : Nat → Nat), ∀ q : vw_C, (vwCl : List vw_C)[ci]? = some q → u_Kn s q.1 q.2.1 q.2.2 cC iS := by
    intro ci
    cases h : (vwCl : List vw_C)[ci]? with
    | none => exact ⟨0, fun _ => 0, fun q hq => by cases hq⟩
    | some q =>
      obtain ⟨C, T, N⟩ := q
      obtain ⟨hin, -, -, hins, -⟩ := x_okC_ok ci C T N h
      obtain ⟨cC, iS, hK⟩ := u_known (C := C) (T := T) (N := N) (n := N) hts (fun w hw => x_bw_tbl (hin w hw)) (hts _ (x_bw_tbl hins))
      exact ⟨cC, iS, fun q hq => by cases hq; exact hK⟩
  exact ⟨(fun ci => Classical.choose (each ci), fun ci => Classical.choose (Classical.choose_spec (each ci))), fun ci q hq => Classical.choose_spec (Classical.choose_spec (each ci)) q hq, fun k q hq => by simp at hq⟩
theorem x_start (hLaw : ∀ (L : Nat) (xs : Nat → Int32), L ≤ 6 → ∃ (n : Nat) (h' : xH) (k' z' : Nat), x_run x_mt (some (L, xs)) n 13 M_law (0, [(0, .ref x_scr)], [], [], 0, 0) = some (some (.int 1), h', k', z') ∧ k' ≤ room_1.cells ∧ z' ≤ room_1.slots) {p : Program} {e : Env} {s : State} {m : MethodId} {below : List Frame} {meth : Method} {c : Code} (l : Launch) {b L : Nat} {xs : Nat → Int32} (hL : L ≤ 6) (C0 : lw_At p s m meth c b L xs) : W p l e room_1 s m #[Value.ref b] below meth c s.heap [] 0 0 (lw_Z below #[Value.ref b] s) (entryFrame m ([Value.ref b] : List Value).toArray 4) := by
  obtain ⟨hx, hb, hr, hml, hown, hts, hX, hbl, hlocks, hgv⟩ := C0
  obtain ⟨n, h', k', z', hrun, hk, hz⟩ := hLaw L xs hL
  obtain ⟨D, hK⟩ := x_known hts
  have wk := x_walk x_okC_ok x_mt_ok n 13 M_law (some (L, xs)) _ _ h' k' z' rk_law hrun
  have hl := lv_entry ([.ref b]) (n := 4) (Nat.le_of_ble_eq_true rfl)
  rw [lg_entry_eq]
  generalize (lg_sl ([.ref b]) ++ List.replicate (4 - (lg_sl ([.ref b])).length) Slot.unset).toArray = ls at hl ⊢
  have hl : lv_has ls 4 [(0, .ref b)] := hl
  have had : ∀ k, k < x_scr → (fun k => if k < x_scr then s.heap.size + k else b) k = s.heap.size + k := fun k hk => if_pos hk
  have hsc : (fun k => if k < x_scr then s.heap.size + k else b) x_scr = b := if_neg (Nat.lt_irrefl _)
  generalize (fun k => if k < x_scr then s.heap.size + k else b) = ad at had hsc
  have hW : x_W ad s.heap.size D [] s s.heap := ⟨had, Nat.zero_le _, rfl, fun _ => 0, fun k q h => by simp [x_cw] at h, fun k e t h => by simp at h, fun C hC => by
    have e : x_ao = x_ao := rfl
    exact va_AO.of (A := #[Value.ref b]) (hts _ (x_ao_in C hC))⟩
  refine wk.2.2 (ad := ad) (base := s.heap.size) (D := D) hx hb hml ?_ ⟨hown, fun w hw => hts w (x_bw_tbl hw), hK, Nat.le_refl _, hW, va_S.rf⟩ (fun n f q => ?_) ⟨by decide, by decide⟩ hk hz (by rw [show x_cl ad [(0, .ref x_scr)] = [(0, .ref (ad x_scr))] from rfl, hsc]; exact hl) ?_
  · intro q; exact absurd q (by decide)
  · cases q
    rw [hsc]
    exact ⟨hX, hbl, Nat.not_le.mpr hbl⟩
  · intro H1 locs1 ls1 pc1 ins st1 hd hv X
    obtain ⟨-, -, -, -, -, hS⟩ := X
    unfold x_ret at hv
    split at hv
    · split at hv
      · cases hv
        refine va_forget (fun q hq => hS.2.2 q hq) ?_
        refine W.widen hk hz ?_
        exact lw_ret hx hb hr hlocks hd
      · rename_i q; cases q
      · cases hv
    · split at hv <;> cases hv
    · split at hv <;> cases hv
    · split at hv <;> cases hv
    · cases hv

