/-! ===== the walk ===== -/
def x_okR (mt : List xM) (M : xM) (r : xR) : Prop := decode (x_cc M) r.1 = .ok (r.2.1, r.2.2.1) ∧ x_lok r.2.1 r.2.2.1 ∧ (match x_grp r.2.1 with
  | 1 => x_ok1 (x_own M) (x_ml M) r.2.1 r.2.2.2.1
  | 2 => x_ok2 (x_own M) (x_nm M) r.2.1 r.2.2.2.1 r.2.2.2.2.1
  | 3 => x_ok3 (x_own M) mt r.2.1 r.2.2.2.1 r.2.2.2.2.1
  | _ => True)
def x_okM (mt : List xM) (M : xM) : Prop := plainFor (x_nm M) = true ∧ (x_nm M).cls = x_own M ∧ ((x_nm M).cls ≠ "java/lang/invoke/MethodHandle" ∧ (x_nm M).cls ≠ "java/lang/invoke/VarHandle") ∧ x_ml M ≤ 18 ∧
  Cond.code (x_nm M) (x_cc M) (x_ml M) (x_rt M) ∈ x_bw ∧ Cond.initialized (x_nm M).cls ∈ x_bw ∧ (x_sta M = true → Cond.static (x_nm M) ∈ x_bw) ∧ (x_sta M = false → Cond.instanceMethod (x_nm M) ∈ x_bw ∧ ∃ (T : u_T) (N : Nat), (vwCl : List vw_C)[M.2.2.2.2.2.2.1]? = some (x_own M, T, N)) ∧ (x_sta M = false → (x_nm M).name ≠ "<init>" → Cond.selects (x_nm M).cls (x_nm M) (x_nm M) ∈ x_bw) ∧
  ∀ q ∈ x_rws M, ∀ r ∈ q.2, x_okR mt M r
def x_ws (M : xM) : List Cond := Cond.code (x_nm M) (x_cc M) (x_ml M) (x_rt M) :: x_bw
section XS6
variable {p : Program} {l : Launch} {e : Env} {R : Room} {s : State} {m : MethodId} {args : Array Value} {below : List Frame} {meth : Method} {c : Code} {H : Heap} {locs : List Loc} {cells slots : Nat} {Q : State → Prop}
variable {cc : ByteArray} {pc : Nat} {ls : Array Slot} {own : String} {y : MethodName} {ad : Nat → Nat} {nL : Nat} {L : xL} {st rest : List Value} {h : xH} {k z : Nat} {ins : Instr} {len a b base d : Nat} {D : va_G}
/-- a run of the interpreter is a walk of the machine -/
def x_Wk (mt : List xM) (d : Nat) (M : xM) (S : Option xS) (c0 : xC) (v : Option Value) (h' : xH) (k' z' : Nat) : Prop :=
  c0.2.2.2.2.1 ≤ k' ∧ c0.2.2.2.2.2 ≤ z' ∧ ∀ {p : Program} {l : Launch} {e : Env} {R : Room} {s : State} {m : MethodId} {args : Array Value} {below : List Frame} {meth : Method} {c : Code} {Q : State → Prop} {base : Nat} {ad : Nat → Nat} {D : va_G} {H : Heap} {locs : List Loc} {ls : Array Slot},
    p.tables.exec = Jvm.exec → c.code = x_cc M → c.maxLocals = x_ml M → ((x_nm M).name = "<init>" → meth.name = "<init>") → x_At s m args (x_own M) D base ad c0.2.2.2.1 H locs → x_Sc S s base ad → x_Rm R d → k' ≤ R.cells → z' ≤ R.slots → lv_has ls (x_ml M) (x_cl ad c0.2.1) →
    (∀ (H1 : Heap) (locs1 : List Loc) (ls1 : Array Slot) (pc1 : Nat) (ins : Instr) (st1 : List Value), decode (x_cc M) pc1 = .ok (ins, 1) → x_ret (x_rt M) ins st1 = some v → x_At s m args (x_own M) D base ad h' H1 locs1 → W p l e R s m args below meth c H1 locs1 k' z' Q (F0 m pc1 ls1 (st1.map (x_cv ad)))) →
    W p l e R s m args below meth c H locs c0.2.2.2.2.1 c0.2.2.2.2.2 Q (F0 m c0.1 ls (c0.2.2.1.map (x_cv ad)))
/-- the end of a method -/
theorem x_end {v : Option Value} {h' : xH} {k' z' pc1 : Nat} {ls1 : Array Slot} {st1 : List Value} {rt : Option FieldType} (hx : p.tables.exec = Jvm.exec) (hb : c.code = cc) (hr : meth.sig.returnType = rt) (hlk : meth.locks = false) (X : x_At s m args own D base ad h' H locs) (hd : decode cc pc1 = .ok (ins, 1)) (hv : x_ret rt ins st1 = some v) : W p l e R s m args below meth c H locs k' z' (MQ below (x_Qc base ad D v h') args s k' z' (fun q => base ≤ q)) (F0 m pc1 ls1 (st1.map (x_cv ad))) := by
  obtain ⟨hown, hts, hK, hbase, w, hS⟩ := X
  have fin : ∀ (t : State), t.heap = H → s.WarmedH t.vm → ∀ (u : Option Value), u = v.map (x_cv ad) → x_Qc base ad D v h' args s (.returned u) t := by
    intro t ht hW u hu
    exact ⟨by rw [hu], by rw [ht]; exact x_W.moved hW.alike w, hS.F ht⟩
  unfold x_ret at hv
  split at hv
  · split at hv
    · cases hv
      exact W.iret hx hb hr (fun t ht hW => fin t ht hW _ rfl) hS.2.2 hd
    · rename_i x
      cases hb1 : (x == 0 || x == 1) with
      | false => rw [hb1] at hv; cases hv
      | true =>
        rw [hb1] at hv
        cases hv
        have hn : narrow .boolean (.int x) = .int x := by
          have h' : x = 0 ∨ x = 1 := by simpa using hb1
          rcases h' with rfl | rfl <;> decide
        exact W.zret hx hb hr hn (fun t ht hW => fin t ht hW _ rfl) hS.2.2 hd
    · cases hv
  · split at hv
    · cases hv
      exact W.lret hx hb hr (fun t ht hW => fin t ht hW _ rfl) hS.2.2 hd
    · cases hv
  · split at hv
    · cases hv
      exact W.aret hx hb hr (Or.inl ⟨_, rfl⟩) (Or.inr ⟨_, rfl⟩) (fun t ht hW => fin t ht hW _ rfl) hS.2.2 hd
    · cases hv
  · split at hv
    · cases hv
      exact W.vret hx hb hr (fun t ht hW => fin t ht hW _ rfl) hS.2.2 hd
    · cases hv
  · cases hv
/-- a method's contract out of a walk of its body -/
theorem x_met {mt : List xM} {M : xM} (hM : x_okM mt M) {vs : List Value} {v : Option Value} {h' : xH} {k' z' : Nat} (hk : x_Wk mt d M none (0, lv_args 0 vs, [], h, 0, 0) v h' k' z') (hcat : x_cat vs ≤ x_ml M) : Met l (x_nm M) (x_ws M) (x_room d k' z') (x_Pc base ad D vs h) (x_Qc base ad D v h') k' z' (fun q => base ≤ q) := by
  obtain ⟨m1, m2, -, m4, -⟩ := hM
  refine x_ofW (cc := x_cc M) (maxL := x_ml M) (ret := x_rt M) m1 rfl ?_
  intro p e s m args below meth c s₁ B hml hv
  obtain ⟨rfl, hW, hK, hT⟩ := hv
  have hx := B.exec
  have hb := B.bytes
  have hr := B.returns
  have hts := atoms_spec (ws := x_ws M) B.pre
  have hown : s.vm.findClass (x_own M) = some m.cls := by rw [← m2]; exact findClass_of_methodNamed B.named
  have hlocks := B.notSynchronized
  have hmn : (x_nm M).name = "<init>" → meth.name = "<init>" := fun h => (name_of_methodNamed B.named B.method).1.trans h
  have hl := lv_entry (vs.map (x_cv ad)) (n := x_ml M) (by rw [x_lg_len]; simpa [← x_cat_map ad vs] using (show x_cat (vs.map (x_cv ad)) ≤ x_ml M by
    have e : ∀ ws : List Value, x_cat (ws.map (x_cv ad)) = x_cat ws := by
      intro ws
      induction ws with
      | nil => rfl
      | cons q qs ih => simp only [List.map_cons, x_cat, x_cv_cat, ih]
    rw [e]; exact hcat))
  rw [lg_entry_eq]
  generalize (lg_sl (vs.map (x_cv ad)) ++ List.replicate (x_ml M - (lg_sl (vs.map (x_cv ad))).length) Slot.unset).toArray = ls at hl ⊢
  rw [x_cl_args] at hl
  have hbase : base ≤ s.heap.size := by have := hW.2.2.1; omega
  exact hk.2.2 hx hb hml hmn ⟨hown, fun w hw => hts w (List.mem_cons_of_mem _ hw), hK, hbase, hW, va_S.rf⟩ ⟨(fun n f q => by cases q), hT⟩ ⟨Nat.le_refl _, Nat.le_refl _⟩ (Nat.le_refl _) (Nat.le_refl _) hl
    (fun H1 locs1 ls1 pc1 ins st1 hd hv X => x_end hx hb hr hlocks X hd hv)
end XS6
