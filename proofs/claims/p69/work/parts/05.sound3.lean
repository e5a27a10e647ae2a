/-! ===== soundness: fields, arrays, new ===== -/
def x_okC : Prop := ∀ (ci : Nat) (C : String) (T : u_T) (N : Nat), (vwCl : List vw_C)[ci]? = some (C, T, N) → (∀ w ∈ u_ws C T N, w ∈ x_bw) ∧ (∀ k, k < N → parseFieldDescriptor (T k).2.2.1 = some (x_fty ci k)) ∧ (∀ a, a < N → ∀ b, b < N → a ≠ b → (T a).2.1 ≠ (T b).2.1) ∧ Cond.instantiable C N ∈ x_bw ∧ Cond.initialized C ∈ x_bw
def x_ok2 (own : String) (y : MethodName) (ins : Instr) (a b : Nat) : Prop := match ins with
  | .getfield i => ∃ (C : String) (T : u_T) (N : Nat), (vwCl : List vw_C)[a]? = some (C, T, N) ∧ b < N ∧ Cond.fieldLink own i (T b).1 (T b).2.1 (T b).2.2.1 ∈ x_bw
  | .putfield i => ∃ (C : String) (T : u_T) (N : Nat), (vwCl : List vw_C)[a]? = some (C, T, N) ∧ b < N ∧ Cond.fieldLink own i (T b).1 (T b).2.1 (T b).2.2.1 ∈ x_bw ∧ ((T b).2.2.2 = true → y.name = "<init>" ∧ (T b).1 = own)
  | .newarray t => Cond.arrayClass (newarray.typeOf t) ∈ x_bw
  | .anewarray i => ∃ (C : String) (T : u_T) (N : Nat), (vwCl : List vw_C)[a]? = some (C, T, N) ∧ Cond.classLink own i C ∈ x_bw ∧ C ∈ x_ao
  | .new i => ∃ (C : String) (T : u_T), (vwCl : List vw_C)[a]? = some (C, T, b) ∧ Cond.classLink own i C ∈ x_bw
  | _ => True
theorem x_K1 {D : va_G} {s : State} {cA : ClassId} {ty : FieldType} (hK : va_K D vwCl [] s) (h : ArrOfT s cA ty ∧ va_RA s cA ty) : va_K D vwCl [(cA, ty)] s := by
  refine ⟨hK.1, fun k q hq => ?_⟩
  have hz : k < 1 := (List.getElem?_eq_some_iff.mp hq).1
  rw [show k = 0 by omega] at hq
  cases hq
  exact h
theorem x_K2 {D : va_G} {s : State} {cA cB : ClassId} {ty : FieldType} (hK : va_K D vwCl [] s) (h : ArrOfT s cA ty ∧ va_RA s cA ty) (h2 : ArrOfT s cB ty ∧ va_RA s cB ty) : va_K D vwCl [(cA, ty), (cB, ty)] s := (x_K1 hK h).app (x_K1 hK h2)
theorem x_fit_of {ty : FieldType} {v : Value} (h : x_fit ty v = true) (ad : Nat → Nat) : narrow ty (x_cv ad v) = x_cv ad v ∧ fits ty (x_cv ad v) = true := by
  unfold x_fit at h
  split at h
  · exact ⟨rfl, rfl⟩
  · exact ⟨rfl, rfl⟩
  · rename_i x
    have h' : x = 0 ∨ x = 1 := by simpa using h
    rcases h' with rfl | rfl
    · show narrow .boolean (.int 0) = .int 0 ∧ fits .boolean (.int 0) = true
      exact ⟨by decide, by decide⟩
    · show narrow .boolean (.int 1) = .int 1 ∧ fits .boolean (.int 1) = true
      exact ⟨by decide, by decide⟩
  · exact ⟨rfl, rfl⟩
  · exact ⟨rfl, rfl⟩
  · cases h
theorem x_ft4 {c : Nat} {r : vw_C} (h : (vwCl : List vw_C)[c]? = some r) : x_ft (4 + c) = .object r.1 := by
  rw [Nat.add_comm]
  show FieldType.object _ = _
  unfold x_cls
  rw [h]
theorem x_ft4' {t : Nat} (h : 4 ≤ t) : ∃ C, x_ft t = .object C := by
  obtain ⟨c, rfl⟩ := Nat.exists_eq_add_of_le h
  rw [Nat.add_comm]
  exact ⟨_, rfl⟩
section XS2
variable {p : Program} {l : Launch} {e : Env} {R : Room} {s : State} {m : MethodId} {args : Array Value} {below : List Frame} {meth : Method} {c : Code} {H : Heap} {locs : List Loc} {cells slots : Nat} {Q : State → Prop}
variable {cc : ByteArray} {pc : Nat} {ls : Array Slot} {own : String} {y : MethodName} {ad : Nat → Nat} {nL : Nat} {L : xL} {st rest : List Value} {h : xH} {k z : Nat} {ins : Instr} {len a b base : Nat} {D : va_G}
/-- what is known where a step begins -/
def x_At (s : State) (m : MethodId) (args : Array Value) (own : String) (D : va_G) (base : Nat) (ad : Nat → Nat) (h : xH) (H : Heap) (locs : List Loc) : Prop :=
  s.vm.findClass own = some m.cls ∧ (∀ w ∈ x_bw, w.before args s = true) ∧ va_K D vwCl [] s ∧ base ≤ s.heap.size ∧ x_W ad base D h s H ∧ va_S (fun q => base ≤ q) s.heap H locs
/-- a field is written -/
theorem x_put (hC : x_okC) (hx : p.tables.exec = Jvm.exec) (hb : c.code = cc) (hmn : y.name = "<init>" → meth.name = "<init>") (X : x_At s m args own D base ad h H locs) {i q : Nat} {fs : List Value} {v : Value} {C : String} {T : u_T} {N : Nat} (hq : h[q]? = some (.inr (a, fs))) (hc : (vwCl : List vw_C)[a]? = some (C, T, N)) (hbN : b < N) (hlink : Cond.fieldLink own i (T b).1 (T b).2.1 (T b).2.2.1 ∈ x_bw) (hfin : (T b).2.2.2 = true → y.name = "<init>" ∧ (T b).1 = own) (hf : x_fit (x_fty a b) v = true) (hlt : b < fs.length)
    (hdg : decode cc pc = .ok (.putfield i, 3)) (kk : ∀ (H1 : Heap) (locs1 : List Loc), x_At s m args own D base ad (h.set q (.inr (a, fs.set b v))) H1 locs1 → W p l e R s m args below meth c H1 locs1 cells slots Q (F0 m (pc + 3) ls rest)) : W p l e R s m args below meth c H locs cells slots Q (F0 m pc ls (x_cv ad v :: .ref (ad q) :: rest)) := by
  obtain ⟨hown, hts, hK, hbase, w, hS⟩ := X
  obtain ⟨hin, hty, hnm, -, -⟩ := hC a C T N hc
  obtain ⟨-, -, -, cs, hP, -⟩ := id w
  obtain ⟨hn, hft⟩ := x_fit_of hf ad
  have he := x_cw_get (ad := ad) (cs := cs) hq
  have hap := va_apart (own := own) hts hin (x_fty a) hty hnm hK hc
  obtain ⟨r, h1, cell, q1, q2, q3, q4⟩ := hP q _ he
  have hr : r = (C, T, N) := Option.some.inj (h1.symm.trans hc)
  subst hr
  obtain ⟨hSl, hfc, kC, hkC, hkind⟩ := hK.1 a _ hc
  obtain ⟨cf, kf, fi, f, hi, hsl⟩ := hSl b hbN
  have hst := (u_facts hfc hkC (u_lays hts hin hbN) hi).1
  have hd := hty b hbN
  have fin : ∀ (H' : Heap), H'[ad q]? = some (cell.setSlot f.slot (x_cv ad v)) → H'.size = H.size → (∀ x, x ≠ ad q → H'[x]? = H[x]?) → W p l e R s m args below meth c H' (locs ++ [⟨ad q, f.slot⟩]) cells slots Q (F0 m (pc + 3) ls rest) := by
    intro H' e1 e2 e3
    refine kk H' _ ⟨hown, hts, hK, hbase, w.set hq rfl e2 e3 (fun cA _ => ?_), hS.put e2 e3 ?_⟩
    · rw [hsl] at e1
      refine ⟨_, hc, t_OB.to (V := updV (vp_V (fs.map (x_cv ad))) b (x_cv ad v)) ⟨_, e1, q2, q3, t_set q4 hap hbN (x_cv ad v)⟩ (fun j _ => ?_)⟩
      rw [vp_updV_set (by rw [List.length_map]; exact hlt), List.map_set]
    · have := (w.at hq).2.1
      show base ≤ ad q
      omega
  cases hfe : (T b).2.2.2 with
  | false =>
    have hlay := hts _ (hin _ (u_in_lay hbN))
    unfold u_lay at hlay
    rw [if_neg (by rw [hfe]; decide)] at hlay
    have h6 := u_store hfc hkC hkind hlay hi hd hn hft
    exact W.putK hx hb (f := f) ⟨hown, hts _ hlink, ⟨_, _, _, hi⟩, hst⟩ (by rw [q2]; exact h6) q1 q3 (by rw [hsl]; exact k2_hasslot (q4 b hbN)) rfl rfl hdg fin
  | true =>
    obtain ⟨hy, hdecl⟩ := hfin hfe
    have hlay := hts _ (hin _ (u_in_lay hbN))
    unfold u_lay at hlay
    rw [if_pos hfe] at hlay
    have hcf : m.cls = cf := by
      obtain ⟨_, _, c', _, _, _, -, -, hf', -, -, -, hown2, -⟩ := Cond.laysFinal_spec hlay
      have e1 : c' = cf := by have := hi.symm.trans hf'; simp at this; exact this.1.symm
      rw [hdecl] at hown2
      rw [← e1]; exact Option.some.inj (hown.symm.trans hown2)
    have h6 := u_fits hfc hkC hkind (Or.inr hlay) hi hd hn hft
    exact W.putFinK hx hb hown (hts _ hlink) hi hst hcf (hmn hy) (by rw [q2]; exact h6) q1 q3 (by rw [hsl]; exact k2_hasslot (q4 b hbN)) rfl rfl hdg fin
theorem x_base_of (X : x_At s m args own D base ad h H locs) {q : Nat} {e0 : xE} (hq : h[q]? = some e0) : base ≤ ad q := by
  have := (X.2.2.2.2.1.at hq).2.1
  omega
/-- a cell that is an array is written anew -/
theorem x_arr (X : x_At s m args own D base ad h H locs) {q j : Nat} {e0 e1 : xE} (hq : h[q]? = some e0) (ht : x_tg e1 = x_tg e0) {H1 : Heap} (z1 : H1.size = H.size) (o1 : ∀ x, x ≠ ad q → H1[x]? = H[x]?) (he : ∀ cA : ClassId, va_at D vwCl (ad q, x_ce ad cA e0) H → va_at D vwCl (ad q, x_ce ad cA e1) H1) : x_At s m args own D base ad (h.set q e1) H1 (locs ++ [⟨ad q, j⟩]) := by
  have hbq := x_base_of X hq
  obtain ⟨hown, hts, hK, hbase, w, hS⟩ := X
  exact ⟨hown, hts, hK, hbase, w.set hq ht z1 o1 he, hS.put z1 o1 hbq⟩
theorem x_upd_i (cA : ClassId) (n i : Nat) (f : Nat → Int32) (x : Int32) : (vp_cell cA (n, .inl f)).setSlot i (.int x) = vp_cell cA (n, .inl (upd f i x)) := by
  rw [vp_cell_i, vp_cell_i, arrV_store]
  congr 2
  funext q
  by_cases hq : q = i
  · subst hq; simp [updV, upd]
  · simp [updV, upd, hq]
theorem x_upd_l (cA : ClassId) (n i : Nat) (f : Nat → Int64) (x : Int64) : (vp_cell cA (n, .inr (.inl f))).setSlot i (.long x) = vp_cell cA (n, .inr (.inl (vp_updL f i x))) := by
  rw [vp_cell_l, vp_cell_l, arrV_store]
  congr 2
  funext q
  by_cases hq : q = i
  · subst hq; simp [updV, vp_updL]
  · simp [updV, vp_updL, hq]
theorem x_upd_q (cA : ClassId) (n i : Nat) (f : Nat → Option Nat) (x : Nat) : (vp_cell cA (n, .inr (.inr (.inr (.inr f))))).setSlot i (.ref x) = vp_cell cA (n, .inr (.inr (.inr (.inr (va_up f i (some x)))))) := by
  rw [vp_cell_q, vp_cell_q, arrV_store]
  congr 2
  funext q
  by_cases hq : q = i
  · subst hq; simp [updV, va_up, va_rf]
  · simp [updV, va_up, hq]
/-- what a step of this kind leaves to be shown -/
def x_N2 (p : Program) (l : Launch) (e : Env) (R : Room) (s : State) (m : MethodId) (args : Array Value) (below : List Frame) (meth : Method) (c : Code) (H : Heap) (locs : List Loc) (k z : Nat) (Q : State → Prop) (ls : Array Slot) (own : String) (D : va_G) (base : Nat) (ad : Nat → Nat) (L : xL) (st : List Value) (pc : Nat) (o : xC ⊕ ((Nat × List Value × List Value) ⊕ Option Value)) : Prop :=
  ∃ (pc' : Nat) (st' : List Value) (h' : xH) (k' z' : Nat), o = .inl (pc', L, st', h', k', z') ∧ k ≤ k' ∧ z ≤ z' ∧ (k' ≤ R.cells → z' ≤ R.slots → (∀ (H1 : Heap) (locs1 : List Loc), x_At s m args own D base ad h' H1 locs1 → W p l e R s m args below meth c H1 locs1 k' z' Q (F0 m pc' ls (st'.map (x_cv ad)))) → W p l e R s m args below meth c H locs k z Q (F0 m pc ls (st.map (x_cv ad))))
theorem x_N2.go {pc' : Nat} {st' : List Value} {h' : xH} {k' z' : Nat} {o} (hi : x_go pc' L st' h' k' z' = some o) (h1 : k ≤ k') (h2 : z ≤ z') (kk : k' ≤ R.cells → z' ≤ R.slots → (∀ (H1 : Heap) (locs1 : List Loc), x_At s m args own D base ad h' H1 locs1 → W p l e R s m args below meth c H1 locs1 k' z' Q (F0 m pc' ls (st'.map (x_cv ad)))) → W p l e R s m args below meth c H locs k z Q (F0 m pc ls (st.map (x_cv ad)))) : x_N2 p l e R s m args below meth c H locs k z Q ls own D base ad L st pc o :=
  ⟨pc', st', h', k', z', (Option.some.inj hi).symm, h1, h2, kk⟩
/-- the String constants -/
def x_St (s : State) (base : Nat) (ad : Nat → Nat) : Prop :=
  (∀ j : Nat, j < x_sbyt.length → va_O "java/lang/String" (ad (x_str + j)) (fun q => base ≤ q) s s.heap ∧ va_OF "java/lang/String" "coder" "B" (.int 0) (ad (x_str + j)) (fun q => base ≤ q) s s.heap ∧ va_OF "java/lang/String" "value" "[B" (.ref (ad (x_val + j))) (ad (x_str + j)) (fun q => base ≤ q) s s.heap ∧ va_T .byte (ad (x_val + j)) (x_sbyt.getD j []).length (fun i => .int ((x_sbyt.getD j []).getD i 0)) (fun q => base ≤ q) s s.heap) ∧
  va_Z "java/lang/String" "COMPACT_STRINGS" "Z" (.int 1) (fun q => base ≤ q) s s.heap ∧ va_Zq "jdk/internal/util/Preconditions" "SIOOBE_FORMATTER" "Ljava/util/function/BiFunction;" (fun q => base ≤ q) s s.heap ∧
  ∀ (j : Nat) (own : String) (k : Nat) (tx : String), x_lit[j]? = some (own, k, tx) → vk_R own k tx (ad (x_str + j)) s
theorem x_St.next {U : State} (hT : x_St s base ad) (hU : U.heap = H) (hW : s.WarmedH U.vm) (hS : va_S (fun q => base ≤ q) s.heap H locs) : x_St U base ad := by
  have hk := hS.2.1
  obtain ⟨h1, h2, h3, h4⟩ := hT
  unfold x_St
  rw [hU]
  refine ⟨fun j hj => ?_, va_Z.moved hW.alike (h2.kept hk), va_Zq.moved hW.alike (h3.kept hk), fun j own k tx e => vk_R.warm hW (h4 j own k tx e)⟩
  obtain ⟨a, b, c, d⟩ := h1 j hj
  exact ⟨va_O.moved hW.alike (a.kept hk), va_OF.moved hW.alike (b.kept hk), va_OF.moved hW.alike (c.kept hk), va_T.moved hW.alike (d.kept hk)⟩
theorem x_St.same {U : State} (hU : U.heap = s.heap) (hv : U.vm = s.vm) (hT : x_St s base ad) : x_St U base ad := by
  have ha : s.vm.Alike U.vm := by rw [hv]; exact Vm.Alike.refl s.vm
  obtain ⟨h1, h2, h3, h4⟩ := hT
  unfold x_St
  rw [hU]
  refine ⟨fun j hj => ?_, va_Z.moved ha h2, va_Zq.moved ha h3, fun j own k tx e => vk_R.same hv (h4 j own k tx e)⟩
  obtain ⟨a, b, c, d⟩ := h1 j hj
  exact ⟨va_O.moved ha a, va_OF.moved ha b, va_OF.moved ha c, va_T.moved ha d⟩
/-- the script, and the String constants -/
def x_Sc (S : Option xS) (s : State) (base : Nat) (ad : Nat → Nat) : Prop := (∀ (n : Nat) (f : Nat → Int32), S = some (n, f) → va_X (ad x_scr) n f s s.heap ∧ ad x_scr < s.heap.size ∧ ¬ base ≤ ad x_scr) ∧ x_St s base ad
theorem x_pushAt (X : x_At s m args own D base ad h H locs) {e1 : xE} {cA : ClassId} {H1 : Heap} (hl : ¬ x_scr ≤ h.length) (z1 : H1.size = H.size + 1) (o1 : ∀ q, q < H.size → H1[q]? = H[q]?) (he : va_at D vwCl (H.size, x_ce ad cA e1) H1) (ht : ∀ t, x_tg e1 = some t → ArrOfT s cA (x_ft t) ∧ va_RA s cA (x_ft t)) : x_At s m args own D base ad (h ++ [e1]) H1 locs ∧ ad h.length = H.size := by
  obtain ⟨hown, hts, hK, hbase, w, hS⟩ := X
  obtain ⟨w', ha⟩ := w.push hl z1 o1 he ht
  exact ⟨⟨hown, hts, hK, hbase, w', ⟨Nat.le_trans hS.1 (by omega), fun x h1 h2 => (o1 x (Nat.lt_of_lt_of_le h1 hS.1)).trans (hS.2.1 x h1 h2), hS.2.2⟩⟩, ha⟩
/-- new rows of numbers -/
theorem x_newa (hx : p.tables.exec = Jvm.exec) (hb : c.code = cc) (X : x_At s m args own D base ad h H locs) {atype : ArrayType} {n : Int32} {a0 : vp_A} {t : Nat} (harr : Cond.arrayClass (newarray.typeOf atype) ∈ x_bw) (hnq : ¬ (n < 0 ∨ 60000000 < n.toNatClampNeg ∨ x_scr ≤ h.length)) (hcb : componentBytes (newarray.typeOf atype) ≤ 8) (hft : x_ft t = newarray.typeOf atype)
    (ha : ∀ cA : ClassId, va_at D vwCl (H.size, x_ce ad cA (.inl (t, a0))) = fun H1 => H1[H.size]? = some (arrV cA n.toNatClampNeg (fun _ => defaultValue (newarray.typeOf atype)))) (hdg : decode cc pc = .ok (.newarray atype, 2)) (hc1 : k + 1 ≤ R.cells) (hs1 : z + n.toNatClampNeg ≤ R.slots)
    (kk : ∀ (H1 : Heap) (locs1 : List Loc), x_At s m args own D base ad (h ++ [.inl (t, a0)]) H1 locs1 → W p l e R s m args below meth c H1 locs1 (k + 1) (z + n.toNatClampNeg) Q (F0 m (pc + 2) ls (.ref (ad h.length) :: rest))) : W p l e R s m args below meth c H locs k z Q (F0 m pc ls (.int n :: rest)) := by
  obtain ⟨hown, hts, hK, hbase, w, hS⟩ := id X
  have g1 : ¬ n < 0 := fun q => hnq (Or.inl q)
  have g2 : ¬ 60000000 < n.toNatClampNeg := fun q => hnq (Or.inr (Or.inl q))
  have g3 : ¬ x_scr ≤ h.length := fun q => hnq (Or.inr (Or.inr q))
  refine va_newaK hx hb (hts _ harr) rfl hdg rfl g1 rfl (Nat.le_trans (Nat.mul_le_mul_left _ hcb) (by omega)) hc1 hs1 rfl fun H1 cA e1 z1 o1 hAr hNm => ?_
  obtain ⟨X', hadd⟩ := x_pushAt (e1 := .inl (t, a0)) (cA := cA) X g3 z1 o1 (by rw [ha]; exact e1) (fun t' ht' => by
    cases ht'
    rw [hft]
    exact ⟨hAr, by cases atype <;> exact hNm⟩)
  have := kk H1 locs X'
  rw [hadd] at this
  exact this
/-- a new row of references -/
theorem x_newq (hx : p.tables.exec = Jvm.exec) (hb : c.code = cc) (X : x_At s m args own D base ad h H locs) {n : Int32} {i : Nat} {C : String} {T : u_T} {N : Nat} (hc : (vwCl : List vw_C)[a]? = some (C, T, N)) (hcl : Cond.classLink own i C ∈ x_bw) (hov : C ∈ x_ao) (hnq : ¬ (n < 0 ∨ 60000000 < n.toNatClampNeg ∨ x_scr ≤ h.length)) (hdg : decode cc pc = .ok (.anewarray i, 3)) (hc1 : k + 1 ≤ R.cells) (hs1 : z + n.toNatClampNeg ≤ R.slots)
    (kk : ∀ (H1 : Heap) (locs1 : List Loc), x_At s m args own D base ad (h ++ [.inl (4 + a, n.toNatClampNeg, .inr (.inr (.inr (.inr (fun _ => none)))))]) H1 locs1 → W p l e R s m args below meth c H1 locs1 (k + 1) (z + n.toNatClampNeg) Q (F0 m (pc + 3) ls (.ref (ad h.length) :: rest))) : W p l e R s m args below meth c H locs k z Q (F0 m pc ls (.int n :: rest)) := by
  obtain ⟨hown, hts, hK, hbase, w, hS⟩ := id X
  have g1 : ¬ n < 0 := fun q => hnq (Or.inl q)
  have g2 : ¬ 60000000 < n.toNatClampNeg := fun q => hnq (Or.inr (Or.inl q))
  have g3 : ¬ x_scr ≤ h.length := fun q => hnq (Or.inr (Or.inr q))
  obtain ⟨-, -, -, -, -, -, hao⟩ := id w
  refine W.anew hx hb hown (hts _ hcl) (va_AO.use (hao _ hov)) rfl hdg rfl g1 (by omega) hc1 hs1 fun cA kA comp f1 f2 f3 f4 => ?_
  generalize hH1 : H.push ({ cls := cA, slots := Array.replicate n.toNatClampNeg .null, vm := .none } : Cell) = H1
  have z1 : H1.size = H.size + 1 := by rw [← hH1, Array.size_push]
  have e1 : H1[H.size]? = some (arrV cA n.toNatClampNeg (fun _ => .null)) := by rw [← hH1, Array.getElem?_push_size, ← arrV_new]
  have o1 : ∀ q : Nat, q < H.size → H1[q]? = H[q]? := fun q hq => by rw [← hH1, Array.getElem?_push, if_neg (Nat.ne_of_lt hq)]
  have hAr : ArrOfT s cA (.object C) := fun N z => ⟨(fun k h => by cases h), kA, f2, comp, f3⟩
  obtain ⟨X', hadd⟩ := x_pushAt (e1 := .inl (4 + a, n.toNatClampNeg, .inr (.inr (.inr (.inr (fun _ => none)))))) (cA := cA) X g3 z1 o1 (by
    show H1[H.size]? = some (vp_cell _ _)
    rw [vp_cell_q]
    exact e1) (fun t' ht' => by
    cases ht'
    rw [x_ft4 hc]
    exact ⟨hAr, kA, comp, f2, f3, f4, f1⟩)
  have := kk H1 locs X'
  rw [hadd] at this
  exact this
/-- a new object -/
theorem x_new (hC : x_okC) (hx : p.tables.exec = Jvm.exec) (hb : c.code = cc) (X : x_At s m args own D base ad h H locs) {i : Nat} {C : String} {T : u_T} (hc : (vwCl : List vw_C)[a]? = some (C, T, b)) (hcl : Cond.classLink own i C ∈ x_bw) (g3 : ¬ x_scr ≤ h.length) (hdg : decode cc pc = .ok (.new i, 3)) (hc1 : k + 1 ≤ R.cells) (hs1 : z + b ≤ R.slots)
    (kk : ∀ (H1 : Heap) (locs1 : List Loc), x_At s m args own D base ad (h ++ [.inr (a, (List.range b).map (fun j => defaultValue (x_fty a j)))]) H1 locs1 → W p l e R s m args below meth c H1 locs1 (k + 1) (z + b) Q (F0 m (pc + 3) ls (.ref (ad h.length) :: rest))) : W p l e R s m args below meth c H locs k z Q (F0 m pc ls rest) := by
  obtain ⟨hown, hts, hK, hbase, w, hS⟩ := id X
  obtain ⟨hin, hty, hnm, hins, hini⟩ := hC a C T b hc
  have hKn := hK.1 a _ hc
  refine W.newcK hx hb hown (hts _ hcl) (hts _ hins) (hts _ hini) rfl hdg hc1 hs1 hKn.2.1 rfl fun H1 kC hkC e1 z1 o1 => ?_
  obtain ⟨X', hadd⟩ := x_pushAt (e1 := .inr (a, (List.range b).map (fun j => defaultValue (x_fty a j)))) (cA := 0) X g3 z1 o1 (by
    refine ⟨_, hc, (u_born (x_fty a) hts hin hKn hkC e1 hty).to (fun j hj => ?_)⟩
    show defaultValue (x_fty a j) = vp_V (((List.range b).map (fun j => defaultValue (x_fty a j))).map (x_cv ad)) j
    unfold vp_V
    rw [List.getD_eq_getElem?_getD, List.getElem?_map, List.getElem?_map, List.getElem?_range hj]
    show defaultValue (x_fty a j) = x_cv ad (defaultValue (x_fty a j))
    cases x_fty a j <;> rfl) (fun t' ht' => by cases ht')
  have := kk H1 locs X'
  rw [hadd] at this
  exact this
end XS2
