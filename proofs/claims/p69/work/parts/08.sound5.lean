/-! ===== soundness: calls, and the walk of a whole method ===== -/
def x_okK (own : String) (i a b : Nat) (mt : List xM) (sp : Bool) (st : Bool) : Prop := ∃ M : xM, mt[a]? = some M ∧ Cond.methodLink own i (x_nm M) ∈ x_bw ∧ x_sta M = st ∧ (sp = true → (x_nm M).name = "<init>" ∧ x_rt M = none) ∧ (sp = false → (x_nm M).name ≠ "<init>") ∧ (parseMethodDescriptor (x_nm M).desc).map (fun d => d.parameters.length) = some b
def x_ok3 (own : String) (mt : List xM) (ins : Instr) (a b : Nat) : Prop := match ins with
  | .invokespecial i => (a = 9000 ∧ Cond.methodLink own i Lib.objectInit ∈ x_bw ∧ Cond.instanceMethod Lib.objectInit ∈ x_bw ∧ Cond.code Lib.objectInit ⟨#[0xb1]⟩ 1 none ∈ x_bw) ∨ (a < 9000 ∧ x_okK own i a b mt true false)
  | .invokevirtual i => (a = 9006 ∧ x_JW ∧ Cond.methodLink own i yJ0_length_8abf5 ∈ x_bw) ∨ (a = 9007 ∧ x_JW ∧ Cond.methodLink own i yJ0_charAt_5068e ∈ x_bw) ∨ (a < 9000 ∧ x_okK own i a b mt false false)
  | .invokestatic i => (a = 9001 ∧ Cond.methodLink own i Lib.Math.max.name ∈ x_bw ∧ Cond.static Lib.Math.max.name ∈ x_bw ∧ Cond.initialized "java/lang/Math" ∈ x_bw ∧ Cond.code Lib.Math.max.name Lib.Math.max.code 2 (some .int) ∈ x_bw)
      ∨ (a = 9002 ∧ Cond.methodLink own i Lib.Math.min.name ∈ x_bw ∧ Cond.static Lib.Math.min.name ∈ x_bw ∧ Cond.initialized "java/lang/Math" ∈ x_bw ∧ Cond.code Lib.Math.min.name Lib.Math.min.code 2 (some .int) ∈ x_bw)
      ∨ (a = 9003 ∧ Cond.methodLink own i Lib.Math.abs.name ∈ x_bw ∧ Cond.static Lib.Math.abs.name ∈ x_bw ∧ Cond.initialized "java/lang/Math" ∈ x_bw ∧ Cond.code Lib.Math.abs.name Lib.Math.abs.code 1 (some .int) ∈ x_bw)
      ∨ ((a = 9004 ∨ a = 9005) ∧ Cond.methodLink own i arraycopyName ∈ x_bw ∧ Cond.native arraycopyName ∈ x_bw ∧ Cond.static arraycopyName ∈ x_bw ∧ Cond.initialized "java/lang/System" ∈ x_bw)
      ∨ (a < 9000 ∧ x_okK own i a b mt false true)
  | _ => True
section XS5
variable {p : Program} {l : Launch} {e : Env} {R : Room} {s : State} {m : MethodId} {args : Array Value} {below : List Frame} {meth : Method} {c : Code} {H : Heap} {locs : List Loc} {cells slots : Nat} {Q : State → Prop}
variable {cc : ByteArray} {pc : Nat} {ls : Array Slot} {own : String} {y : MethodName} {ad : Nat → Nat} {nL : Nat} {L : xL} {st rest : List Value} {h : xH} {k z : Nat} {ins : Instr} {len a b base d : Nat} {D : va_G}
theorem x_nn {q : Int32} (hq : ¬ q < 0) : q.toInt = (q.toNatClampNeg : Int) := by
  have hz0 : (0 : Int) ≤ q.toInt := by
    have := Int32.not_lt.mp hq
    simpa using Int32.le_iff_toInt_le.mp this
  show q.toInt = ((q.toInt.toNat : Nat) : Int)
  omega
/-- System.arraycopy of numbers, told of any kind of row -/
theorem x_copy (hx : p.tables.exec = Jvm.exec) (hb : c.code = cc) (hml : c.maxLocals = ls.size) (X : x_At s m args own D base ad h H locs) (hR : x_Rm R d) {i : Nat} (hlink : Cond.methodLink own i arraycopyName ∈ x_bw) (hnat : Cond.native arraycopyName ∈ x_bw) (hstat : Cond.static arraycopyName ∈ x_bw) (hini : Cond.initialized "java/lang/System" ∈ x_bw)
    {α : Type} (inj : α → Value) (mk : (Nat → α) → xE) {q0 q1 n0 n1 t : Nat} {c0 c1 : ClassId} {f g : Nat → α} (h0 : H[ad q0]? = some (arrV c0 n0 (fun j => inj (f j)))) (hq1 : h[q1]? = some (mk g)) (h1 : H[ad q1]? = some (arrV c1 n1 (fun j => inj (g j)))) (htg : ∀ u, x_tg (mk u) = some t) (hmk : ∀ (cA : ClassId) (u : Nat → α) (H1 : Heap), va_at D vwCl (ad q1, x_ce ad cA (mk u)) H1 = (H1[ad q1]? = some (arrV cA n1 (fun j => inj (u j)))))
    {ty : FieldType} (ho0 : ArrOfT s c0 ty) (ho1 : ArrOfT s c1 ty) (hprim : refKind ty = false) (hfit : ∀ u : α, fits ty (inj u) = true) (hv : ∀ u : α, (∃ x, inj u = .int x) ∨ ∃ x, inj u = .long x)
    {sp dp n : Int32} (hno : ¬ (sp < 0 ∨ dp < 0 ∨ n < 0 ∨ n0 < sp.toNatClampNeg + n.toNatClampNeg ∨ n1 < dp.toNatClampNeg + n.toNatClampNeg)) (hcat : x_cat rest ≤ 8)
    (cop : copied (arrV c0 n0 (fun j => inj (f j))) (arrV c1 n1 (fun j => inj (g j))) sp dp n = arrV c1 n1 (fun j => inj (va_cpy f g sp.toNatClampNeg dp.toNatClampNeg n.toNatClampNeg j)))
    (hdg : decode cc pc = .ok (.invokestatic i, 3))
    (kk : ∀ (H1 : Heap) (locs1 : List Loc), x_At s m args own D base ad (h.set q1 (mk (va_cpy f g sp.toNatClampNeg dp.toNatClampNeg n.toNatClampNeg))) H1 locs1 → W p l e R s m args below meth c H1 locs1 k z Q (F0 m (pc + 3) ls (rest.map (x_cv ad)))) : W p l e R s m args below meth c H locs k z Q (F0 m pc ls (.int n :: .int dp :: .ref (ad q1) :: .int sp :: .ref (ad q0) :: rest.map (x_cv ad))) := by
  have g1 : ¬ sp < 0 := fun q => hno (Or.inl q)
  have g2 : ¬ dp < 0 := fun q => hno (Or.inr (Or.inl q))
  have g3 : ¬ n < 0 := fun q => hno (Or.inr (Or.inr (Or.inl q)))
  have g4 : ¬ n0 < sp.toNatClampNeg + n.toNatClampNeg := fun q => hno (Or.inr (Or.inr (Or.inr (Or.inl q))))
  have g5 : ¬ n1 < dp.toNatClampNeg + n.toNatClampNeg := fun q => hno (Or.inr (Or.inr (Or.inr (Or.inr q))))
  obtain ⟨hown, hts, hK, hbase, w, hS⟩ := id X
  intro T hT XX
  obtain ⟨-, k0, hk0, cm0, hkk0⟩ := ho0 n0 (fun j => inj (f j))
  obtain ⟨-, k1, hk1, cm1, hkk1⟩ := ho1 n1 (fun j => inj (g j))
  obtain ⟨vm', X', step⟩ := XX.arraycopy hx hown (hts _ hlink) (hts _ hnat) (hts _ hstat) (hts _ hini) (src := ad q0) (dst := ad q1) (cs := arrV c0 n0 (fun j => inj (f j))) (cd := arrV c1 n1 (fun j => inj (g j))) (srcPos := sp) (destPos := dp) (n := n) (by rw [hT]; exact h0) (by rw [hT]; exact h1)
    (fun _ h => by cases h) (fun _ h => by cases h) (fun h => by cases h) (fun h => by cases h) hk0 hk1 hkk0 hkk1 (by simp [hprim]) g1 g2 g3
    (by rw [x_nn g1, x_nn g3, arrV_size]; omega)
    (by rw [x_nn g2, x_nn g3, arrV_size]; omega)
    (fun vm₁ _ i hi => by
      have e : (arrV c0 n0 (fun j => inj (f j))).slots.getD (sp.toNatClampNeg + i) .null = inj (f (sp.toNatClampNeg + i)) := by
        rw [Array.getD_eq_getD_getElem?, arrV_read _ _ (by omega)]
        rfl
      refine ⟨?_, ?_⟩
      · rw [e]
        exact hfit _
      · rw [e]
        rcases hv (f (sp.toNatClampNeg + i)) with ⟨x, hx⟩ | ⟨x, hx⟩ <;> (rw [hx]; exact trivial))
    (g := F0 m pc ls (.int n :: .int dp :: .ref (ad q1) :: .int sp :: .ref (ad q0) :: rest.map (x_cv ad))) rfl (by rw [hml]) (rest := rest.map (x_cv ad)) rfl (by rw [hb]; exact hdg) (by have := hR.1; omega) (by
      rw [x_cat_map]
      have h2 := hR.2
      have : nativeFrameWords "java/lang/System" "arraycopy" 5 + 11 ≤ 29 := by decide
      show 2 * 0 + _ + _ ≤ _
      omega)
  rw [cop] at X' step
  have hl : ad q1 < H.size := (Array.getElem?_eq_some_iff.mp h1).1
  generalize hnew : arrV c1 n1 (fun j => inj (va_cpy f g sp.toNatClampNeg dp.toNatClampNeg n.toNatClampNeg j)) = new at X' step
  have hheap : ((T.setVm vm').setCell (ad q1) new).heap = H.setIfInBounds (ad q1) new := by rw [← hT]; rfl
  have oq : ∀ q : Nat, q ≠ ad q1 → (H.setIfInBounds (ad q1) new)[q]? = H[q]? := fun q hq => by simp [Array.getElem?_setIfInBounds, Ne.symm hq]
  have z1 : (H.setIfInBounds (ad q1) new).size = H.size := by simp
  have e1 : (H.setIfInBounds (ad q1) new)[ad q1]? = some new := by simp [Array.getElem?_setIfInBounds, hl]
  have hbq := x_base_of X hq1
  have w' := w.set (e := mk (va_cpy f g sp.toNatClampNeg dp.toNatClampNeg n.toNatClampNeg)) hq1 (by rw [htg, htg]) z1 oq (fun cB hB => by
    rw [hmk] at hB ⊢
    have hcc : arrV cB n1 (fun j => inj (g j)) = arrV c1 n1 (fun j => inj (g j)) := Option.some.inj (hB.symm.trans h1)
    have hcl : cB = c1 := congrArg Cell.cls hcc
    rw [e1, ← hnew, hcl])
  obtain ⟨t, a1, b1⟩ := kk _ _ ⟨hown, hts, hK, hbase, w', ⟨by rw [z1]; exact hS.1, fun q g1 g2 => by
      rw [oq q (fun e => g2 (by rw [e]; exact hbq))]
      exact hS.2.1 q g1 g2, fun q hq => by
      rcases List.mem_append.mp hq with h | h
      · exact hS.2.2 q h
      · obtain ⟨z, -, hz⟩ := List.mem_map.mp h
        rw [← hz]
        exact hbq⟩⟩ _ hheap X'
  exact ⟨t, step t a1, b1⟩
theorem x_cal_of {static : Bool} {a n : Nat} {st : List Value} {o} (hi : x_cal static a n st = some o) : ∃ (vs rest : List Value), x_cat rest ≤ 8 ∧ vs.length = n ∧ ((static = true ∧ o = .inr (.inl (a, vs, rest)) ∧ st = vs.reverse ++ rest) ∨ (static = false ∧ ∃ q, o = .inr (.inl (a, .ref q :: vs, rest)) ∧ st = vs.reverse ++ .ref q :: rest)) := by
  unfold x_cal at hi
  cases static with
  | true =>
    dsimp only [cond] at hi
    cases hb : (Nat.ble n st.length && Nat.ble (x_cat (st.drop n)) 8) with
    | false => rw [hb] at hi; cases hi
    | true =>
      rw [hb] at hi
      have q := Bool.and_eq_true_iff.mp hb
      have h1 := Nat.le_of_ble_eq_true q.1
      refine ⟨(st.take n).reverse, st.drop n, Nat.le_of_ble_eq_true q.2, by simp [h1], Or.inl ⟨rfl, (Option.some.inj hi).symm, ?_⟩⟩
      rw [List.reverse_reverse, List.take_append_drop]
  | false =>
    dsimp only [cond] at hi
    split at hi
    · rename_i q r hdr
      cases hb : Nat.ble (x_cat r) 8 with
      | false => rw [hb] at hi; cases hi
      | true =>
        rw [hb] at hi
        have hlen : n < st.length := by
          rcases Nat.lt_or_ge n st.length with h | h
          · exact h
          · rw [List.drop_eq_nil_of_le h] at hdr; cases hdr
        refine ⟨(st.take n).reverse, r, Nat.le_of_ble_eq_true hb, by simp; omega, Or.inr ⟨rfl, q, (Option.some.inj hi).symm, ?_⟩⟩
        rw [List.reverse_reverse, ← hdr, List.take_append_drop]
    · cases hi
/-- the third group: what the kit's own rows do, or a call -/
def x_N3 (p : Program) (l : Launch) (e : Env) (R : Room) (s : State) (m : MethodId) (args : Array Value) (below : List Frame) (meth : Method) (c : Code) (H : Heap) (locs : List Loc) (k z : Nat) (Q : State → Prop) (ls : Array Slot) (own : String) (D : va_G) (base : Nat) (ad : Nat → Nat) (L : xL) (st : List Value) (pc : Nat) (cc : ByteArray) (mt : List xM) (a b : Nat) (o : xC ⊕ ((Nat × List Value × List Value) ⊕ Option Value)) : Prop :=
  x_N2 p l e R s m args below meth c H locs k z Q ls own D base ad L st pc o ∨ ∃ (i : Nat) (vs rest : List Value), x_cat rest ≤ 8 ∧ vs.length = b ∧
    ((decode cc pc = .ok (.invokestatic i, 3) ∧ x_okK own i a b mt false true ∧ o = .inr (.inl (a, vs, rest)) ∧ st = vs.reverse ++ rest) ∨ (∃ q sp, ((sp = false ∧ decode cc pc = .ok (.invokevirtual i, 3)) ∨ (sp = true ∧ decode cc pc = .ok (.invokespecial i, 3))) ∧ x_okK own i a b mt sp false ∧ o = .inr (.inl (a, .ref q :: vs, rest)) ∧ st = vs.reverse ++ .ref q :: rest))
theorem x_beqF {a b : Nat} (h : a ≠ b) : Nat.beq a b = false := by
  cases e : Nat.beq a b with
  | false => rfl
  | true => exact absurd (Nat.eq_of_beq_eq_true e) h
set_option maxHeartbeats 4000000 in
theorem x_s3 (hx : p.tables.exec = Jvm.exec) (hb : c.code = cc) (hml : c.maxLocals = ls.size) (X : x_At s m args own D base ad h H locs) (hT : x_St s base ad) (hR : x_Rm R d) {mt : List xM} (hd : decode cc pc = .ok (ins, len)) (hlen : x_lok ins len) (hw : x_ok3 own mt ins a b) {o} (hi : x_ins3 ins pc a b L st h k z = some o) (hk : k ≤ R.cells) (hz : z ≤ R.slots) : x_N3 p l e R s m args below meth c H locs k z Q ls own D base ad L st pc cc mt a b o := by
  have hown := X.1
  have hts := X.2.1
  have hR1 := hR.1
  have hR2 := hR.2
  unfold x_ins3 at hi
  split at hi
  · cases hlen
    rcases hw with ⟨rfl, w1, w2, w3⟩ | ⟨w0, w1⟩
    · left
      rw [show Nat.beq 9000 9000 = true from rfl] at hi
      obtain ⟨q, r, rfl, hj⟩ := x_a1_of hi
      obtain ⟨hc8, hj2⟩ := x_bif hj
      have hc8 := Nat.le_of_ble_eq_true hc8
      refine x_N2.go hj2 (Nat.le_refl _) (Nat.le_refl _) fun _ _ kk => W.objInit hx hb hown (hts _ w1) (hts _ w2) (hts _ w3) rfl (by rw [hml]) rfl hd (by omega) (by rw [x_cat_map]; show 2 * 0 + _ + 12 ≤ _; omega) (kk H locs X)
    · right
      rw [x_beqF (by omega)] at hi
      dsimp only [cond] at hi
      obtain ⟨vs, rest, h8, hvl, hh⟩ := x_cal_of hi
      rcases hh with ⟨q, -⟩ | ⟨-, q, ho, hst⟩
      · cases q
      · exact ⟨_, vs, rest, h8, hvl, Or.inr ⟨q, true, Or.inr ⟨rfl, hd⟩, w1, ho, hst⟩⟩
  · cases hlen
    rcases hw with ⟨rfl, hJ, w1⟩ | ⟨rfl, hJ, w1⟩ | ⟨w0, w1⟩
    · left
      rw [show Nat.beq 9006 9006 = true from rfl] at hi
      obtain ⟨q, r, rfl, hj⟩ := x_a1_of hi
      obtain ⟨hc8, hj2⟩ := x_bif hj
      have hc8 := Bool.and_eq_true_iff.mp hc8
      have h8 := Nat.le_of_ble_eq_true hc8.1
      have hq := Nat.le_of_ble_eq_true hc8.2
      split at hj2
      · rename_i bs hbs
        obtain ⟨j, rfl⟩ := Nat.exists_eq_add_of_le hq
        rw [Nat.add_sub_cancel_left] at hbs
        have hjl := (List.getElem?_eq_some_iff.mp hbs).1
        have hbd : x_sbyt.getD j [] = bs := by rw [List.getD_eq_getElem?_getD, hbs]; rfl
        refine x_N2.go hj2 (Nat.le_refl _) (Nat.le_refl _) fun _ _ kk => ?_
        exact x_jcV (n := 0) (y := yJ0_length_8abf5) (av := []) (rest := r.map (x_cv ad)) (v := some (.int (Int32.ofNat (x_sbyt.getD j []).length))) X hT hx hb hml rfl (x_jrecv X hT hjl) (x_jlength hJ hjl) (x_jw hJ 8 rfl) (x_jw hJ 23 rfl) w1 (x_jw hJ 9 rfl) (x_jw hJ 10 rfl) ⟨by decide +kernel, by decide +kernel, by decide +kernel⟩ ⟨by omega, by omega⟩ ⟨hk, hz⟩ rfl (by rw [x_cat_map]; exact h8) hd (fun H1 locs1 X1 => by rw [hbd]; exact kk H1 locs1 X1)
      · cases hj2
    · left
      rw [show Nat.beq 9007 9006 = false from rfl, show Nat.beq 9007 9007 = true from rfl] at hi
      obtain ⟨q, i, r, rfl, hj⟩ := x_ai_of hi
      obtain ⟨hc8, hj2⟩ := x_bif hj
      have hc8 := Bool.and_eq_true_iff.mp hc8
      have h8 := Nat.le_of_ble_eq_true hc8.1
      have hq := Nat.le_of_ble_eq_true hc8.2
      split at hj2
      · rename_i bs hbs
        obtain ⟨hin, hj2⟩ := x_in_of hj2
        obtain ⟨j, rfl⟩ := Nat.exists_eq_add_of_le hq
        rw [Nat.add_sub_cancel_left] at hbs
        have hjl := (List.getElem?_eq_some_iff.mp hbs).1
        have hbd : x_sbyt.getD j [] = bs := by rw [List.getD_eq_getElem?_getD, hbs]; rfl
        refine x_N2.go hj2 (Nat.le_refl _) (Nat.le_refl _) fun _ _ kk => ?_
        exact x_jcV (n := 1) (y := yJ0_charAt_5068e) (av := [.int i]) (rest := r.map (x_cv ad)) (v := some (.int ((x_sbyt.getD j []).getD i.toNatClampNeg 0))) X hT hx hb hml rfl (x_jrecv X hT hjl) (x_jcharAt hJ hjl (by rw [hbd]; exact hin)) (x_jw hJ 11 rfl) (x_jw hJ 23 rfl) w1 (x_jw hJ 12 rfl) (x_jw hJ 13 rfl) ⟨by decide +kernel, by decide +kernel, by decide +kernel⟩ ⟨by omega, by omega⟩ ⟨hk, hz⟩ rfl (by rw [x_cat_map]; exact h8) hd (fun H1 locs1 X1 => by rw [hbd]; exact kk H1 locs1 X1)
      · cases hj2
    · right
      rw [x_beqF (by omega), x_beqF (by omega)] at hi
      dsimp only [cond] at hi
      obtain ⟨vs, rest, h8, hvl, hh⟩ := x_cal_of hi
      rcases hh with ⟨q, -⟩ | ⟨-, q, ho, hst⟩
      · cases q
      · exact ⟨_, vs, rest, h8, hvl, Or.inr ⟨q, false, Or.inl ⟨rfl, hd⟩, w1, ho, hst⟩⟩
  · cases hlen
    rcases hw with ⟨rfl, w1, w2, w3, w4⟩ | ⟨rfl, w1, w2, w3, w4⟩ | ⟨rfl, w1, w2, w3, w4⟩ | ⟨w0, w1, w2, w3, w4⟩ | ⟨w0, w1⟩
    · left
      rw [show Nat.beq 9001 9001 = true from rfl] at hi
      obtain ⟨x, y, r, rfl, hj⟩ := x_i2_of hi
      obtain ⟨hc8, hj2⟩ := x_bif hj
      have hc8 := Nat.le_of_ble_eq_true hc8
      exact x_N2.go hj2 (Nat.le_refl _) (Nat.le_refl _) fun _ _ kk => va_mmax hx hb hml hown (hts _ w1) (hts _ w2) (hts _ w3) (hts _ w4) (by omega) (by rw [x_cat_map]; omega) hk hz hd (kk H locs X)
    · left
      rw [show Nat.beq 9002 9001 = false from rfl, show Nat.beq 9002 9002 = true from rfl] at hi
      obtain ⟨x, y, r, rfl, hj⟩ := x_i2_of hi
      obtain ⟨hc8, hj2⟩ := x_bif hj
      have hc8 := Nat.le_of_ble_eq_true hc8
      exact x_N2.go hj2 (Nat.le_refl _) (Nat.le_refl _) fun _ _ kk => va_mmin hx hb hml hown (hts _ w1) (hts _ w2) (hts _ w3) (hts _ w4) (by omega) (by rw [x_cat_map]; omega) hk hz hd (kk H locs X)
    · left
      rw [show Nat.beq 9003 9001 = false from rfl, show Nat.beq 9003 9002 = false from rfl, show Nat.beq 9003 9003 = true from rfl] at hi
      obtain ⟨x, r, rfl, hj⟩ := x_i1_of hi
      obtain ⟨hc8, hj2⟩ := x_bif hj
      have hc8 := Nat.le_of_ble_eq_true hc8
      exact x_N2.go hj2 (Nat.le_refl _) (Nat.le_refl _) fun _ _ kk => va_mabs hx hb hml hown (hts _ w1) (hts _ w2) (hts _ w3) (hts _ w4) (by omega) (by rw [x_cat_map]; omega) hk hz hd (kk H locs X)
    · left
      rcases w0 with rfl | rfl
      · rw [show Nat.beq 9004 9001 = false from rfl, show Nat.beq 9004 9002 = false from rfl, show Nat.beq 9004 9003 = false from rfl, show Nat.beq 9004 9004 = true from rfl] at hi
        obtain ⟨a0, sp, a1, dp, n, r, rfl, hj⟩ := x_cp_of hi
        obtain ⟨hc8, hj2⟩ := x_bif hj
        have hc8 := Nat.le_of_ble_eq_true hc8
        obtain ⟨n0, f, hq0, hj3⟩ := x_ari_of hj2
        obtain ⟨n1, g, hq1, hj4⟩ := x_ari_of hj3
        split at hj4
        · cases hj4
        · rename_i hno
          obtain ⟨c0, h0, o0⟩ := x_cellI X hq0
          obtain ⟨c1, h1, o1⟩ := x_cellI X hq1
          exact x_N2.go hj4 (Nat.le_refl _) (Nat.le_refl _) fun _ _ kk => x_copy (t := 0) hx hb hml X hR w1 w2 w3 w4 (fun x => .int x) (fun u => .inl (0, n1, .inl u)) h0 hq1 h1 (fun u => rfl) (fun cA u H1 => rfl) (ty := .int) o0.1 o1.1 rfl (fun u => rfl) (fun u => Or.inl ⟨u, rfl⟩) hno hc8 (va_copied (fun z => .int z) c0 c1 f g (by omega)) hd kk
      · rw [show Nat.beq 9005 9001 = false from rfl, show Nat.beq 9005 9002 = false from rfl, show Nat.beq 9005 9003 = false from rfl, show Nat.beq 9005 9004 = false from rfl, show Nat.beq 9005 9005 = true from rfl] at hi
        obtain ⟨a0, sp, a1, dp, n, r, rfl, hj⟩ := x_cp_of hi
        obtain ⟨hc8, hj2⟩ := x_bif hj
        have hc8 := Nat.le_of_ble_eq_true hc8
        obtain ⟨n0, f, hq0, hj3⟩ := x_arl_of hj2
        obtain ⟨n1, g, hq1, hj4⟩ := x_arl_of hj3
        split at hj4
        · cases hj4
        · rename_i hno
          obtain ⟨c0, h0, o0⟩ := x_cellL X hq0
          obtain ⟨c1, h1, o1⟩ := x_cellL X hq1
          exact x_N2.go hj4 (Nat.le_refl _) (Nat.le_refl _) fun _ _ kk => x_copy (t := 1) hx hb hml X hR w1 w2 w3 w4 (fun x => .long x) (fun u => .inl (1, n1, .inr (.inl u))) h0 hq1 h1 (fun u => rfl) (fun cA u H1 => rfl) (ty := .long) o0.1 o1.1 rfl (fun u => rfl) (fun u => Or.inr ⟨u, rfl⟩) hno hc8 (va_copied (fun z => .long z) c0 c1 f g (by omega)) hd kk
    · right
      rw [x_beqF (by omega), x_beqF (by omega), x_beqF (by omega), x_beqF (by omega), x_beqF (by omega)] at hi
      dsimp only [cond] at hi
      obtain ⟨vs, rest, h8, hvl, hh⟩ := x_cal_of hi
      rcases hh with ⟨-, ho, hst⟩ | ⟨q, -⟩
      · exact ⟨_, vs, rest, h8, hvl, Or.inl ⟨hd, w1, ho, hst⟩⟩
      · cases q
  · cases hi
end XS5
