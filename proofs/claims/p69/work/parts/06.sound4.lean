/-! ===== soundness of the second group, as one row ===== -/
section XS4
variable {p : Program} {l : Launch} {e : Env} {R : Room} {s : State} {m : MethodId} {args : Array Value} {below : List Frame} {meth : Method} {c : Code} {H : Heap} {locs : List Loc} {cells slots : Nat} {Q : State → Prop}
variable {cc : ByteArray} {pc : Nat} {ls : Array Slot} {own : String} {y : MethodName} {ad : Nat → Nat} {nL : Nat} {L : xL} {st rest : List Value} {h : xH} {k z : Nat} {ins : Instr} {len a b base : Nat} {D : va_G}
theorem x_cellOf (X : x_At s m args own D base ad h H locs) {q t : Nat} {x : vp_A} (hq : h[q]? = some (.inl (t, x))) : ∃ (cA : ClassId), va_at D vwCl (ad q, x_ce ad cA (.inl (t, x))) H ∧ ArrOfT s cA (x_ft t) ∧ va_RA s cA (x_ft t) := by
  obtain ⟨hown, hts, hK, hbase, w, hS⟩ := X
  obtain ⟨-, -, -, cs, hP, h5, -⟩ := w
  exact ⟨cs q, hP q _ (x_cw_get hq), h5 q _ t hq rfl⟩
theorem x_cellI (X : x_At s m args own D base ad h H locs) {q t n : Nat} {f : Nat → Int32} (hq : h[q]? = some (.inl (t, n, .inl f))) : ∃ (cA : ClassId), H[ad q]? = some (vp_cell cA (n, .inl f)) ∧ ArrOfT s cA (x_ft t) ∧ va_RA s cA (x_ft t) := x_cellOf X hq
theorem x_cellL (X : x_At s m args own D base ad h H locs) {q t n : Nat} {f : Nat → Int64} (hq : h[q]? = some (.inl (t, n, .inr (.inl f)))) : ∃ (cA : ClassId), H[ad q]? = some (vp_cell cA (n, .inr (.inl f))) ∧ ArrOfT s cA (x_ft t) ∧ va_RA s cA (x_ft t) := x_cellOf X hq
theorem x_cellF (X : x_At s m args own D base ad h H locs) {q t n : Nat} {f : Nat → UInt32} (hq : h[q]? = some (.inl (t, n, .inr (.inr (.inl f))))) : ∃ (cA : ClassId), H[ad q]? = some (vp_cell cA (n, .inr (.inr (.inl f)))) ∧ ArrOfT s cA (x_ft t) ∧ va_RA s cA (x_ft t) := x_cellOf X hq
theorem x_cellD (X : x_At s m args own D base ad h H locs) {q t n : Nat} {f : Nat → UInt64} (hq : h[q]? = some (.inl (t, n, .inr (.inr (.inr (.inl f)))))) : ∃ (cA : ClassId), H[ad q]? = some (vp_cell cA (n, .inr (.inr (.inr (.inl f))))) ∧ ArrOfT s cA (x_ft t) ∧ va_RA s cA (x_ft t) := x_cellOf X hq
theorem x_cellQ (X : x_At s m args own D base ad h H locs) {q t n : Nat} {f : Nat → Option Nat} (hq : h[q]? = some (.inl (t, n, .inr (.inr (.inr (.inr f)))))) : ∃ (cA : ClassId), H[ad q]? = some (vp_cell cA (n, .inr (.inr (.inr (.inr (fun j => (f j).map ad)))))) ∧ ArrOfT s cA (x_ft t) ∧ va_RA s cA (x_ft t) := x_cellOf X hq
theorem x_wrI (X : x_At s m args own D base ad h H locs) {q t n i : Nat} {f : Nat → Int32} {cA : ClassId} {x : Int32} (hq : h[q]? = some (.inl (t, n, .inl f))) (hat : H[ad q]? = some (vp_cell cA (n, .inl f))) {H1 : Heap} (e1 : H1[ad q]? = some ((vp_cell cA (n, .inl f)).setSlot i (.int x))) (z1 : H1.size = H.size) (o1 : ∀ y, y ≠ ad q → H1[y]? = H[y]?) : x_At s m args own D base ad (h.set q (.inl (t, n, .inl (upd f i x)))) H1 (locs ++ [⟨ad q, i⟩]) := by
  refine x_arr (e1 := (.inl (t, n, .inl (upd f i x)))) X hq rfl z1 o1 (fun cB hB => ?_)
  have hcc : vp_cell cB (n, .inl f) = vp_cell cA (n, .inl f) := Option.some.inj ((show H[ad q]? = some (vp_cell cB (n, .inl f)) from hB).symm.trans hat)
  show H1[ad q]? = some (vp_cell cB (n, .inl (upd f i x)))
  rw [e1, ← x_upd_i, hcc]
theorem x_wrL (X : x_At s m args own D base ad h H locs) {q t n i : Nat} {f : Nat → Int64} {cA : ClassId} {x : Int64} (hq : h[q]? = some (.inl (t, n, .inr (.inl f)))) (hat : H[ad q]? = some (vp_cell cA (n, .inr (.inl f)))) {H1 : Heap} (e1 : H1[ad q]? = some ((vp_cell cA (n, .inr (.inl f))).setSlot i (.long x))) (z1 : H1.size = H.size) (o1 : ∀ y, y ≠ ad q → H1[y]? = H[y]?) : x_At s m args own D base ad (h.set q (.inl (t, n, .inr (.inl (vp_updL f i x))))) H1 (locs ++ [⟨ad q, i⟩]) := by
  refine x_arr (e1 := (.inl (t, n, .inr (.inl (vp_updL f i x))))) X hq rfl z1 o1 (fun cB hB => ?_)
  have hcc : vp_cell cB (n, .inr (.inl f)) = vp_cell cA (n, .inr (.inl f)) := Option.some.inj ((show H[ad q]? = some (vp_cell cB (n, .inr (.inl f))) from hB).symm.trans hat)
  show H1[ad q]? = some (vp_cell cB (n, .inr (.inl (vp_updL f i x))))
  rw [e1, ← x_upd_l, hcc]
theorem x_wrQ (X : x_At s m args own D base ad h H locs) {q t n i x : Nat} {f : Nat → Option Nat} {cA : ClassId} (hq : h[q]? = some (.inl (t, n, .inr (.inr (.inr (.inr f)))))) (hat : H[ad q]? = some (vp_cell cA (n, .inr (.inr (.inr (.inr (fun j => (f j).map ad))))))) {H1 : Heap} (e1 : H1[ad q]? = some ((vp_cell cA (n, .inr (.inr (.inr (.inr (fun j => (f j).map ad)))))).setSlot i (.ref (ad x)))) (z1 : H1.size = H.size) (o1 : ∀ y, y ≠ ad q → H1[y]? = H[y]?) : x_At s m args own D base ad (h.set q (.inl (t, n, .inr (.inr (.inr (.inr (va_up f i (some x)))))))) H1 (locs ++ [⟨ad q, i⟩]) := by
  refine x_arr (e1 := (.inl (t, n, .inr (.inr (.inr (.inr (va_up f i (some x)))))))) X hq rfl z1 o1 (fun cB hB => ?_)
  have hcc : vp_cell cB (n, .inr (.inr (.inr (.inr (fun j => (f j).map ad))))) = vp_cell cA (n, .inr (.inr (.inr (.inr (fun j => (f j).map ad))))) := Option.some.inj ((show H[ad q]? = some (vp_cell cB (n, .inr (.inr (.inr (.inr (fun j => (f j).map ad)))))) from hB).symm.trans hat)
  have e2 : (fun j => (va_up f i (some x) j).map ad) = va_up (fun j => (f j).map ad) i (some (ad x)) := by
    funext j
    unfold va_up
    split <;> rfl
  show H1[ad q]? = some (vp_cell cB (n, .inr (.inr (.inr (.inr (fun j => (va_up f i (some x) j).map ad))))))
  rw [e1, e2, ← x_upd_q, hcc]
theorem x_in_arr {i : Int32} {n : Nat} {cA : ClassId} {f : Nat → Value} (hin : vp_in i n) : ¬ (i < 0 ∨ (arrV cA n f).slots.size ≤ i.toNatClampNeg) := by
  rw [arrV_size]
  exact hin
set_option maxHeartbeats 4000000 in
theorem x_s2 (hC : x_okC) (hx : p.tables.exec = Jvm.exec) (hb : c.code = cc) (hmn : y.name = "<init>" → meth.name = "<init>") (X : x_At s m args own D base ad h H locs) {S : Option xS} (hSc : x_Sc S s base ad) (hd : decode cc pc = .ok (ins, len)) (hlen : x_lok ins len) (hw : x_ok2 own y ins a b) {o} (hi : x_ins2 S ins pc a b L st h k z = some o) : x_N2 p l e R s m args below meth c H locs k z Q ls own D base ad L st pc o := by
  unfold x_ins2 at hi
  split at hi
  -- getfield
  · cases hlen
    obtain ⟨q, r, rfl, hj⟩ := x_a1_of hi
    obtain ⟨ci, fs, hq, hj⟩ := x_ob_of hj
    obtain ⟨hcb, hj2⟩ := x_bif hj
    have hci := Nat.eq_of_beq_eq_true hcb
    subst hci
    split at hj2
    · rename_i v hv
      obtain ⟨C, T, N, hc, hbN, hlink⟩ := hw
      refine x_N2.go hj2 (Nat.le_refl _) (Nat.le_refl _) fun _ _ kk => ?_
      obtain ⟨hown, hts, hK, hbase, w, hS⟩ := id X
      obtain ⟨-, -, -, cs, hP, -⟩ := w
      exact va_get hx hb hts (hC _ C T N hc).1 hown hK hP q (x_cw_get hq) hc b hbN (hts _ hlink) (fun _ h9 => h9) (by rw [List.getElem?_map, hv]; rfl) hd (kk H locs X)
    · cases hj2
  -- putfield
  · cases hlen
    obtain ⟨q, v, r, rfl, hj⟩ := x_av_of hi
    obtain ⟨ci, fs, hq, hj⟩ := x_ob_of hj
    obtain ⟨hcb, hj2⟩ := x_bif hj
    have hcb := Bool.and_eq_true_iff.mp hcb
    have hfb := Bool.and_eq_true_iff.mp hcb.2
    have hci := Nat.eq_of_beq_eq_true hcb.1
    subst hci
    obtain ⟨C, T, N, hc, hbN, hlink, hfin⟩ := hw
    refine x_N2.go hj2 (Nat.le_refl _) (Nat.le_refl _) fun _ _ kk => ?_
    exact x_put hC hx hb hmn X hq hc hbN hlink hfin hfb.1 (by simpa using hfb.2) hd kk
  -- iaload
  · cases hlen
    obtain ⟨q, i, r, rfl, hj⟩ := x_ai_of hi
    cases hb1 : Nat.beq q x_scr with
    | true =>
      rw [hb1] at hj
      have hqs := Nat.eq_of_beq_eq_true hb1
      subst hqs
      dsimp only [cond] at hj
      split at hj
      · rename_i n f
        obtain ⟨hin, hj⟩ := x_in_of hj
        obtain ⟨s1, s2, s3⟩ := hSc.1 n f rfl
        exact x_N2.go hj (Nat.le_refl _) (Nat.le_refl _) fun _ _ kk => va_sld hx hb s1 s2 s3 X.2.2.2.2.2 hin hd (kk H locs X)
      · cases hj
    | false =>
      rw [hb1] at hj
      obtain ⟨n, f, hq, hj⟩ := x_ari_of hj
      obtain ⟨hin, hj⟩ := x_in_of hj
      obtain ⟨cA, hat, ho⟩ := x_cellI X hq
      exact x_N2.go hj (Nat.le_refl _) (Nat.le_refl _) fun _ _ kk => W.iald (v := .int (f i.toNatClampNeg)) hx hb hat (ho.1 n (fun j => .int (f j))) (fun q => by cases q) (x_in_arr hin) (by show (arrV _ _ _).slots[_]? = _; rw [arrV_read _ _ (Nat.not_le.mp fun q => hin (Or.inr q))]) rfl rfl hd (kk H locs X)
  -- iastore
  · cases hlen
    obtain ⟨q, i, x, r, rfl, hj⟩ := x_aii_of hi
    obtain ⟨n, f, hq, hj⟩ := x_ari_of hj
    obtain ⟨hin, hj⟩ := x_in_of hj
    obtain ⟨cA, hat, ho⟩ := x_cellI X hq
    exact x_N2.go hj (Nat.le_refl _) (Nat.le_refl _) fun _ _ kk => W.iast hx hb hat (ho.1 n (fun j => .int (f j))) (fun q => by cases q) (x_in_arr hin) rfl rfl hd fun H1 e1 z1 o1 => kk H1 _ (x_wrI X hq hat e1 z1 o1)
  -- baload
  · cases hlen
    obtain ⟨q, i, r, rfl, hj⟩ := x_ai_of hi
    split at hj
    · rename_i n f hq
      obtain ⟨hin, hj⟩ := x_in_of hj
      obtain ⟨cA, hat, ho⟩ := x_cellI X hq
      exact x_N2.go hj (Nat.le_refl _) (Nat.le_refl _) fun _ _ kk => W.bald (v := .int (f i.toNatClampNeg)) hx hb hat (ho.1 n (fun j => .int (f j))) (fun q => by cases q) (x_in_arr hin) (by show (arrV _ _ _).slots[_]? = _; rw [arrV_read _ _ (Nat.not_le.mp fun q => hin (Or.inr q))]) rfl rfl hd (kk H locs X)
    · rename_i n f hq
      obtain ⟨hin, hj⟩ := x_in_of hj
      obtain ⟨cA, hat, ho⟩ := x_cellI X hq
      exact x_N2.go hj (Nat.le_refl _) (Nat.le_refl _) fun _ _ kk => W.zald (v := .int (f i.toNatClampNeg)) hx hb hat (ho.1 n (fun j => .int (f j))) (fun q => by cases q) (x_in_arr hin) (by show (arrV _ _ _).slots[_]? = _; rw [arrV_read _ _ (Nat.not_le.mp fun q => hin (Or.inr q))]) rfl rfl hd (kk H locs X)
    · cases hj
  -- bastore
  · cases hlen
    obtain ⟨q, i, x, r, rfl, hj⟩ := x_aii_of hi
    split at hj
    · rename_i n f hq
      obtain ⟨hin, hj⟩ := x_in_of hj
      obtain ⟨cA, hat, ho⟩ := x_cellI X hq
      exact x_N2.go hj (Nat.le_refl _) (Nat.le_refl _) fun _ _ kk => W.bast hx hb hat (ho.1 n (fun j => .int (f j))) (fun q => by cases q) (x_in_arr hin) rfl rfl hd fun H1 e1 z1 o1 => kk H1 _ (x_wrI X hq hat e1 z1 o1)
    · rename_i n f hq
      obtain ⟨hin, hj⟩ := x_in_of hj
      obtain ⟨cA, hat, ho⟩ := x_cellI X hq
      exact x_N2.go hj (Nat.le_refl _) (Nat.le_refl _) fun _ _ kk => W.zast hx hb hat (ho.1 n (fun j => .int (f j))) (fun q => by cases q) (x_in_arr hin) rfl rfl hd fun H1 e1 z1 o1 => kk H1 _ (x_wrI X hq hat e1 z1 o1)
    · cases hj
  -- laload
  · cases hlen
    obtain ⟨q, i, r, rfl, hj⟩ := x_ai_of hi
    obtain ⟨n, f, hq, hj⟩ := x_arl_of hj
    obtain ⟨hin, hj⟩ := x_in_of hj
    obtain ⟨cA, hat, ho⟩ := x_cellL X hq
    exact x_N2.go hj (Nat.le_refl _) (Nat.le_refl _) fun _ _ kk => W.lald (v := .long (f i.toNatClampNeg)) hx hb hat (ho.1 n (fun j => .long (f j))) (fun q => by cases q) (x_in_arr hin) (by show (arrV _ _ _).slots[_]? = _; rw [arrV_read _ _ (Nat.not_le.mp fun q => hin (Or.inr q))]) rfl rfl hd (kk H locs X)
  -- lastore
  · cases hlen
    obtain ⟨q, i, x, r, rfl, hj⟩ := x_ail_of hi
    obtain ⟨n, f, hq, hj⟩ := x_arl_of hj
    obtain ⟨hin, hj⟩ := x_in_of hj
    obtain ⟨cA, hat, ho⟩ := x_cellL X hq
    exact x_N2.go hj (Nat.le_refl _) (Nat.le_refl _) fun _ _ kk => W.last hx hb hat (ho.1 n (fun j => .long (f j))) (fun q => by cases q) (x_in_arr hin) rfl rfl hd fun H1 e1 z1 o1 => kk H1 _ (x_wrL X hq hat e1 z1 o1)
  -- aaload
  · cases hlen
    obtain ⟨q, i, r, rfl, hj⟩ := x_ai_of hi
    obtain ⟨t, n, f, hq, hj⟩ := x_arq_of hj
    obtain ⟨ht, hj⟩ := x_bif hj
    obtain ⟨hin, hj⟩ := x_in_of hj
    obtain ⟨cA, hat, ho⟩ := x_cellQ X hq
    obtain ⟨C, hC4⟩ := x_ft4' (Nat.le_of_ble_eq_true ht)
    rw [hC4] at ho
    refine x_N2.go hj (Nat.le_refl _) (Nat.le_refl _) fun _ _ kk => ?_
    have := kk H locs X
    rw [List.map_cons, x_cv_rf] at this
    exact W.aald (v := va_rf ((f i.toNatClampNeg).map ad)) (ty := .object C) hx hb hat (ho.1 n (fun j => va_rf ((f j).map ad))) rfl (fun q => by cases q) (x_in_arr hin) (by show (arrV _ _ _).slots[_]? = _; rw [arrV_read _ _ (Nat.not_le.mp fun q => hin (Or.inr q))]) rfl rfl hd this
  -- aastore
  · cases hlen
    obtain ⟨q, i, x, r, rfl, hj⟩ := x_aiq_of hi
    obtain ⟨t, n, f, hq, hj⟩ := x_arq_of hj
    obtain ⟨ci, fs, hv, hj⟩ := x_ob_of hj
    obtain ⟨ht, hj⟩ := x_bif hj
    have ht := Nat.eq_of_beq_eq_true ht
    subst ht
    obtain ⟨hin, hj⟩ := x_in_of hj
    obtain ⟨cA, hat, ho⟩ := x_cellQ X hq
    refine x_N2.go hj (Nat.le_refl _) (Nat.le_refl _) fun _ _ kk => ?_
    obtain ⟨hown, hts, hK, hbase, w, hS⟩ := id X
    obtain ⟨-, -, -, cs, hP, -⟩ := w
    obtain ⟨rc, hrc, cellV, g1, g2, g3, -⟩ := hP x _ (x_cw_get hv)
    rw [x_ft4 hrc] at ho
    have hcls := (hK.1 ci rc hrc).2
    obtain ⟨kA, comp, k1, k2, k3, -⟩ := ho.2
    have hcomp : comp = D.1 ci := Option.some.inj (k3.symm.trans hcls.1)
    subst hcomp
    obtain ⟨kC, hkC, -⟩ := hcls.2
    refine W.aast hx hb hat (fun q h => by cases h) (fun h => by cases h) k1 k2 rfl hkC ⟨fun q => hin (Or.inl q), by show _ < (arrV _ _ _).slots.size; rw [arrV_size]; exact Nat.not_le.mp fun q => hin (Or.inr q)⟩ g1 (fun q h => by rw [g3] at h; cases h) (by rw [g2]; exact hkC) (by rw [g2]; exact va_assign hcls) rfl rfl hd fun H1 e1 z1 o1 => kk H1 _ (x_wrQ X hq hat e1 z1 o1)
  -- arraylength
  · cases hlen
    obtain ⟨q, r, rfl, hj⟩ := x_a1_of hi
    cases hb1 : Nat.beq q x_scr with
    | true =>
      rw [hb1] at hj
      have hqs := Nat.eq_of_beq_eq_true hb1
      subst hqs
      dsimp only [cond] at hj
      split at hj
      · rename_i n f
        obtain ⟨s1, s2, s3⟩ := hSc.1 n f rfl
        exact x_N2.go hj (Nat.le_refl _) (Nat.le_refl _) fun _ _ kk => va_slen hx hb s1 s2 s3 X.2.2.2.2.2 hd (kk H locs X)
      · cases hj
    | false =>
      rw [hb1] at hj
      obtain ⟨t, n, y, hq, hj⟩ := x_ar_of hj
      refine x_N2.go hj (Nat.le_refl _) (Nat.le_refl _) fun _ _ kk => ?_
      obtain f | f | f | f | f := y
      · obtain ⟨cA, hat, ho⟩ := x_cellI X hq
        exact W.alen (n := Int32.ofNat n) hx hb hat (ho.1 n (fun j => .int (f j))) (by show (arrV _ _ _).slots.size.toInt32 = _; rw [arrV_size]) rfl rfl hd (kk H locs X)
      · obtain ⟨cA, hat, ho⟩ := x_cellL X hq
        exact W.alen (n := Int32.ofNat n) hx hb hat (ho.1 n (fun j => .long (f j))) (by show (arrV _ _ _).slots.size.toInt32 = _; rw [arrV_size]) rfl rfl hd (kk H locs X)
      · obtain ⟨cA, hat, ho⟩ := x_cellF X hq
        exact W.alen (n := Int32.ofNat n) hx hb hat (ho.1 n (fun j => .float (f j))) (by show (arrV _ _ _).slots.size.toInt32 = _; rw [arrV_size]) rfl rfl hd (kk H locs X)
      · obtain ⟨cA, hat, ho⟩ := x_cellD X hq
        exact W.alen (n := Int32.ofNat n) hx hb hat (ho.1 n (fun j => .double (f j))) (by show (arrV _ _ _).slots.size.toInt32 = _; rw [arrV_size]) rfl rfl hd (kk H locs X)
      · obtain ⟨cA, hat, ho⟩ := x_cellQ X hq
        exact W.alen (n := Int32.ofNat n) hx hb hat (ho.1 n (fun j => va_rf ((f j).map ad))) (by show (arrV _ _ _).slots.size.toInt32 = _; rw [arrV_size]) rfl rfl hd (kk H locs X)
  -- newarray
  · cases hlen
    obtain ⟨n, r, rfl, hj⟩ := x_i1_of hi
    split at hj
    · cases hj
    · rename_i hnq
      split at hj
      · exact x_N2.go hj (by omega) (by omega) fun h1 h2 kk => x_newa hx hb X hw hnq (by decide) rfl (fun cA => rfl) hd h1 h2 kk
      · exact x_N2.go hj (by omega) (by omega) fun h1 h2 kk => x_newa hx hb X hw hnq (by decide) rfl (fun cA => rfl) hd h1 h2 kk
      · exact x_N2.go hj (by omega) (by omega) fun h1 h2 kk => x_newa hx hb X hw hnq (by decide) rfl (fun cA => rfl) hd h1 h2 kk
      · exact x_N2.go hj (by omega) (by omega) fun h1 h2 kk => x_newa hx hb X hw hnq (by decide) rfl (fun cA => rfl) hd h1 h2 kk
      · cases hj
  -- anewarray
  · cases hlen
    obtain ⟨n, r, rfl, hj⟩ := x_i1_of hi
    split at hj
    · cases hj
    · rename_i hnq
      obtain ⟨C, T, N, hc, hcl, hov⟩ := hw
      exact x_N2.go hj (by omega) (by omega) fun h1 h2 kk => x_newq hx hb X hc hcl hov hnq hd h1 h2 kk
  -- new
  · cases hlen
    split at hi
    · cases hi
    · rename_i hnq
      obtain ⟨C, T, hc, hcl⟩ := hw
      exact x_N2.go hi (by omega) (by omega) fun h1 h2 kk => x_new hC hx hb X hc hcl hnq hd h1 h2 kk
  · cases hi
end XS4
