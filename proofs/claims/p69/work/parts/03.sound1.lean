/-! ===== the small heap beside the machine's ===== -/
abbrev x_own (M : xM) : String := M.1
abbrev x_nm (M : xM) : MethodName := M.2.1
abbrev x_cc (M : xM) : ByteArray := M.2.2.1
abbrev x_ml (M : xM) : Nat := M.2.2.2.1
abbrev x_rt (M : xM) : Option FieldType := M.2.2.2.2.1
abbrev x_sta (M : xM) : Bool := M.2.2.2.2.2.1
abbrev x_rws (M : xM) : List (Nat × List xR) := M.2.2.2.2.2.2.2
def x_bw : List Cond := lw_tbl.filter goodWord
theorem x_bw_in {w : Cond} (h : w ∈ lw_tbl) (g : goodWord w = true) : w ∈ x_bw := List.mem_filter.mpr ⟨h, g⟩
theorem x_bw_tbl {w : Cond} (h : w ∈ x_bw) : w ∈ lw_tbl := (List.mem_filter.mp h).1
theorem x_bw_good : ∀ w ∈ x_bw, goodWord w = true := fun _ h => (List.mem_filter.mp h).2
def x_cv (ad : Nat → Nat) : Value → Value
  | .ref k => .ref (ad k)
  | v => v
theorem x_cv_cat (ad : Nat → Nat) (v : Value) : (x_cv ad v).category = v.category := by cases v <;> rfl
theorem x_cv_rf (ad : Nat → Nat) (r : Option Nat) : x_cv ad (va_rf r) = va_rf (r.map ad) := by cases r <;> rfl
def x_ce (ad : Nat → Nat) (cA : ClassId) : xE → va_E
  | .inl (_, n, .inr (.inr (.inr (.inr f)))) => .inl (cA, n, .inr (.inr (.inr (.inr (fun j => (f j).map ad)))))
  | .inl (_, x) => .inl (cA, x)
  | .inr (ci, fs) => .inr (ci, fs.map (x_cv ad))
def x_cw (ad : Nat → Nat) (cs : Nat → ClassId) (h : xH) : va_W := h.mapIdx (fun k e => (ad k, x_ce ad (cs k) e))
theorem x_cw_get {ad : Nat → Nat} {cs : Nat → ClassId} {h : xH} {k : Nat} {e : xE} (hk : h[k]? = some e) : (x_cw ad cs h)[k]? = some (ad k, x_ce ad (cs k) e) := by
  unfold x_cw
  rw [List.getElem?_mapIdx, hk]
  rfl
theorem x_cw_of {ad : Nat → Nat} {cs : Nat → ClassId} {h : xH} {k : Nat} {q : Nat × va_E} (hk : (x_cw ad cs h)[k]? = some q) : ∃ e, h[k]? = some e ∧ q = (ad k, x_ce ad (cs k) e) := by
  unfold x_cw at hk
  rw [List.getElem?_mapIdx] at hk
  cases e : h[k]? with
  | none => rw [e] at hk; cases hk
  | some y => rw [e] at hk; exact ⟨y, rfl, (Option.some.inj hk).symm⟩
/-- the type of an array's entries by its tag -/
def x_ft : Nat → FieldType
  | 0 => .int
  | 1 => .long
  | 2 => .byte
  | 3 => .boolean
  | t + 4 => .object (match x_cls t with
    | some q => q.1
    | none => "")
def x_tg : xE → Option Nat
  | .inl (t, _) => some t
  | .inr _ => none
def x_W (ad : Nat → Nat) (base : Nat) (D : va_G) (h : xH) (U : State) (H : Heap) : Prop := (∀ k, k < x_scr → ad k = base + k) ∧ h.length ≤ x_scr ∧ H.size = base + h.length ∧ ∃ cs : Nat → ClassId, va_P D vwCl (x_cw ad cs h) H ∧ (∀ (k : Nat) (e : xE) (t : Nat), h[k]? = some e → x_tg e = some t → ArrOfT U (cs k) (x_ft t) ∧ va_RA U (cs k) (x_ft t)) ∧ ∀ C ∈ x_ao, va_AO C U
theorem x_W.moved {ad : Nat → Nat} {base : Nat} {D : va_G} {h : xH} {u U : State} {H : Heap} (hvm : u.vm.Alike U.vm) (w : x_W ad base D h u H) : x_W ad base D h U H := by
  obtain ⟨h1, h2, h3, cs, h4, h5, h6⟩ := w
  exact ⟨h1, h2, h3, cs, h4, fun k e t a b => ⟨arrOfT_moved hvm (h5 k e t a b).1, (h5 k e t a b).2.moved hvm⟩, fun C hC => va_AO.moved hvm (h6 C hC)⟩
theorem x_W.at {ad : Nat → Nat} {base : Nat} {D : va_G} {h : xH} {U : State} {H : Heap} (w : x_W ad base D h U H) {k : Nat} {e : xE} (hk : h[k]? = some e) : k < x_scr ∧ ad k = base + k ∧ k < h.length := by
  have hl := (List.getElem?_eq_some_iff.mp hk).1
  have := w.2.1
  exact ⟨by omega, w.1 k (by omega), hl⟩
theorem x_W.D {ad : Nat → Nat} {base : Nat} {D : va_G} {h : xH} {U : State} {H : Heap} (w : x_W ad base D h U H) (cs : Nat → ClassId) : va_D (fun q => base ≤ q) (x_cw ad cs h) := by
  refine ⟨fun i j p q hi hj e => ?_, fun k q hk => ?_⟩
  · obtain ⟨a, a1, rfl⟩ := x_cw_of hi
    obtain ⟨b, b1, rfl⟩ := x_cw_of hj
    have h1 := (w.at a1).2.1
    have h2 := (w.at b1).2.1
    have : ad i = ad j := e
    omega
  · obtain ⟨a, a1, rfl⟩ := x_cw_of hk
    have h1 := (w.at a1).2.1
    show base ≤ ad k
    omega
theorem x_W.set {ad : Nat → Nat} {base : Nat} {D : va_G} {h : xH} {U : State} {H H1 : Heap} {k : Nat} {e0 e : xE} (w : x_W ad base D h U H) (hk : h[k]? = some e0) (ht : x_tg e = x_tg e0)
    (hz : H1.size = H.size) (ho : ∀ q, q ≠ ad k → H1[q]? = H[q]?) (he : ∀ cA : ClassId, va_at D vwCl (ad k, x_ce ad cA e0) H → va_at D vwCl (ad k, x_ce ad cA e) H1) : x_W ad base D (h.set k e) U H1 := by
  obtain ⟨h1, h2, h3, cs, h4, h5, h6⟩ := id w
  have hl := (w.at hk).2.2
  refine ⟨h1, by rw [List.length_set]; exact h2, by rw [hz, List.length_set]; exact h3, cs, fun j q hj => ?_, fun j y t hj hy => ?_, h6⟩
  · obtain ⟨y, y1, rfl⟩ := x_cw_of hj
    by_cases hjk : j = k
    · subst hjk
      rw [List.getElem?_set_self hl] at y1
      cases y1
      exact he _ (h4 j _ (x_cw_get hk))
    · rw [List.getElem?_set_ne (Ne.symm hjk)] at y1
      refine (h4 j _ (x_cw_get y1)).kept (ho _ ?_)
      show ad j ≠ ad k
      have a1 := (w.at y1).2.1
      have a2 := (w.at hk).2.1
      omega
  · by_cases hjk : j = k
    · subst hjk
      rw [List.getElem?_set_self hl] at hj
      cases hj
      exact h5 j e0 t hk (ht ▸ hy)
    · rw [List.getElem?_set_ne (Ne.symm hjk)] at hj
      exact h5 j y t hj hy
theorem x_W.push {ad : Nat → Nat} {base : Nat} {D : va_G} {h : xH} {U : State} {H H1 : Heap} {e : xE} {cA : ClassId} (w : x_W ad base D h U H) (hl : ¬ x_scr ≤ h.length)
    (hz : H1.size = H.size + 1) (ho : ∀ q, q < H.size → H1[q]? = H[q]?) (he : va_at D vwCl (H.size, x_ce ad cA e) H1) (ht : ∀ t, x_tg e = some t → ArrOfT U cA (x_ft t) ∧ va_RA U cA (x_ft t)) : x_W ad base D (h ++ [e]) U H1 ∧ ad h.length = H.size := by
  obtain ⟨h1, h2, h3, cs, h4, h5, h6⟩ := id w
  have hadd : ad h.length = H.size := by rw [h1 _ (by omega), h3]
  have old : ∀ (j : Nat) (y : xE), (h ++ [e])[j]? = some y → (j < h.length ∧ h[j]? = some y) ∨ (j = h.length ∧ y = e) := by
    intro j y hj
    by_cases hjl : j < h.length
    · rw [List.getElem?_append_left hjl] at hj
      exact Or.inl ⟨hjl, hj⟩
    · rw [List.getElem?_append_right (by omega)] at hj
      have hz : j - h.length < 1 := (List.getElem?_eq_some_iff.mp hj).1
      have hj0 : j = h.length := by omega
      subst hj0
      rw [Nat.sub_self] at hj
      cases hj
      exact Or.inr ⟨rfl, rfl⟩
  refine ⟨⟨h1, by rw [List.length_append]; show h.length + 1 ≤ _; omega, by rw [hz, List.length_append, h3]; rfl, fun j => if j = h.length then cA else cs j, fun j q hj => ?_, fun j y t hj hy => ?_, h6⟩, hadd⟩
  · obtain ⟨y, y1, rfl⟩ := x_cw_of hj
    rcases old j y y1 with ⟨a, b⟩ | ⟨a, b⟩
    · rw [if_neg (Nat.ne_of_lt a)]
      have := h4 j _ (x_cw_get b)
      exact this.kept (ho _ this.lt)
    · subst a; subst b
      rw [if_pos rfl, hadd]
      exact he
  · rcases old j y hj with ⟨a, b⟩ | ⟨a, b⟩
    · dsimp only
      rw [if_neg (Nat.ne_of_lt a)]
      exact h5 j y t b hy
    · subst a; subst b
      dsimp only
      rw [if_pos rfl]
      exact ht t hy
/-! locals -/
def x_cl (ad : Nat → Nat) (l : xL) : xL := l.map (fun q => (q.1, x_cv ad q.2))
theorem x_ld_mem {l : xL} {i : Nat} {v : Value} (h : x_ld l i = some v) : (i, v) ∈ l := by
  induction l with
  | nil => cases h
  | cons q r ih =>
    unfold x_ld at h
    cases hb : Nat.beq q.1 i with
    | true =>
      rw [hb] at h
      have h1 : q.1 = i := Nat.eq_of_beq_eq_true hb
      have h2 : q.2 = v := Option.some.inj h
      have : q = (i, v) := by rw [← h1, ← h2]
      rw [this]
      exact List.mem_cons_self
    | false =>
      rw [hb] at h
      exact List.mem_cons_of_mem _ (ih h)
theorem x_lv {ad : Nat → Nat} {ls : Array Slot} {n i : Nat} {l : xL} {v : Value} (hl : lv_has ls n (x_cl ad l)) (h : x_ld l i = some v) : ls[i]? = some (.val (x_cv ad v)) :=
  hl.2.2 (i, x_cv ad v) (List.mem_map.mpr ⟨(i, v), x_ld_mem h, rfl⟩)
theorem x_cl_st1 (ad : Nat → Nat) (l : xL) (i : Nat) (v : Value) : (i, x_cv ad v) :: (x_cl ad l).filter (fun q => !(q.1 == i) && !(q.1 + 1 == i && q.2.category == 2)) = x_cl ad (x_st1 l i v) := by
  unfold x_st1 x_cl
  rw [List.map_cons, List.filter_map]
  congr 3
  funext q
  simp [Function.comp, x_cv_cat]
theorem x_cl_st2 (ad : Nat → Nat) (l : xL) (i : Nat) (v : Value) : (i, x_cv ad v) :: (x_cl ad l).filter (fun q => !(q.1 == i) && (!(q.1 == i + 1) && !(q.1 + 1 == i && q.2.category == 2))) = x_cl ad (x_st2 l i v) := by
  unfold x_st2 x_cl
  rw [List.map_cons, List.filter_map]
  congr 3
  funext q
  simp [Function.comp, x_cv_cat]
theorem x_cl_args (ad : Nat → Nat) : ∀ (vs : List Value) (i : Nat), lv_args i (vs.map (x_cv ad)) = x_cl ad (lv_args i vs) := by
  intro vs
  induction vs with
  | nil => intro i; rfl
  | cons v vs ih =>
    intro i
    show (i, x_cv ad v) :: lv_args (if (x_cv ad v).category = 2 then i + 2 else i + 1) (vs.map (x_cv ad)) = x_cl ad ((i, v) :: lv_args (if v.category = 2 then i + 2 else i + 1) vs)
    rw [x_cv_cat, ih]
    rfl
theorem x_cat_map (ad : Nat → Nat) (vs : List Value) : ((vs.map (x_cv ad)).map fun v => v.category).sum = x_cat vs := by
  induction vs with
  | nil => rfl
  | cons v vs ih => simp only [List.map_cons, List.sum_cons, x_cat, x_cv_cat, ih]
theorem x_lg_len (vs : List Value) : (lg_sl vs).length = x_cat vs := by
  induction vs with
  | nil => rfl
  | cons v vs ih =>
    have e : lg_sl (v :: vs) = (if v.category = 2 then [Slot.val v, Slot.second] else [Slot.val v]) ++ lg_sl vs := by simp [lg_sl]
    rw [e, List.length_append, ih]
    show _ = v.category + x_cat vs
    rcases lv_cat v with h | h
    · rw [h, if_neg (by decide)]; rfl
    · rw [h, if_pos rfl]; rfl
/-! what the helpers say of the stack -/
theorem x_i1_of {st : List Value} {f : Int32 → List Value → xO} {X} (h : x_i1 st f = some X) : ∃ x r, st = .int x :: r ∧ f x r = some X := by
  unfold x_i1 at h
  split at h
  · exact ⟨_, _, rfl, h⟩
  · cases h
theorem x_i2_of {st : List Value} {f : Int32 → Int32 → List Value → xO} {X} (h : x_i2 st f = some X) : ∃ x y r, st = .int y :: .int x :: r ∧ f x y r = some X := by
  unfold x_i2 at h
  split at h
  · exact ⟨_, _, _, rfl, h⟩
  · cases h
theorem x_l1_of {st : List Value} {f : Int64 → List Value → xO} {X} (h : x_l1 st f = some X) : ∃ x r, st = .long x :: r ∧ f x r = some X := by
  unfold x_l1 at h
  split at h
  · exact ⟨_, _, rfl, h⟩
  · cases h
theorem x_l2_of {st : List Value} {f : Int64 → Int64 → List Value → xO} {X} (h : x_l2 st f = some X) : ∃ x y r, st = .long y :: .long x :: r ∧ f x y r = some X := by
  unfold x_l2 at h
  split at h
  · exact ⟨_, _, _, rfl, h⟩
  · cases h
theorem x_li_of {st : List Value} {f : Int64 → Int32 → List Value → xO} {X} (h : x_li st f = some X) : ∃ x y r, st = .int y :: .long x :: r ∧ f x y r = some X := by
  unfold x_li at h
  split at h
  · exact ⟨_, _, _, rfl, h⟩
  · cases h
theorem x_a1_of {st : List Value} {f : Nat → List Value → xO} {X} (h : x_a1 st f = some X) : ∃ x r, st = .ref x :: r ∧ f x r = some X := by
  unfold x_a1 at h
  split at h
  · exact ⟨_, _, rfl, h⟩
  · cases h
theorem x_ai_of {st : List Value} {f : Nat → Int32 → List Value → xO} {X} (h : x_ai st f = some X) : ∃ a i r, st = .int i :: .ref a :: r ∧ f a i r = some X := by
  unfold x_ai at h
  split at h
  · exact ⟨_, _, _, rfl, h⟩
  · cases h
theorem x_aii_of {st : List Value} {f : Nat → Int32 → Int32 → List Value → xO} {X} (h : x_aii st f = some X) : ∃ a i x r, st = .int x :: .int i :: .ref a :: r ∧ f a i x r = some X := by
  unfold x_aii at h
  split at h
  · exact ⟨_, _, _, _, rfl, h⟩
  · cases h
theorem x_ail_of {st : List Value} {f : Nat → Int32 → Int64 → List Value → xO} {X} (h : x_ail st f = some X) : ∃ a i x r, st = .long x :: .int i :: .ref a :: r ∧ f a i x r = some X := by
  unfold x_ail at h
  split at h
  · exact ⟨_, _, _, _, rfl, h⟩
  · cases h
theorem x_aiq_of {st : List Value} {f : Nat → Int32 → Nat → List Value → xO} {X} (h : x_aiq st f = some X) : ∃ a i x r, st = .ref x :: .int i :: .ref a :: r ∧ f a i x r = some X := by
  unfold x_aiq at h
  split at h
  · exact ⟨_, _, _, _, rfl, h⟩
  · cases h
theorem x_av_of {st : List Value} {f : Nat → Value → List Value → xO} {X} (h : x_av st f = some X) : ∃ a v r, st = v :: .ref a :: r ∧ f a v r = some X := by
  unfold x_av at h
  split at h
  · exact ⟨_, _, _, rfl, h⟩
  · cases h
theorem x_v1_of {st : List Value} {f : Value → List Value → xO} {X} (h : x_v1 st f = some X) : ∃ v r, st = v :: r ∧ f v r = some X := by
  unfold x_v1 at h
  split at h
  · exact ⟨_, _, rfl, h⟩
  · cases h
theorem x_v2_of {st : List Value} {f : Value → Value → List Value → xO} {X} (h : x_v2 st f = some X) : ∃ v w r, st = v :: w :: r ∧ f v w r = some X := by
  unfold x_v2 at h
  split at h
  · exact ⟨_, _, _, rfl, h⟩
  · cases h
theorem x_cp_of {st : List Value} {f : Nat → Int32 → Nat → Int32 → Int32 → List Value → xO} {X} (h : x_cp st f = some X) : ∃ a0 sp a dp n r, st = .int n :: .int dp :: .ref a :: .int sp :: .ref a0 :: r ∧ f a0 sp a dp n r = some X := by
  unfold x_cp at h
  split at h
  · exact ⟨_, _, _, _, _, _, rfl, h⟩
  · cases h
theorem x_br_of {pc : Nat} {off : Int} {f : Nat → xO} {X} (h : x_br pc off f = some X) : ∃ t : Nat, (pc : Int) + off = (t : Int) ∧ f t = some X := by
  unfold x_br at h
  split at h
  · rename_i t e
    exact ⟨t, e, h⟩
  · cases h
theorem x_ob_of {h : xH} {a : Nat} {f : Nat → List Value → xO} {X} (e : x_ob h a f = some X) : ∃ c fs, h[a]? = some (.inr (c, fs)) ∧ f c fs = some X := by
  unfold x_ob at e
  split at e
  · rename_i c fs q
    exact ⟨c, fs, q, e⟩
  · cases e
theorem x_ari_of {t : Nat} {h : xH} {a : Nat} {f : Nat → (Nat → Int32) → xO} {X} (e : x_ari t h a f = some X) : ∃ n g, h[a]? = some (.inl (t, n, .inl g)) ∧ f n g = some X := by
  unfold x_ari at e
  split at e
  · rename_i t' n g q
    cases hb : Nat.beq t' t with
    | true =>
      rw [hb] at e
      have := Nat.eq_of_beq_eq_true hb
      subst this
      exact ⟨n, g, q, e⟩
    | false => rw [hb] at e; cases e
  · cases e
theorem x_arl_of {h : xH} {a : Nat} {f : Nat → (Nat → Int64) → xO} {X} (e : x_arl h a f = some X) : ∃ n g, h[a]? = some (.inl (1, n, .inr (.inl g))) ∧ f n g = some X := by
  unfold x_arl at e
  split at e
  · rename_i t' n g q
    cases hb : Nat.beq t' 1 with
    | true =>
      rw [hb] at e
      have := Nat.eq_of_beq_eq_true hb
      subst this
      exact ⟨n, g, q, e⟩
    | false => rw [hb] at e; cases e
  · cases e
theorem x_arq_of {h : xH} {a : Nat} {f : Nat → Nat → (Nat → Option Nat) → xO} {X} (e : x_arq h a f = some X) : ∃ t n g, h[a]? = some (.inl (t, n, .inr (.inr (.inr (.inr g))))) ∧ f t n g = some X := by
  unfold x_arq at e
  split at e
  · rename_i t' n g q
    exact ⟨t', n, g, q, e⟩
  · cases e
theorem x_ar_of {h : xH} {a : Nat} {f : Nat → xO} {X} (e : x_ar h a f = some X) : ∃ t n y, h[a]? = some (.inl (t, n, y)) ∧ f n = some X := by
  unfold x_ar at e
  split at e
  · rename_i t' n g q
    exact ⟨t', n, g, q, e⟩
  · cases e
theorem x_in_of {i : Int32} {n : Nat} {o : xO} {X} (e : x_in i n o = some X) : vp_in i n ∧ o = some X := by
  unfold x_in at e
  split at e
  · cases e
  · rename_i q
    exact ⟨q, e⟩
theorem x_bif {b : Bool} {o : xO} {X} (e : (bif b then o else none) = some X) : b = true ∧ o = some X := by
  cases b with
  | true => exact ⟨rfl, e⟩
  | false => cases e
theorem x_row_mem : ∀ {rs : List (Nat × List xR)} {pc : Nat} {r : xR}, x_row rs pc = some r → (∃ q ∈ rs, r ∈ q.2) ∧ r.1 = pc := by
  have fnd : ∀ {rs : List xR} {pc : Nat} {r : xR}, x_find rs pc = some r → r ∈ rs ∧ r.1 = pc := by
    intro rs
    induction rs with
    | nil => intro pc r h; cases h
    | cons q rs ih =>
      intro pc r h
      unfold x_find at h
      cases hb : Nat.beq q.1 pc with
      | true =>
        rw [hb] at h
        have : q = r := Option.some.inj h
        subst this
        exact ⟨List.mem_cons_self, Nat.eq_of_beq_eq_true hb⟩
      | false =>
        rw [hb] at h
        exact ⟨List.mem_cons_of_mem _ (ih h).1, (ih h).2⟩
  intro rs
  induction rs with
  | nil => intro pc r h; cases h
  | cons q rs ih =>
    intro pc r h
    unfold x_row at h
    cases hb : Nat.ble pc q.1 with
    | true =>
      rw [hb] at h
      exact ⟨⟨q, List.mem_cons_self, (fnd h).1⟩, (fnd h).2⟩
    | false =>
      rw [hb] at h
      obtain ⟨⟨y, y1, y2⟩, y3⟩ := ih h
      exact ⟨⟨y, List.mem_cons_of_mem _ y1, y2⟩, y3⟩
