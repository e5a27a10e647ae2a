/-! ===== where all lies behind the two constructors ===== -/
def j_nx : Nat := 75
def j_sh : List ((Nat × Nat × List Nat) ⊕ (Nat × List Nat)) := [.inr (11, [3, 11, 12, 24, 30, 31, 32, 37, 39, 42, 44]),
  .inr (2, [0, 0, 0, 0, 0, 0, 0, 0, 0, 0, 0, 4, 5, 6, 7]),
  .inl (0, 6, []),
  .inl (0, 6, []),
  .inl (0, 20, []),
  .inr (3, [0, 0, 8, 9, 10]),
  .inl (0, 24, []),
  .inl (0, 24, []),
  .inl (0, 24, []),
  .inl (6, 3, [43, 51, 59]),
  .inr (7, [13, 0, 0, 21, 23, 0, 0, 0, 0]),
  .inr (2, [0, 0, 0, 0, 0, 0, 0, 0, 0, 0, 0, 14, 15, 16, 17]),
  .inl (0, 6, []),
  .inl (0, 6, []),
  .inl (0, 20, []),
  .inr (3, [0, 0, 18, 19, 20]),
  .inl (0, 24, []),
  .inl (0, 24, []),
  .inl (0, 24, []),
  .inr (10, [0, 22]),
  .inl (2, 1200, []),
  .inl (0, 5, []),
  .inr (4, [0, 25, 26, 27, 28, 29, 0]),
  .inl (0, 60, []),
  .inl (0, 60, []),
  .inl (0, 60, []),
  .inl (0, 60, []),
  .inl (0, 60, []),
  .inr (6, [0, 0, 0, 0, 0]),
  .inr (6, [0, 0, 0, 0, 0]),
  .inr (9, [0, 0, 33, 34, 0, 35, 36, 0, 0]),
  .inl (0, 60, []),
  .inl (0, 60, []),
  .inl (0, 120, []),
  .inl (0, 120, []),
  .inr (0, [38]),
  .inl (0, 1452, []),
  .inr (5, [40, 41]),
  .inl (1, 156, []),
  .inl (1, 156, []),
  .inr (1, [0, 0, 0, 43]),
  .inl (0, 60, []),
  .inl (12, 4, [67, 69, 71, 73]),
  .inr (2, [0, 0, 0, 0, 0, 0, 0, 0, 0, 0, 0, 46, 47, 48, 49]),
  .inl (0, 6, []),
  .inl (0, 6, []),
  .inl (0, 20, []),
  .inr (3, [0, 0, 50, 51, 52]),
  .inl (0, 24, []),
  .inl (0, 24, []),
  .inl (0, 24, []),
  .inr (2, [0, 0, 0, 0, 0, 0, 0, 0, 0, 0, 0, 54, 55, 56, 57]),
  .inl (0, 6, []),
  .inl (0, 6, []),
  .inl (0, 20, []),
  .inr (3, [0, 0, 58, 59, 60]),
  .inl (0, 24, []),
  .inl (0, 24, []),
  .inl (0, 24, []),
  .inr (2, [0, 0, 0, 0, 0, 0, 0, 0, 0, 0, 0, 62, 63, 64, 65]),
  .inl (0, 6, []),
  .inl (0, 6, []),
  .inl (0, 20, []),
  .inr (3, [0, 0, 66, 67, 68]),
  .inl (0, 24, []),
  .inl (0, 24, []),
  .inl (0, 24, []),
  .inr (8, [0, 0, 70]),
  .inl (1, 60, []),
  .inr (8, [0, 0, 72]),
  .inl (1, 60, []),
  .inr (8, [0, 0, 74]),
  .inl (1, 60, []),
  .inr (8, [0, 0, 76]),
  .inl (1, 60, []),
  .inr (12, [0, 78, 79, 80, 81, 0, 82, 0, 0, 0, 0, 0, 0, 0, 83, 84, 85, 86, 0, 0, 0, 0, 0, 0, 0, 87, 88, 89, 90, 0, 0, 0, 0, 0, 91, 92, 93, 94, 95, 0, 0, 0, 1, 96, 97, 98, 99]),
  .inl (0, 116, []),
  .inl (0, 348, []),
  .inl (3, 3, []),
  .inl (2, 1200, []),
  .inl (0, 5, []),
  .inl (0, 116, []),
  .inl (0, 180, []),
  .inl (0, 60, []),
  .inl (0, 60, []),
  .inl (0, 60, []),
  .inl (0, 60, []),
  .inl (0, 120, []),
  .inl (0, 120, []),
  .inl (0, 1452, []),
  .inl (0, 1452, []),
  .inl (1, 169, []),
  .inl (1, 169, []),
  .inl (0, 60, []),
  .inl (0, 4, []),
  .inl (0, 4, []),
  .inl (1, 240, []),
  .inl (1, 60, [])]
/-! ===== what a method's run says, over cells that stay in their places ===== -/
abbrev j_G : Type := (Nat → Nat → Int32) × (Nat → Nat → Int64)
/-- an array (tag, length, references) or an object (class, of each slot: 0 an int, 1 a long, r + 2 the reference r) -/
abbrev j_T : Type := (Nat × Nat × List Nat) ⊕ (Nat × List Nat)
def j_val (σ : j_G) (c j : Nat) : Nat → Value
  | 0 => .int (σ.1 c j)
  | 1 => .long (σ.2 c j)
  | r + 2 => .ref r
def j_cell (σ : j_G) (c : Nat) : j_T → xE
  | .inl (t, n, rs) => .inl (t, n, bif Nat.beq t 1 then .inr (.inl (σ.2 c)) else bif Nat.blt t 4 then .inl (σ.1 c) else .inr (.inr (.inr (.inr (fun j => rs[j]?)))))
  | .inr (k, fs) => .inr (k, fs.mapIdx (fun j q => j_val σ c j q))
def j_ow (s : Bool) (c : Nat) : Bool := bif s then Nat.blt c j_nx else Nat.ble j_nx c
def j_hp (s : Bool) (σ τ : j_G) : xH := (j_sh : List j_T).mapIdx (fun c q => j_cell (bif j_ow s c then σ else τ) c q)
def j_at (s : Bool) (c : Nat) : Option j_T := bif j_ow s c then (j_sh : List j_T)[c]? else none
theorem j_get {s : Bool} {σ τ : j_G} {c : Nat} {q : j_T} (h : j_at s c = some q) : (j_hp s σ τ)[c]? = some (j_cell σ c q) := by
  unfold j_at at h
  cases ho : j_ow s c with
  | false => rw [ho] at h; cases h
  | true =>
    rw [ho] at h
    dsimp only [cond] at h
    unfold j_hp
    rw [List.getElem?_mapIdx, h, ho]
    rfl
theorem j_put {s : Bool} {σ σ' τ : j_G} {c : Nat} {q : j_T} {e : xE} (h : j_at s c = some q) (h1 : ∀ c', c' ≠ c → ∀ q, j_cell σ' c' q = j_cell σ c' q) (h2 : j_cell σ' c q = e) : (j_hp s σ τ).set c e = j_hp s σ' τ := by
  unfold j_at at h
  cases ho : j_ow s c with
  | false => rw [ho] at h; cases h
  | true =>
    rw [ho] at h
    dsimp only [cond] at h
    refine List.ext_getElem? fun k => ?_
    rw [List.getElem?_set]
    unfold j_hp
    rw [List.getElem?_mapIdx, List.getElem?_mapIdx, List.length_mapIdx]
    by_cases hk : c = k
    · subst hk
      rw [if_pos rfl, h, ho]
      have hl := (List.getElem?_eq_some_iff.mp h).1
      rw [if_pos hl]
      show some e = some (j_cell σ' c q)
      rw [h2]
    · rw [if_neg hk]
      cases hz : (j_sh : List j_T)[k]? with
      | none => rfl
      | some y =>
        show some _ = some _
        cases ho2 : j_ow s k with
        | false => rfl
        | true =>
          dsimp only [cond]
          rw [h1 k (fun z => hk z.symm)]
theorem j_cell_same {σ σ' : j_G} {c : Nat} (h1 : σ'.1 c = σ.1 c) (h2 : σ'.2 c = σ.2 c) (q : j_T) : j_cell σ' c q = j_cell σ c q := by
  obtain ⟨t, n, rs⟩ | ⟨k, fs⟩ := q
  · unfold j_cell
    dsimp only
    rw [h1, h2]
  · unfold j_cell
    dsimp only
    congr 2
    congr 1
    funext j q
    match q with
    | 0 => show Value.int _ = Value.int _; rw [h1]
    | 1 => show Value.long _ = Value.long _; rw [h2]
    | r + 2 => rfl
def j_si (σ : j_G) (c j : Nat) (v : Int32) : j_G := (fun c' j' => bif Nat.beq c' c && Nat.beq j' j then v else σ.1 c' j', σ.2)
def j_sl (σ : j_G) (c j : Nat) (v : Int64) : j_G := (σ.1, fun c' j' => bif Nat.beq c' c && Nat.beq j' j then v else σ.2 c' j')
def j_ci (σ : j_G) (a0 sp a1 dp n : Nat) : j_G := (fun c' j' => bif Nat.beq c' a1 then va_cpy (σ.1 a0) (σ.1 a1) sp dp n j' else σ.1 c' j', σ.2)
def j_cl (σ : j_G) (a0 sp a1 dp n : Nat) : j_G := (σ.1, fun c' j' => bif Nat.beq c' a1 then va_cpy (σ.2 a0) (σ.2 a1) sp dp n j' else σ.2 c' j')
theorem j_beq_ne {a b : Nat} (h : a ≠ b) : Nat.beq a b = false := by
  cases hb : Nat.beq a b with
  | false => rfl
  | true => exact absurd (Nat.eq_of_beq_eq_true hb) h
theorem j_beq_self (a : Nat) : Nat.beq a a = true := Nat.beq_refl a
theorem j_up_ne {α : Type} {f : Nat → Nat → α} {c c' j : Nat} {v : α} (h : c' ≠ c) : (fun j' => bif Nat.beq c' c && Nat.beq j' j then v else f c' j') = f c' := by
  funext j'
  rw [j_beq_ne h]
  rfl
theorem j_up_eq {α : Type} {f : Nat → Nat → α} {c j : Nat} {v : α} : (fun j' => bif Nat.beq c c && Nat.beq j' j then v else f c j') = fun j' => if j' = j then v else f c j' := by
  funext j'
  rw [j_beq_self]
  by_cases hj : j' = j
  · subst hj; rw [j_beq_self, if_pos rfl]; rfl
  · rw [j_beq_ne hj, if_neg hj]; rfl
theorem j_cy_ne {α : Type} {f : Nat → Nat → α} {g : Nat → α} {c c' : Nat} (h : c' ≠ c) : (fun j' => bif Nat.beq c' c then g j' else f c' j') = f c' := by
  funext j'
  rw [j_beq_ne h]
  rfl
theorem j_cy_eq {α : Type} {f : Nat → Nat → α} {g : Nat → α} {c : Nat} : (fun j' => bif Nat.beq c c then g j' else f c j') = g := by
  funext j'
  rw [j_beq_self]
  rfl
/-- an object's slot is written -/
theorem j_setf {σ σ' : j_G} {c b k : Nat} {fs : List Nat} {v : Value} {t : Nat} (hb : fs[b]? = some t) (h1 : ∀ j q, (j = b → fs[j]? = some q → j_val σ' c j q = v) ∧ (j ≠ b → j_val σ' c j q = j_val σ c j q)) : j_cell σ' c (.inr (k, fs)) = .inr (k, (fs.mapIdx (fun j q => j_val σ c j q)).set b v) := by
  unfold j_cell
  dsimp only
  congr 2
  refine List.ext_getElem? fun j => ?_
  rw [List.getElem?_set, List.getElem?_mapIdx, List.getElem?_mapIdx, List.length_mapIdx]
  have hl := (List.getElem?_eq_some_iff.mp hb).1
  by_cases hj : b = j
  · subst hj
    rw [if_pos rfl, if_pos hl, hb]
    exact congrArg some ((h1 b t).1 rfl hb)
  · rw [if_neg hj]
    cases hz : fs[j]? with
    | none => rfl
    | some y =>
      exact congrArg some ((h1 j y).2 (fun z => hj z.symm))
theorem j_seti {s : Bool} {σ τ : j_G} {c b k : Nat} {fs : List Nat} {v : Int32} (h : j_at s c = some (.inr (k, fs))) (hb : fs[b]? = some 0) : (j_hp s σ τ).set c (.inr (k, (fs.mapIdx (fun j q => j_val σ c j q)).set b (.int v))) = j_hp s (j_si σ c b v) τ := by
  refine j_put h (fun c' hc q => j_cell_same (σ := σ) (σ' := j_si σ c b v) (c := c') (j_up_ne hc) rfl q) (j_setf hb fun j q => ⟨fun hj hq => ?_, fun hj => ?_⟩)
  · subst hj
    rw [hb] at hq
    cases hq
    show Value.int _ = _
    congr 1
    show (fun j' => bif Nat.beq c c && Nat.beq j' j then v else σ.1 c j') j = v
    rw [j_up_eq]
    exact if_pos rfl
  · match q with
    | 0 =>
      show Value.int _ = Value.int _
      congr 1
      show (fun j' => bif Nat.beq c c && Nat.beq j' b then v else σ.1 c j') j = _
      rw [j_up_eq]
      exact if_neg hj
    | 1 => rfl
    | r + 2 => rfl
theorem j_setl {s : Bool} {σ τ : j_G} {c b k : Nat} {fs : List Nat} {v : Int64} (h : j_at s c = some (.inr (k, fs))) (hb : fs[b]? = some 1) : (j_hp s σ τ).set c (.inr (k, (fs.mapIdx (fun j q => j_val σ c j q)).set b (.long v))) = j_hp s (j_sl σ c b v) τ := by
  refine j_put h (fun c' hc q => j_cell_same (σ := σ) (σ' := j_sl σ c b v) (c := c') rfl (j_up_ne hc) q) (j_setf hb fun j q => ⟨fun hj hq => ?_, fun hj => ?_⟩)
  · subst hj
    rw [hb] at hq
    cases hq
    show Value.long _ = _
    congr 1
    show (fun j' => bif Nat.beq c c && Nat.beq j' j then v else σ.2 c j') j = v
    rw [j_up_eq]
    exact if_pos rfl
  · match q with
    | 0 => rfl
    | 1 =>
      show Value.long _ = Value.long _
      congr 1
      show (fun j' => bif Nat.beq c c && Nat.beq j' b then v else σ.2 c j') j = _
      rw [j_up_eq]
      exact if_neg hj
    | r + 2 => rfl
/-- arrays -/
theorem j_ari {σ : j_G} {c t n : Nat} {rs : List Nat} (h1 : Nat.beq t 1 = false) (h2 : Nat.blt t 4 = true) : j_cell σ c (.inl (t, n, rs)) = .inl (t, n, .inl (σ.1 c)) := by
  unfold j_cell
  dsimp only
  rw [h1, h2]
  rfl
theorem j_arl {σ : j_G} {c n : Nat} {rs : List Nat} : j_cell σ c (.inl (1, n, rs)) = .inl (1, n, .inr (.inl (σ.2 c))) := rfl
theorem j_asti {s : Bool} {σ τ : j_G} {c t n i : Nat} {rs : List Nat} {v : Int32} (h : j_at s c = some (.inl (t, n, rs))) (h1 : Nat.beq t 1 = false) (h2 : Nat.blt t 4 = true) : (j_hp s σ τ).set c (.inl (t, n, .inl (upd (σ.1 c) i v))) = j_hp s (j_si σ c i v) τ := by
  refine j_put h (fun c' hc q => j_cell_same (σ := σ) (σ' := j_si σ c i v) (c := c') (j_up_ne hc) rfl q) ?_
  rw [j_ari h1 h2]
  congr 4
  exact j_up_eq
theorem j_astl {s : Bool} {σ τ : j_G} {c n i : Nat} {rs : List Nat} {v : Int64} (h : j_at s c = some (.inl (1, n, rs))) : (j_hp s σ τ).set c (.inl (1, n, .inr (.inl (vp_updL (σ.2 c) i v)))) = j_hp s (j_sl σ c i v) τ := by
  refine j_put h (fun c' hc q => j_cell_same (σ := σ) (σ' := j_sl σ c i v) (c := c') rfl (j_up_ne hc) q) ?_
  rw [j_arl]
  congr 5
  exact j_up_eq
theorem j_acpi {s : Bool} {σ τ : j_G} {a0 a1 sp dp n n1 : Nat} {rs : List Nat} (h : j_at s a1 = some (.inl (0, n1, rs))) : (j_hp s σ τ).set a1 (.inl (0, n1, .inl (va_cpy (σ.1 a0) (σ.1 a1) sp dp n))) = j_hp s (j_ci σ a0 sp a1 dp n) τ := by
  refine j_put h (fun c' hc q => j_cell_same (σ := σ) (σ' := j_ci σ a0 sp a1 dp n) (c := c') (j_cy_ne hc) rfl q) ?_
  rw [j_ari rfl rfl]
  congr 4
  exact j_cy_eq
theorem j_acpl {s : Bool} {σ τ : j_G} {a0 a1 sp dp n n1 : Nat} {rs : List Nat} (h : j_at s a1 = some (.inl (1, n1, rs))) : (j_hp s σ τ).set a1 (.inl (1, n1, .inr (.inl (va_cpy (σ.2 a0) (σ.2 a1) sp dp n)))) = j_hp s (j_cl σ a0 sp a1 dp n) τ := by
  refine j_put h (fun c' hc q => j_cell_same (σ := σ) (σ' := j_cl σ a0 sp a1 dp n) (c := c') rfl (j_cy_ne hc) q) ?_
  rw [j_arl]
  congr 5
  exact j_cy_eq
/-! locals -/
def j_has (l : xL) (L : List (Option Value)) : Prop := ∀ (n : Nat) (v : Value), L[n]? = some (some v) → x_ld l n = some v
def j_nl : Option Value → Option Value
  | some w => bif Nat.beq w.category 2 then none else some w
  | none => none
def j_st : List (Option Value) → Nat → Value → List (Option Value)
  | [], _, _ => []
  | _ :: r, 0, v => some v :: r
  | o :: r, 1, v => j_nl o :: j_st r 0 v
  | o :: r, n + 2, v => o :: j_st r (n + 1) v
def j_hd : List (Option Value) → List (Option Value)
  | [] => []
  | _ :: r => none :: r
def j_st2 : List (Option Value) → Nat → Value → List (Option Value)
  | [], _, _ => []
  | _ :: r, 0, v => some v :: j_hd r
  | o :: r, 1, v => j_nl o :: j_st2 r 0 v
  | o :: r, n + 2, v => o :: j_st2 r (n + 1) v
theorem j_nl_of {o : Option Value} {w : Value} (h : j_nl o = some w) : o = some w ∧ ¬ w.category = 2 := by
  cases o with
  | none => cases h
  | some y =>
    unfold j_nl at h
    dsimp only at h
    cases hb : Nat.beq y.category 2 with
    | true => rw [hb] at h; cases h
    | false =>
      rw [hb] at h
      cases h
      refine ⟨rfl, fun z => ?_⟩
      rw [z] at hb
      cases hb
theorem j_st_of : ∀ {L : List (Option Value)} {n : Nat} {v : Value} {m : Nat} {w : Value}, (j_st L n v)[m]? = some (some w) → (m = n ∧ w = v) ∨ (m ≠ n ∧ L[m]? = some (some w) ∧ ¬ (m + 1 = n ∧ w.category = 2)) := by
  intro L
  induction L with
  | nil => intro n v m w h; simp [j_st] at h
  | cons o r ih =>
    intro n v m w h
    match n with
    | 0 =>
      match m with
      | 0 => left; simp [j_st] at h; exact ⟨rfl, h.symm⟩
      | m + 1 => right; exact ⟨by omega, by simpa [j_st] using h, by omega⟩
    | 1 =>
      match m with
      | 0 =>
        right
        have h : j_nl o = some w := by simpa [j_st] using h
        have := j_nl_of h
        exact ⟨by omega, by simp [this.1], fun z => this.2 z.2⟩
      | m + 1 =>
        have h : (j_st r 0 v)[m]? = some (some w) := by simpa [j_st] using h
        rcases ih h with ⟨a, b⟩ | ⟨a, b, c⟩
        · left; exact ⟨by omega, b⟩
        · right; exact ⟨by omega, by simpa using b, by omega⟩
    | n + 2 =>
      match m with
      | 0 => right; exact ⟨by omega, by simpa [j_st] using h, by omega⟩
      | m + 1 =>
        have h : (j_st r (n + 1) v)[m]? = some (some w) := by simpa [j_st] using h
        rcases ih h with ⟨a, b⟩ | ⟨a, b, c⟩
        · left; exact ⟨by omega, b⟩
        · right; exact ⟨by omega, by simpa using b, fun z => c ⟨by omega, z.2⟩⟩
theorem j_st2_of : ∀ {L : List (Option Value)} {n : Nat} {v : Value} {m : Nat} {w : Value}, (j_st2 L n v)[m]? = some (some w) → (m = n ∧ w = v) ∨ (m ≠ n ∧ m ≠ n + 1 ∧ L[m]? = some (some w) ∧ ¬ (m + 1 = n ∧ w.category = 2)) := by
  intro L
  induction L with
  | nil => intro n v m w h; simp [j_st2] at h
  | cons o r ih =>
    intro n v m w h
    match n with
    | 0 =>
      match m with
      | 0 => left; simp [j_st2] at h; exact ⟨rfl, h.symm⟩
      | m + 1 =>
        right
        have h : (j_hd r)[m]? = some (some w) := by simpa [j_st2] using h
        match r, m, h with
        | [], m, h => simp [j_hd] at h
        | y :: r, 0, h => simp [j_hd] at h
        | y :: r, m + 1, h => exact ⟨by omega, by omega, by simpa [j_hd] using h, by omega⟩
    | 1 =>
      match m with
      | 0 =>
        right
        have h : j_nl o = some w := by simpa [j_st2] using h
        have := j_nl_of h
        exact ⟨by omega, by omega, by simp [this.1], fun z => this.2 z.2⟩
      | m + 1 =>
        have h : (j_st2 r 0 v)[m]? = some (some w) := by simpa [j_st2] using h
        rcases ih h with ⟨a, b⟩ | ⟨a, a2, b, c⟩
        · left; exact ⟨by omega, b⟩
        · right; exact ⟨by omega, by omega, by simpa using b, by omega⟩
    | n + 2 =>
      match m with
      | 0 => right; exact ⟨by omega, by omega, by simpa [j_st2] using h, by omega⟩
      | m + 1 =>
        have h : (j_st2 r (n + 1) v)[m]? = some (some w) := by simpa [j_st2] using h
        rcases ih h with ⟨a, b⟩ | ⟨a, a2, b, c⟩
        · left; exact ⟨by omega, b⟩
        · right; exact ⟨by omega, by omega, by simpa using b, fun z => c ⟨by omega, z.2⟩⟩
theorem j_ld_filter {p : Nat × Value → Bool} : ∀ {l : xL} {m : Nat} {w : Value}, x_ld l m = some w → p (m, w) = true → x_ld (l.filter p) m = some w := by
  intro l
  induction l with
  | nil => intro m w h; cases h
  | cons q r ih =>
    intro m w h hp
    unfold x_ld at h
    cases hb : Nat.beq q.1 m with
    | true =>
      rw [hb] at h
      have h1 : q.1 = m := Nat.eq_of_beq_eq_true hb
      have h2 : q.2 = w := Option.some.inj h
      have hq : q = (m, w) := by rw [← h1, ← h2]
      rw [hq, List.filter_cons, if_pos hp]
      unfold x_ld
      rw [j_beq_self]
      rfl
    | false =>
      rw [hb] at h
      rw [List.filter_cons]
      split
      · unfold x_ld
        rw [hb]
        exact ih h hp
      · exact ih h hp
theorem j_has_st {l : xL} {L : List (Option Value)} {n : Nat} {v : Value} (h : j_has l L) : j_has (x_st1 l n v) (j_st L n v) := by
  intro m w hm
  rcases j_st_of hm with ⟨a, b⟩ | ⟨a, b, c⟩
  · subst a; subst b
    unfold x_st1 x_ld
    rw [j_beq_self]
    rfl
  · unfold x_st1 x_ld
    rw [j_beq_ne (fun z => a z.symm)]
    refine j_ld_filter (h m w b) ?_
    by_cases hz : m + 1 = n
    · have : ¬ w.category = 2 := fun z => c ⟨hz, z⟩
      simp [a, this]
    · simp [a, hz]
theorem j_has_st2 {l : xL} {L : List (Option Value)} {n : Nat} {v : Value} (h : j_has l L) : j_has (x_st2 l n v) (j_st2 L n v) := by
  intro m w hm
  rcases j_st2_of hm with ⟨a, b⟩ | ⟨a, a2, b, c⟩
  · subst a; subst b
    unfold x_st2 x_ld
    rw [j_beq_self]
    rfl
  · unfold x_st2 x_ld
    rw [j_beq_ne (fun z => a z.symm)]
    refine j_ld_filter (h m w b) ?_
    by_cases hz : m + 1 = n
    · have : ¬ w.category = 2 := fun z => c ⟨hz, z⟩
      simp [a, a2, this]
    · simp [a, a2, hz]
/-- what is known of some locals is let go -/
def j_mk : List (Option Value) → List Bool → List (Option Value)
  | o :: r, b :: m => (bif b then o else none) :: j_mk r m
  | _, _ => []
theorem j_mk_of : ∀ {L : List (Option Value)} {m : List Bool} {n : Nat} {w : Value}, (j_mk L m)[n]? = some (some w) → L[n]? = some (some w) := by
  intro L
  induction L with
  | nil => intro m n w h; cases m <;> simp [j_mk] at h
  | cons o r ih =>
    intro m n w h
    match m with
    | [] => simp [j_mk] at h
    | b :: m =>
      match n with
      | 0 =>
        cases b with
        | true => simpa [j_mk] using h
        | false => simp [j_mk] at h
      | n + 1 =>
        have h : (j_mk r m)[n]? = some (some w) := by simpa [j_mk] using h
        simpa using ih h
def j_la : List Value → List (Option Value)
  | [] => []
  | v :: r => bif Nat.beq v.category 2 then some v :: none :: j_la r else some v :: j_la r
theorem j_args : ∀ (vs : List Value) (i k n : Nat) (w : Value), (j_la vs ++ List.replicate k none)[n]? = some (some w) → x_ld (lv_args i vs) (i + n) = some w := by
  intro vs
  induction vs with
  | nil =>
    intro i k n w h
    have h : (List.replicate k (none : Option Value))[n]? = some (some w) := h
    rw [List.getElem?_replicate] at h
    split at h <;> cases h
  | cons v vs ih =>
    intro i k n w h
    have e : lv_args i (v :: vs) = (i, v) :: lv_args (if v.category = 2 then i + 2 else i + 1) vs := rfl
    rw [e]
    unfold x_ld
    match n with
    | 0 =>
      have h2 : some v = some w := by
        unfold j_la at h
        cases hb : Nat.beq v.category 2 with
        | true => rw [hb] at h; simpa using h
        | false => rw [hb] at h; simpa using h
      rw [show i + 0 = i from rfl, j_beq_self]
      exact h2
    | n + 1 =>
      rw [j_beq_ne (by show i ≠ i + (n + 1); omega)]
      dsimp only [cond]
      unfold j_la at h
      cases hb : Nat.beq v.category 2 with
      | true =>
        rw [hb] at h
        rw [if_pos (Nat.eq_of_beq_eq_true hb)]
        match n, h with
        | 0, h => simp at h
        | n + 1, h =>
          have := ih (i + 2) k n w (by simpa using h)
          rw [show i + (n + 1 + 1) = i + 2 + n by omega]
          exact this
      | false =>
        rw [hb] at h
        rw [if_neg (fun z => by rw [z] at hb; cases hb)]
        have := ih (i + 1) k n w (by simpa using h)
        rw [show i + (n + 1) = i + 1 + n by omega]
        exact this
/-! the judgement -/
def j_Tr (s : Bool) (τ : j_G) (M : xM) (d pc : Nat) (L : List (Option Value)) (st : List Value) (σ : j_G) (Q : Option Value → j_G → Prop) : Prop :=
  ∀ l, j_has l L → ∃ (n : Nat) (v : Option Value) (σ' : j_G), x_run x_mt none n d M (pc, l, st, j_hp s σ τ, 0, 0) = some (v, j_hp s σ' τ, 0, 0) ∧ Q v σ'
def j_J {α : Type} (s : Bool) (τ : j_G) (M : xM) (d pc : Nat) (L : List (Option Value)) (st : List Value) (σ : j_G) (o : Option α) (Φ : α → (Option Value → j_G → Prop) → Prop) : Prop :=
  ∀ r, o = some r → ∀ Q, Φ r Q → j_Tr s τ M d pc L st σ Q
def j_Ri (r : Int32 × j_G) (Q : Option Value → j_G → Prop) : Prop := Q (some (.int r.1)) r.2
def j_Rl (r : Int64 × j_G) (Q : Option Value → j_G → Prop) : Prop := Q (some (.long r.1)) r.2
def j_Rv (σ : j_G) (Q : Option Value → j_G → Prop) : Prop := Q none σ
def j_Pi (σ : j_G) (v : Int32) (Q : Option Value → j_G → Prop) : Prop := Q (some (.int v)) σ
def j_Pl (σ : j_G) (v : Int64) (Q : Option Value → j_G → Prop) : Prop := Q (some (.long v)) σ
def j_Pr (σ : j_G) (v : Nat) (Q : Option Value → j_G → Prop) : Prop := Q (some (.ref v)) σ
def j_Pv (σ : j_G) (_ : Unit) (Q : Option Value → j_G → Prop) : Prop := Q none σ
def j_lt {α β : Type} (x : α) (k : α → β) : β := k x
def j_ix {α : Type} (i : Int32) (n : Nat) (o : Option α) : Option α := if i < 0 ∨ n ≤ i.toNatClampNeg then none else o
def j_cg {α : Type} (sp dp n : Int32) (n0 n1 : Nat) (o : Option α) : Option α := if sp < 0 ∨ dp < 0 ∨ n < 0 ∨ n0 < sp.toNatClampNeg + n.toNatClampNeg ∨ n1 < dp.toNatClampNeg + n.toNatClampNeg then none else o
def j_b0 {α β : Type} (o : Option α) (k : Option β) : Option β := match o with
  | none => none
  | some _ => k
def j_b1 {α β : Type} (o : Option α) (k : α → Option β) : Option β := match o with
  | none => none
  | some r => k r
def j_b2 {α β γ : Type} (o : Option (α × β)) (k : α → β → Option γ) : Option γ := match o with
  | none => none
  | some r => k r.1 r.2
def j_b3 {α β γ δ : Type} (o : Option (α × β × γ)) (k : α → β → γ → Option δ) : Option δ := match o with
  | none => none
  | some r => k r.1 r.2.1 r.2.2
def j_b4 {α β γ δ ε : Type} (o : Option (α × β × γ × δ)) (k : α → β → γ → δ → Option ε) : Option ε := match o with
  | none => none
  | some r => k r.1 r.2.1 r.2.2.1 r.2.2.2
def j_b5 {α β γ δ ε ζ : Type} (o : Option (α × β × γ × δ × ε)) (k : α → β → γ → δ → ε → Option ζ) : Option ζ := match o with
  | none => none
  | some r => k r.1 r.2.1 r.2.2.1 r.2.2.2.1 r.2.2.2.2
def j_b6 {α β γ δ ε ζ η : Type} (o : Option (α × β × γ × δ × ε × ζ)) (k : α → β → γ → δ → ε → ζ → Option η) : Option η := match o with
  | none => none
  | some r => k r.1 r.2.1 r.2.2.1 r.2.2.2.1 r.2.2.2.2.1 r.2.2.2.2.2
def j_F : Nat := 5000
section JJ
variable {α β γ δ ε ζ η : Type} {s : Bool} {τ : j_G} {M : xM} {d pc pc' : Nat} {L L' : List (Option Value)} {st st' : List Value} {σ σ' : j_G} {o o' : Option α} {Φ : α → (Option Value → j_G → Prop) → Prop} {ins : Instr} {p len a b w : Nat}
theorem j_none : j_J s τ M d pc L st σ (none : Option α) Φ := fun r h => by cases h
theorem j_o (e : o = o') (k : j_J s τ M d pc L st σ o' Φ) : j_J s τ M d pc L st σ o Φ := e ▸ k
theorem j_t {q : Prop} {iq : Decidable q} (h : q) (k : j_J s τ M d pc L st σ o Φ) : j_J s τ M d pc L st σ (if q then o else o') Φ := j_o (if_pos h) k
theorem j_e {q : Prop} {iq : Decidable q} (h : ¬ q) (k : j_J s τ M d pc L st σ o' Φ) : j_J s τ M d pc L st σ (if q then o else o') Φ := j_o (if_neg h) k
theorem j_ts {q : Prop} {iq : Decidable q} {x y : α} (h : q) (k : j_J s τ M d pc L st σ (some x) Φ) : j_J s τ M d pc L st σ (some (if q then x else y)) Φ := j_o (by rw [if_pos h]) k
theorem j_es {q : Prop} {iq : Decidable q} {x y : α} (h : ¬ q) (k : j_J s τ M d pc L st σ (some y) Φ) : j_J s τ M d pc L st σ (some (if q then x else y)) Φ := j_o (by rw [if_neg h]) k
theorem j_wk (m : List Bool) (e : j_mk L m = L') (k : j_J s τ M d pc L' st σ o Φ) : j_J s τ M d pc L st σ o Φ := fun r h Q hQ l hl => k r h Q hQ l (fun n v hn => hl n v (j_mk_of (by rw [e]; exact hn)))
theorem j_end {r : α} (h : ∀ Q, Φ r Q → j_Tr s τ M d pc L st σ Q) : j_J s τ M d pc L st σ (some r) Φ := fun r' e Q hQ => by cases e; exact h Q hQ
theorem j_step (e : ∀ l, j_has l L → ∃ l', j_has l' L' ∧ x_step M none (pc, l, st, j_hp s σ τ, 0, 0) = some (.inl (pc', l', st', j_hp s σ' τ, 0, 0))) (k : j_J s τ M d pc' L' st' σ' o Φ) : j_J s τ M d pc L st σ o Φ := by
  intro r hr Q hQ l hl
  obtain ⟨l', hl', he⟩ := e l hl
  obtain ⟨n, v, σ2, h1, h2⟩ := k r hr Q hQ l' hl'
  refine ⟨n + 1, v, σ2, ?_, h2⟩
  unfold x_run
  rw [he]
  exact h1
theorem j_f1 {S : Option xS} {l : xL} {h : xH} {k z : Nat} (e : x_row (x_rws M) pc = some (p, ins, len, a, b, w)) (g : x_grp ins = 1) : x_step M S (pc, l, st, h, k, z) = x_ins1 ins pc a l st h k z := by
  unfold x_step
  dsimp only
  rw [show x_row M.2.2.2.2.2.2.2 pc = _ from e]
  dsimp only
  rw [g]
  rfl
theorem j_f2 {S : Option xS} {l : xL} {h : xH} {k z : Nat} (e : x_row (x_rws M) pc = some (p, ins, len, a, b, w)) (g : x_grp ins = 2) : x_step M S (pc, l, st, h, k, z) = x_ins2 S ins pc a b l st h k z := by
  unfold x_step
  dsimp only
  rw [show x_row M.2.2.2.2.2.2.2 pc = _ from e]
  dsimp only
  rw [g]
  rfl
theorem j_f3 {S : Option xS} {l : xL} {h : xH} {k z : Nat} (e : x_row (x_rws M) pc = some (p, ins, len, a, b, w)) (g : x_grp ins = 3) : x_step M S (pc, l, st, h, k, z) = x_ins3 ins pc a b l st h k z := by
  unfold x_step
  dsimp only
  rw [show x_row M.2.2.2.2.2.2.2 pc = _ from e]
  dsimp only
  rw [g]
  rfl
/-- a step of the first group that leaves the locals -/
theorem j_s1 (e : x_row (x_rws M) pc = some (p, ins, len, a, b, w)) (g : x_grp ins = 1) (h : ∀ (l : xL) (hp : xH), j_has l L → x_ins1 ins pc a l st hp 0 0 = some (.inl (pc', l, st', hp, 0, 0))) (k : j_J s τ M d pc' L st' σ o Φ) : j_J s τ M d pc L st σ o Φ :=
  j_step (fun l hl => ⟨l, hl, by rw [j_f1 e g]; exact h l _ hl⟩) k
/-- constants, arithmetic, the stack: what the step does is seen by reckoning -/
theorem j_pl (e : x_row (x_rws M) pc = some (p, ins, len, a, b, w)) (g : x_grp ins = 1) (h : ∀ (l : xL) (hp : xH), x_ins1 ins pc a l st hp 0 0 = some (.inl (pc', l, st', hp, 0, 0))) (k : j_J s τ M d pc' L st' σ o Φ) : j_J s τ M d pc L st σ o Φ := j_s1 e g (fun l hp _ => h l hp) k
theorem j_iload_n {n : Fin 4} {x : Int32} (e : x_row (x_rws M) pc = some (p, .iload_n n, len, a, b, w)) (ep : pc + 1 = pc') (hv : L[(n : Nat)]? = some (some (.int x))) (k : j_J s τ M d pc' L (.int x :: st) σ o Φ) : j_J s τ M d pc L st σ o Φ :=
  j_s1 e rfl (fun l hp hl => by subst ep; show (match x_ld l (n : Nat) with | some (.int x) => _ | _ => none) = _; rw [hl _ _ hv]; rfl) k
theorem j_iload {n : Nat} {x : Int32} (e : x_row (x_rws M) pc = some (p, .iload n, len, a, b, w)) (ep : pc + 2 = pc') (hv : L[n]? = some (some (.int x))) (k : j_J s τ M d pc' L (.int x :: st) σ o Φ) : j_J s τ M d pc L st σ o Φ :=
  j_s1 e rfl (fun l hp hl => by subst ep; show (match x_ld l n with | some (.int x) => _ | _ => none) = _; rw [hl _ _ hv]; rfl) k
theorem j_lload_n {n : Fin 4} {x : Int64} (e : x_row (x_rws M) pc = some (p, .lload_n n, len, a, b, w)) (ep : pc + 1 = pc') (hv : L[(n : Nat)]? = some (some (.long x))) (k : j_J s τ M d pc' L (.long x :: st) σ o Φ) : j_J s τ M d pc L st σ o Φ :=
  j_s1 e rfl (fun l hp hl => by subst ep; show (match x_ld l (n : Nat) with | some (.long x) => _ | _ => none) = _; rw [hl _ _ hv]; rfl) k
theorem j_lload {n : Nat} {x : Int64} (e : x_row (x_rws M) pc = some (p, .lload n, len, a, b, w)) (ep : pc + 2 = pc') (hv : L[n]? = some (some (.long x))) (k : j_J s τ M d pc' L (.long x :: st) σ o Φ) : j_J s τ M d pc L st σ o Φ :=
  j_s1 e rfl (fun l hp hl => by subst ep; show (match x_ld l n with | some (.long x) => _ | _ => none) = _; rw [hl _ _ hv]; rfl) k
theorem j_aload_n {n : Fin 4} {x : Nat} (e : x_row (x_rws M) pc = some (p, .aload_n n, len, a, b, w)) (ep : pc + 1 = pc') (hv : L[(n : Nat)]? = some (some (.ref x))) (k : j_J s τ M d pc' L (.ref x :: st) σ o Φ) : j_J s τ M d pc L st σ o Φ :=
  j_s1 e rfl (fun l hp hl => by subst ep; show (match x_ld l (n : Nat) with | some (.ref x) => _ | _ => none) = _; rw [hl _ _ hv]; rfl) k
theorem j_aload {n : Nat} {x : Nat} (e : x_row (x_rws M) pc = some (p, .aload n, len, a, b, w)) (ep : pc + 2 = pc') (hv : L[n]? = some (some (.ref x))) (k : j_J s τ M d pc' L (.ref x :: st) σ o Φ) : j_J s τ M d pc L st σ o Φ :=
  j_s1 e rfl (fun l hp hl => by subst ep; show (match x_ld l n with | some (.ref x) => _ | _ => none) = _; rw [hl _ _ hv]; rfl) k
theorem j_istore_n {n : Fin 4} {x : Int32} (e : x_row (x_rws M) pc = some (p, .istore_n n, len, a, b, w)) (ep : pc + 1 = pc') (hs : j_st L n (.int x) = L') (k : j_J s τ M d pc' L' st σ o Φ) : j_J s τ M d pc L (.int x :: st) σ o Φ :=
  j_step (fun l hl => ⟨x_st1 l n (.int x), by rw [← hs]; exact j_has_st hl, by rw [j_f1 e rfl]; subst ep; rfl⟩) k
theorem j_istore {n : Nat} {x : Int32} (e : x_row (x_rws M) pc = some (p, .istore n, len, a, b, w)) (ep : pc + 2 = pc') (hs : j_st L n (.int x) = L') (k : j_J s τ M d pc' L' st σ o Φ) : j_J s τ M d pc L (.int x :: st) σ o Φ :=
  j_step (fun l hl => ⟨x_st1 l n (.int x), by rw [← hs]; exact j_has_st hl, by rw [j_f1 e rfl]; subst ep; rfl⟩) k
theorem j_astore_n {n : Fin 4} {x : Nat} (e : x_row (x_rws M) pc = some (p, .astore_n n, len, a, b, w)) (ep : pc + 1 = pc') (hs : j_st L n (.ref x) = L') (k : j_J s τ M d pc' L' st σ o Φ) : j_J s τ M d pc L (.ref x :: st) σ o Φ :=
  j_step (fun l hl => ⟨x_st1 l n (.ref x), by rw [← hs]; exact j_has_st hl, by rw [j_f1 e rfl]; subst ep; rfl⟩) k
theorem j_astore {n : Nat} {x : Nat} (e : x_row (x_rws M) pc = some (p, .astore n, len, a, b, w)) (ep : pc + 2 = pc') (hs : j_st L n (.ref x) = L') (k : j_J s τ M d pc' L' st σ o Φ) : j_J s τ M d pc L (.ref x :: st) σ o Φ :=
  j_step (fun l hl => ⟨x_st1 l n (.ref x), by rw [← hs]; exact j_has_st hl, by rw [j_f1 e rfl]; subst ep; rfl⟩) k
theorem j_lstore_n {n : Fin 4} {x : Int64} (e : x_row (x_rws M) pc = some (p, .lstore_n n, len, a, b, w)) (ep : pc + 1 = pc') (hs : j_st2 L n (.long x) = L') (k : j_J s τ M d pc' L' st σ o Φ) : j_J s τ M d pc L (.long x :: st) σ o Φ :=
  j_step (fun l hl => ⟨x_st2 l n (.long x), by rw [← hs]; exact j_has_st2 hl, by rw [j_f1 e rfl]; subst ep; rfl⟩) k
theorem j_lstore {n : Nat} {x : Int64} (e : x_row (x_rws M) pc = some (p, .lstore n, len, a, b, w)) (ep : pc + 2 = pc') (hs : j_st2 L n (.long x) = L') (k : j_J s τ M d pc' L' st σ o Φ) : j_J s τ M d pc L (.long x :: st) σ o Φ :=
  j_step (fun l hl => ⟨x_st2 l n (.long x), by rw [← hs]; exact j_has_st2 hl, by rw [j_f1 e rfl]; subst ep; rfl⟩) k
/-- a local is stepped; the new number gets a name -/
theorem j_iinc {n : Nat} {c : Int} {x : Int32} {y : Int32} {f : Int32 → Option α} (e : x_row (x_rws M) pc = some (p, .iinc n c, len, a, b, w)) (ep : pc + 3 = pc') (hv : L[n]? = some (some (.int x))) (hc : Int32.ofInt c = y) (k : ∀ u, j_J s τ M d pc' (j_st L n (.int u)) st σ (f u) Φ) : j_J s τ M d pc L st σ (j_lt (x + y) f) Φ :=
  j_step (fun l hl => ⟨x_st1 l n (.int (x + y)), j_has_st hl, by
    rw [j_f1 e rfl]
    subst ep
    subst hc
    show (match x_ld l n with | some (.int x) => _ | _ => none) = _
    rw [hl _ _ hv]
    rfl⟩) (k _)
theorem j_leti {x : Int32} {f : Int32 → Option α} (k : ∀ u, j_J s τ M d pc L (.int u :: st) σ (f u) Φ) : j_J s τ M d pc L (.int x :: st) σ (j_lt x f) Φ := k x
theorem j_letl {x : Int64} {f : Int64 → Option α} (k : ∀ u, j_J s τ M d pc L (.long u :: st) σ (f u) Φ) : j_J s τ M d pc L (.long x :: st) σ (j_lt x f) Φ := k x
theorem j_idiv {x y : Int32} (e : x_row (x_rws M) pc = some (p, .idiv, len, a, b, w)) (ep : pc + 1 = pc') (k : j_J s τ M d pc' L (.int (x / y) :: st) σ o Φ) : j_J s τ M d pc L (.int y :: .int x :: st) σ (if y = 0 then none else o) Φ := by
  by_cases h : y = 0
  · rw [if_pos h]; exact j_none
  · rw [if_neg h]
    exact j_s1 e rfl (fun l hp hl => by subst ep; show (if y = 0 then none else _) = _; rw [if_neg h]; rfl) k
theorem j_irem {x y : Int32} (e : x_row (x_rws M) pc = some (p, .irem, len, a, b, w)) (ep : pc + 1 = pc') (k : j_J s τ M d pc' L (.int (x - x / y * y) :: st) σ o Φ) : j_J s τ M d pc L (.int y :: .int x :: st) σ (if y = 0 then none else o) Φ := by
  by_cases h : y = 0
  · rw [if_pos h]; exact j_none
  · rw [if_neg h]
    exact j_s1 e rfl (fun l hp hl => by subst ep; show (if y = 0 then none else _) = _; rw [if_neg h]; rfl) k
theorem j_ldiv {x y : Int64} (e : x_row (x_rws M) pc = some (p, .ldiv, len, a, b, w)) (ep : pc + 1 = pc') (k : j_J s τ M d pc' L (.long (x / y) :: st) σ o Φ) : j_J s τ M d pc L (.long y :: .long x :: st) σ (if y = 0 then none else o) Φ := by
  by_cases h : y = 0
  · rw [if_pos h]; exact j_none
  · rw [if_neg h]
    exact j_s1 e rfl (fun l hp hl => by subst ep; show (if y = 0 then none else _) = _; rw [if_neg h]; rfl) k
theorem j_lrem {x y : Int64} (e : x_row (x_rws M) pc = some (p, .lrem, len, a, b, w)) (ep : pc + 1 = pc') (k : j_J s τ M d pc' L (.long (x - x / y * y) :: st) σ o Φ) : j_J s τ M d pc L (.long y :: .long x :: st) σ (if y = 0 then none else o) Φ := by
  by_cases h : y = 0
  · rw [if_pos h]; exact j_none
  · rw [if_neg h]
    exact j_s1 e rfl (fun l hp hl => by subst ep; show (if y = 0 then none else _) = _; rw [if_neg h]; rfl) k
/-! branches -/
theorem j_brt {off : Int} {t : Nat} (ht : (pc : Int) + off = Int.ofNat t) (f : Nat → xO) : x_br pc off f = f t := by
  unfold x_br
  rw [ht]
theorem j_goto {off : Int} {t : Nat} (e : x_row (x_rws M) pc = some (p, .goto off, len, a, b, w)) (ht : (pc : Int) + off = Int.ofNat t) (k : j_J s τ M d t L st σ o Φ) : j_J s τ M d pc L st σ o Φ :=
  j_s1 e rfl (fun l hp hl => by show x_br pc off _ = _; rw [j_brt ht]; rfl) k
theorem j_if {q : Prop} [Decidable q] {t : Nat} (e : x_row (x_rws M) pc = some (p, ins, len, a, b, w)) (g : x_grp ins = 1) (h : ∀ (l : xL) (hp : xH), x_ins1 ins pc a l st hp 0 0 = if q then some (.inl (t, l, st', hp, 0, 0)) else some (.inl (pc', l, st', hp, 0, 0))) (k1 : q → j_J s τ M d t L st' σ o Φ) (k2 : ¬ q → j_J s τ M d pc' L st' σ o Φ) : j_J s τ M d pc L st σ o Φ := by
  by_cases hq : q
  · exact j_s1 e g (fun l hp hl => by rw [h, if_pos hq]) (k1 hq)
  · exact j_s1 e g (fun l hp hl => by rw [h, if_neg hq]) (k2 hq)
section JB
variable {off : Int} {t : Nat} {x y : Int32}
theorem j_ifeq (e : x_row (x_rws M) pc = some (p, .ifCond .eq off, len, a, b, w)) (ht : (pc : Int) + off = Int.ofNat t) (ep : pc + 3 = pc') (k1 : x = 0 → j_J s τ M d t L st σ o Φ) (k2 : ¬ x = 0 → j_J s τ M d pc' L st σ o Φ) : j_J s τ M d pc L (.int x :: st) σ o Φ :=
  j_if (q := x = 0) e rfl (fun l hp => by subst ep; show x_br pc off _ = _; rw [j_brt ht]; rfl) k1 k2
theorem j_ifne (e : x_row (x_rws M) pc = some (p, .ifCond .ne off, len, a, b, w)) (ht : (pc : Int) + off = Int.ofNat t) (ep : pc + 3 = pc') (k1 : ¬ x = 0 → j_J s τ M d t L st σ o Φ) (k2 : x = 0 → j_J s τ M d pc' L st σ o Φ) : j_J s τ M d pc L (.int x :: st) σ o Φ :=
  j_if (q := ¬ x = 0) e rfl (fun l hp => by subst ep; show x_br pc off _ = _; rw [j_brt ht]; rfl) k1 (fun h => k2 (Decidable.not_not.mp h))
theorem j_iflt (e : x_row (x_rws M) pc = some (p, .ifCond .lt off, len, a, b, w)) (ht : (pc : Int) + off = Int.ofNat t) (ep : pc + 3 = pc') (k1 : x < 0 → j_J s τ M d t L st σ o Φ) (k2 : ¬ x < 0 → j_J s τ M d pc' L st σ o Φ) : j_J s τ M d pc L (.int x :: st) σ o Φ :=
  j_if (q := x < 0) e rfl (fun l hp => by subst ep; show x_br pc off _ = _; rw [j_brt ht]; rfl) k1 k2
theorem j_ifge (e : x_row (x_rws M) pc = some (p, .ifCond .ge off, len, a, b, w)) (ht : (pc : Int) + off = Int.ofNat t) (ep : pc + 3 = pc') (k1 : ¬ x < 0 → j_J s τ M d t L st σ o Φ) (k2 : x < 0 → j_J s τ M d pc' L st σ o Φ) : j_J s τ M d pc L (.int x :: st) σ o Φ :=
  j_if (q := 0 ≤ x) e rfl (fun l hp => by subst ep; show x_br pc off _ = _; rw [j_brt ht]; rfl) (fun h => k1 (Int32.not_lt.mpr h)) (fun h => k2 (Int32.not_le.mp h))
theorem j_ifgt (e : x_row (x_rws M) pc = some (p, .ifCond .gt off, len, a, b, w)) (ht : (pc : Int) + off = Int.ofNat t) (ep : pc + 3 = pc') (k1 : 0 < x → j_J s τ M d t L st σ o Φ) (k2 : ¬ 0 < x → j_J s τ M d pc' L st σ o Φ) : j_J s τ M d pc L (.int x :: st) σ o Φ :=
  j_if (q := 0 < x) e rfl (fun l hp => by subst ep; show x_br pc off _ = _; rw [j_brt ht]; rfl) k1 k2
theorem j_ifle (e : x_row (x_rws M) pc = some (p, .ifCond .le off, len, a, b, w)) (ht : (pc : Int) + off = Int.ofNat t) (ep : pc + 3 = pc') (k1 : ¬ 0 < x → j_J s τ M d t L st σ o Φ) (k2 : 0 < x → j_J s τ M d pc' L st σ o Φ) : j_J s τ M d pc L (.int x :: st) σ o Φ :=
  j_if (q := x ≤ 0) e rfl (fun l hp => by subst ep; show x_br pc off _ = _; rw [j_brt ht]; rfl) (fun h => k1 (Int32.not_lt.mpr h)) (fun h => k2 (Int32.not_le.mp h))
theorem j_iceq (e : x_row (x_rws M) pc = some (p, .if_icmp .eq off, len, a, b, w)) (ht : (pc : Int) + off = Int.ofNat t) (ep : pc + 3 = pc') (k1 : x = y → j_J s τ M d t L st σ o Φ) (k2 : ¬ x = y → j_J s τ M d pc' L st σ o Φ) : j_J s τ M d pc L (.int y :: .int x :: st) σ o Φ :=
  j_if (q := x = y) e rfl (fun l hp => by subst ep; show x_br pc off _ = _; rw [j_brt ht]; rfl) k1 k2
theorem j_icne (e : x_row (x_rws M) pc = some (p, .if_icmp .ne off, len, a, b, w)) (ht : (pc : Int) + off = Int.ofNat t) (ep : pc + 3 = pc') (k1 : ¬ x = y → j_J s τ M d t L st σ o Φ) (k2 : x = y → j_J s τ M d pc' L st σ o Φ) : j_J s τ M d pc L (.int y :: .int x :: st) σ o Φ :=
  j_if (q := ¬ x = y) e rfl (fun l hp => by subst ep; show x_br pc off _ = _; rw [j_brt ht]; rfl) k1 (fun h => k2 (Decidable.not_not.mp h))
theorem j_iclt (e : x_row (x_rws M) pc = some (p, .if_icmp .lt off, len, a, b, w)) (ht : (pc : Int) + off = Int.ofNat t) (ep : pc + 3 = pc') (k1 : x < y → j_J s τ M d t L st σ o Φ) (k2 : ¬ x < y → j_J s τ M d pc' L st σ o Φ) : j_J s τ M d pc L (.int y :: .int x :: st) σ o Φ :=
  j_if (q := x < y) e rfl (fun l hp => by subst ep; show x_br pc off _ = _; rw [j_brt ht]; rfl) k1 k2
theorem j_icge (e : x_row (x_rws M) pc = some (p, .if_icmp .ge off, len, a, b, w)) (ht : (pc : Int) + off = Int.ofNat t) (ep : pc + 3 = pc') (k1 : ¬ x < y → j_J s τ M d t L st σ o Φ) (k2 : x < y → j_J s τ M d pc' L st σ o Φ) : j_J s τ M d pc L (.int y :: .int x :: st) σ o Φ :=
  j_if (q := y ≤ x) e rfl (fun l hp => by subst ep; show x_br pc off _ = _; rw [j_brt ht]; rfl) (fun h => k1 (Int32.not_lt.mpr h)) (fun h => k2 (Int32.not_le.mp h))
theorem j_icgt (e : x_row (x_rws M) pc = some (p, .if_icmp .gt off, len, a, b, w)) (ht : (pc : Int) + off = Int.ofNat t) (ep : pc + 3 = pc') (k1 : y < x → j_J s τ M d t L st σ o Φ) (k2 : ¬ y < x → j_J s τ M d pc' L st σ o Φ) : j_J s τ M d pc L (.int y :: .int x :: st) σ o Φ :=
  j_if (q := y < x) e rfl (fun l hp => by subst ep; show x_br pc off _ = _; rw [j_brt ht]; rfl) k1 k2
theorem j_icle (e : x_row (x_rws M) pc = some (p, .if_icmp .le off, len, a, b, w)) (ht : (pc : Int) + off = Int.ofNat t) (ep : pc + 3 = pc') (k1 : ¬ y < x → j_J s τ M d t L st σ o Φ) (k2 : y < x → j_J s τ M d pc' L st σ o Φ) : j_J s τ M d pc L (.int y :: .int x :: st) σ o Φ :=
  j_if (q := x ≤ y) e rfl (fun l hp => by subst ep; show x_br pc off _ = _; rw [j_brt ht]; rfl) (fun h => k1 (Int32.not_lt.mpr h)) (fun h => k2 (Int32.not_le.mp h))
end JB
theorem j_lc_lt (x y : Int64) : lg_cmp x y < 0 ↔ x < y := by
  unfold lg_cmp
  simp only [gt_iff_lt, Int64.lt_iff_toInt_lt, ← Int64.toInt_inj]
  repeat' split
  all_goals (constructor <;> intro hh <;> first | omega | decide | exact absurd hh (by decide))
theorem j_lc_gt (x y : Int64) : 0 < lg_cmp x y ↔ y < x := by
  unfold lg_cmp
  simp only [gt_iff_lt, Int64.lt_iff_toInt_lt, ← Int64.toInt_inj]
  repeat' split
  all_goals (constructor <;> intro hh <;> first | omega | decide | exact absurd hh (by decide))
theorem j_lc_eq (x y : Int64) : lg_cmp x y = 0 ↔ x = y := by
  unfold lg_cmp
  simp only [gt_iff_lt, Int64.lt_iff_toInt_lt, ← Int64.toInt_inj]
  repeat' split
  all_goals (constructor <;> intro hh <;> first | omega | decide | exact absurd hh (by decide))
/-! fields and arrays -/
section JU
variable {S : Option xS} {r q k z n : Nat} {l : xL} {h : xH} {fs : List Value} {v : Value} {i x : Int32} {y : Int64} {f : Nat → Int32} {g : Nat → Int64} {e2 : xE}
theorem j_ugf (h1 : h[q]? = some (.inr (a, fs))) (h2 : fs[b]? = some v) : x_ins2 S (.getfield r) pc a b l (.ref q :: st) h k z = x_go (pc + 3) l (v :: st) h k z := by
  show x_ob h q (fun c fs => bif Nat.beq c a then (match fs[b]? with | some v => x_go (pc + 3) l (v :: st) h k z | none => none) else none) = _
  unfold x_ob
  rw [h1]
  dsimp only
  rw [j_beq_self, h2]
  rfl
theorem j_upf (h1 : h[q]? = some (.inr (a, fs))) (h2 : x_fit (x_fty a b) v = true) (h3 : b < fs.length) : x_ins2 S (.putfield r) pc a b l (v :: .ref q :: st) h k z = x_go (pc + 3) l st (h.set q (.inr (a, fs.set b v))) k z := by
  show x_ob h q (fun c fs => bif Nat.beq c a && (x_fit (x_fty a b) v && Nat.blt b fs.length) then x_go (pc + 3) l st (h.set q (.inr (c, fs.set b v))) k z else none) = _
  unfold x_ob
  rw [h1]
  dsimp only
  rw [j_beq_self, h2, show Nat.blt b fs.length = true from Nat.ble_eq_true_of_le h3]
  rfl
theorem j_uiald (hs : Nat.beq q x_scr = false) (h1 : h[q]? = some (.inl (0, n, .inl f))) (h2 : ¬ (i < 0 ∨ n ≤ i.toNatClampNeg)) : x_ins2 S .iaload pc a b l (.int i :: .ref q :: st) h k z = x_go (pc + 1) l (.int (f i.toNatClampNeg) :: st) h k z := by
  show (bif Nat.beq q x_scr then (match S with
    | some (n, f) => x_in i n (x_go (pc + 1) l (.int (f i.toNatClampNeg) :: st) h k z)
    | none => none) else x_ari 0 h q fun n f => x_in i n (x_go (pc + 1) l (.int (f i.toNatClampNeg) :: st) h k z)) = _
  rw [hs]
  dsimp only [cond]
  unfold x_ari
  rw [h1]
  show x_in i n _ = _
  unfold x_in
  rw [if_neg h2]
theorem j_uiast (h1 : h[q]? = some (.inl (0, n, .inl f))) (h2 : ¬ (i < 0 ∨ n ≤ i.toNatClampNeg)) : x_ins2 S .iastore pc a b l (.int x :: .int i :: .ref q :: st) h k z = x_go (pc + 1) l st (h.set q (.inl (0, n, .inl (upd f i.toNatClampNeg x)))) k z := by
  show (x_ari 0 h q fun n f => x_in i n (x_go (pc + 1) l st (h.set q (.inl (0, n, .inl (upd f i.toNatClampNeg x)))) k z)) = _
  unfold x_ari
  rw [h1]
  show x_in i n _ = _
  unfold x_in
  rw [if_neg h2]
theorem j_ubald2 (h1 : h[q]? = some (.inl (2, n, .inl f))) (h2 : ¬ (i < 0 ∨ n ≤ i.toNatClampNeg)) : x_ins2 S .baload pc a b l (.int i :: .ref q :: st) h k z = x_go (pc + 1) l (.int (f i.toNatClampNeg) :: st) h k z := by
  show (match h[q]? with
    | some (.inl (2, n, .inl f)) => x_in i n (x_go (pc + 1) l (.int (f i.toNatClampNeg) :: st) h k z)
    | some (.inl (3, n, .inl f)) => x_in i n (x_go (pc + 1) l (.int (f i.toNatClampNeg) :: st) h k z)
    | _ => none) = _
  rw [h1]
  show x_in i n _ = _
  unfold x_in
  rw [if_neg h2]
theorem j_ubald3 (h1 : h[q]? = some (.inl (3, n, .inl f))) (h2 : ¬ (i < 0 ∨ n ≤ i.toNatClampNeg)) : x_ins2 S .baload pc a b l (.int i :: .ref q :: st) h k z = x_go (pc + 1) l (.int (f i.toNatClampNeg) :: st) h k z := by
  show (match h[q]? with
    | some (.inl (2, n, .inl f)) => x_in i n (x_go (pc + 1) l (.int (f i.toNatClampNeg) :: st) h k z)
    | some (.inl (3, n, .inl f)) => x_in i n (x_go (pc + 1) l (.int (f i.toNatClampNeg) :: st) h k z)
    | _ => none) = _
  rw [h1]
  show x_in i n _ = _
  unfold x_in
  rw [if_neg h2]
theorem j_ubast2 (h1 : h[q]? = some (.inl (2, n, .inl f))) (h2 : ¬ (i < 0 ∨ n ≤ i.toNatClampNeg)) : x_ins2 S .bastore pc a b l (.int x :: .int i :: .ref q :: st) h k z = x_go (pc + 1) l st (h.set q (.inl (2, n, .inl (upd f i.toNatClampNeg (vp_nar .byte x))))) k z := by
  show (match h[q]? with
    | some (.inl (2, n, .inl f)) => x_in i n (x_go (pc + 1) l st (h.set q (.inl (2, n, .inl (upd f i.toNatClampNeg (vp_nar .byte x))))) k z)
    | some (.inl (3, n, .inl f)) => x_in i n (x_go (pc + 1) l st (h.set q (.inl (3, n, .inl (upd f i.toNatClampNeg (vp_nar .boolean x))))) k z)
    | _ => none) = _
  rw [h1]
  show x_in i n _ = _
  unfold x_in
  rw [if_neg h2]
theorem j_ubast3 (h1 : h[q]? = some (.inl (3, n, .inl f))) (h2 : ¬ (i < 0 ∨ n ≤ i.toNatClampNeg)) : x_ins2 S .bastore pc a b l (.int x :: .int i :: .ref q :: st) h k z = x_go (pc + 1) l st (h.set q (.inl (3, n, .inl (upd f i.toNatClampNeg (vp_nar .boolean x))))) k z := by
  show (match h[q]? with
    | some (.inl (2, n, .inl f)) => x_in i n (x_go (pc + 1) l st (h.set q (.inl (2, n, .inl (upd f i.toNatClampNeg (vp_nar .byte x))))) k z)
    | some (.inl (3, n, .inl f)) => x_in i n (x_go (pc + 1) l st (h.set q (.inl (3, n, .inl (upd f i.toNatClampNeg (vp_nar .boolean x))))) k z)
    | _ => none) = _
  rw [h1]
  show x_in i n _ = _
  unfold x_in
  rw [if_neg h2]
theorem j_ulald (h1 : h[q]? = some (.inl (1, n, .inr (.inl g)))) (h2 : ¬ (i < 0 ∨ n ≤ i.toNatClampNeg)) : x_ins2 S .laload pc a b l (.int i :: .ref q :: st) h k z = x_go (pc + 1) l (.long (g i.toNatClampNeg) :: st) h k z := by
  show (x_arl h q fun n f => x_in i n (x_go (pc + 1) l (.long (f i.toNatClampNeg) :: st) h k z)) = _
  unfold x_arl
  rw [h1]
  show x_in i n _ = _
  unfold x_in
  rw [if_neg h2]
theorem j_ulast (h1 : h[q]? = some (.inl (1, n, .inr (.inl g)))) (h2 : ¬ (i < 0 ∨ n ≤ i.toNatClampNeg)) : x_ins2 S .lastore pc a b l (.long y :: .int i :: .ref q :: st) h k z = x_go (pc + 1) l st (h.set q (.inl (1, n, .inr (.inl (vp_updL g i.toNatClampNeg y))))) k z := by
  show (x_arl h q fun n f => x_in i n (x_go (pc + 1) l st (h.set q (.inl (1, n, .inr (.inl (vp_updL f i.toNatClampNeg y))))) k z)) = _
  unfold x_arl
  rw [h1]
  show x_in i n _ = _
  unfold x_in
  rw [if_neg h2]
theorem j_uaald {t r : Nat} {f : Nat → Option Nat} (h1 : h[q]? = some (.inl (t + 4, n, .inr (.inr (.inr (.inr f)))))) (h2 : ¬ (i < 0 ∨ n ≤ i.toNatClampNeg)) (h3 : f i.toNatClampNeg = some r) : x_ins2 S .aaload pc a b l (.int i :: .ref q :: st) h k z = x_go (pc + 1) l (.ref r :: st) h k z := by
  show (x_arq h q fun t n f => bif Nat.ble 4 t then x_in i n (x_go (pc + 1) l (va_rf (f i.toNatClampNeg) :: st) h k z) else none) = _
  unfold x_arq
  rw [h1]
  show (bif Nat.ble 4 (t + 4) then x_in i n _ else none) = _
  rw [h3, show Nat.ble 4 (t + 4) = true from Nat.ble_eq_true_of_le (by omega)]
  dsimp only [cond]
  unfold x_in
  rw [if_neg h2]
  rfl
theorem j_ualen (hs : Nat.beq q x_scr = false) {y : vp_A} {t : Nat} (h1 : h[q]? = some (.inl (t, y))) : x_ins2 S .arraylength pc a b l (.ref q :: st) h k z = x_go (pc + 1) l (.int (Int32.ofNat y.1) :: st) h k z := by
  show (bif Nat.beq q x_scr then (match S with
    | some (n, _) => x_go (pc + 1) l (.int (Int32.ofNat n) :: st) h k z
    | none => none) else x_ar h q fun n => x_go (pc + 1) l (.int (Int32.ofNat n) :: st) h k z) = _
  rw [hs]
  dsimp only [cond]
  unfold x_ar
  rw [h1]
set_option maxRecDepth 100000 in
theorem j_ucpi {a0 a1 n0 n1 : Nat} {sp dp m : Int32} {f g : Nat → Int32} (h8 : Nat.ble (x_cat st) 8 = true) (h0 : h[a0]? = some (.inl (0, n0, .inl f))) (h1 : h[a1]? = some (.inl (0, n1, .inl g))) (h2 : ¬ (sp < 0 ∨ dp < 0 ∨ m < 0 ∨ n0 < sp.toNatClampNeg + m.toNatClampNeg ∨ n1 < dp.toNatClampNeg + m.toNatClampNeg)) : x_ins3 (.invokestatic r) pc 9004 b l (.int m :: .int dp :: .ref a1 :: .int sp :: .ref a0 :: st) h k z = x_go (pc + 3) l st (h.set a1 (.inl (0, n1, .inl (va_cpy f g sp.toNatClampNeg dp.toNatClampNeg m.toNatClampNeg)))) k z := by
  show (bif Nat.ble (x_cat st) 8 then x_ari 0 h a0 fun n0 f => x_ari 0 h a1 fun n1 g => if sp < 0 ∨ dp < 0 ∨ m < 0 ∨ n0 < sp.toNatClampNeg + m.toNatClampNeg ∨ n1 < dp.toNatClampNeg + m.toNatClampNeg then none else x_go (pc + 3) l st (h.set a1 (.inl (0, n1, .inl (va_cpy f g sp.toNatClampNeg dp.toNatClampNeg m.toNatClampNeg)))) k z else none) = _
  rw [h8]
  dsimp only [cond]
  unfold x_ari
  rw [h0, h1]
  show (if sp < 0 ∨ dp < 0 ∨ m < 0 ∨ n0 < sp.toNatClampNeg + m.toNatClampNeg ∨ n1 < dp.toNatClampNeg + m.toNatClampNeg then none else _) = _
  rw [if_neg h2]
set_option maxRecDepth 100000 in
theorem j_ucpl {a0 a1 n0 n1 : Nat} {sp dp m : Int32} {f g : Nat → Int64} (h8 : Nat.ble (x_cat st) 8 = true) (h0 : h[a0]? = some (.inl (1, n0, .inr (.inl f)))) (h1 : h[a1]? = some (.inl (1, n1, .inr (.inl g)))) (h2 : ¬ (sp < 0 ∨ dp < 0 ∨ m < 0 ∨ n0 < sp.toNatClampNeg + m.toNatClampNeg ∨ n1 < dp.toNatClampNeg + m.toNatClampNeg)) : x_ins3 (.invokestatic r) pc 9005 b l (.int m :: .int dp :: .ref a1 :: .int sp :: .ref a0 :: st) h k z = x_go (pc + 3) l st (h.set a1 (.inl (1, n1, .inr (.inl (va_cpy f g sp.toNatClampNeg dp.toNatClampNeg m.toNatClampNeg))))) k z := by
  show (bif Nat.ble (x_cat st) 8 then x_arl h a0 fun n0 f => x_arl h a1 fun n1 g => if sp < 0 ∨ dp < 0 ∨ m < 0 ∨ n0 < sp.toNatClampNeg + m.toNatClampNeg ∨ n1 < dp.toNatClampNeg + m.toNatClampNeg then none else x_go (pc + 3) l st (h.set a1 (.inl (1, n1, .inr (.inl (va_cpy f g sp.toNatClampNeg dp.toNatClampNeg m.toNatClampNeg))))) k z else none) = _
  rw [h8]
  dsimp only [cond]
  unfold x_arl
  rw [h0, h1]
  show (if sp < 0 ∨ dp < 0 ∨ m < 0 ∨ n0 < sp.toNatClampNeg + m.toNatClampNeg ∨ n1 < dp.toNatClampNeg + m.toNatClampNeg then none else _) = _
  rw [if_neg h2]
end JU
theorem j_mi {f : Nat → Nat → Value} {fs : List Nat} {b t : Nat} (h : fs[b]? = some t) : (fs.mapIdx f)[b]? = some (f b t) := by
  rw [List.getElem?_mapIdx, h]
  rfl
theorem j_ob {q k : Nat} {fs : List Nat} (h : j_at s q = some (.inr (k, fs))) : (j_hp s σ τ)[q]? = some (.inr (k, fs.mapIdx (fun j y => j_val σ q j y))) := j_get h
theorem j_ai {q t n : Nat} {rs : List Nat} (h : j_at s q = some (.inl (t, n, rs))) (h1 : Nat.beq t 1 = false) (h2 : Nat.blt t 4 = true) : (j_hp s σ τ)[q]? = some (.inl (t, n, .inl (σ.1 q))) := by
  rw [j_get h, j_ari h1 h2]
theorem j_al {q n : Nat} {rs : List Nat} (h : j_at s q = some (.inl (1, n, rs))) : (j_hp s σ τ)[q]? = some (.inl (1, n, .inr (.inl (σ.2 q)))) := by
  rw [j_get h, j_arl]
theorem j_aq {q t n : Nat} {rs : List Nat} (h : j_at s q = some (.inl (t + 4, n, rs))) : (j_hp s σ τ)[q]? = some (.inl (t + 4, n, .inr (.inr (.inr (.inr (fun j => rs[j]?)))))) := j_get h
theorem j_go {pc2 : Nat} {l : xL} {st2 : List Value} {h : xH} : x_go pc2 l st2 h 0 0 = some (.inl (pc2, l, st2, h, 0, 0)) := rfl
theorem j_gf {q r : Nat} {fs : List Nat} {v : Value} (e : x_row (x_rws M) pc = some (p, .getfield r, len, a, b, w)) (ep : pc + 3 = pc') (hq : j_at s q = some (.inr (a, fs))) {t : Nat} (hf : fs[b]? = some t) (hv : j_val σ q b t = v) (k : j_J s τ M d pc' L (v :: st) σ o Φ) : j_J s τ M d pc L (.ref q :: st) σ o Φ :=
  j_step (fun l hl => ⟨l, hl, by rw [j_f2 e rfl, j_ugf (j_ob hq) (j_mi hf), hv, ep, j_go]⟩) k
theorem j_gfi {q r : Nat} {fs : List Nat} (e : x_row (x_rws M) pc = some (p, .getfield r, len, a, b, w)) (ep : pc + 3 = pc') (hq : j_at s q = some (.inr (a, fs))) (hf : fs[b]? = some 0) (k : j_J s τ M d pc' L (.int (σ.1 q b) :: st) σ o Φ) : j_J s τ M d pc L (.ref q :: st) σ o Φ := j_gf e ep hq hf rfl k
theorem j_gfl {q r : Nat} {fs : List Nat} (e : x_row (x_rws M) pc = some (p, .getfield r, len, a, b, w)) (ep : pc + 3 = pc') (hq : j_at s q = some (.inr (a, fs))) (hf : fs[b]? = some 1) (k : j_J s τ M d pc' L (.long (σ.2 q b) :: st) σ o Φ) : j_J s τ M d pc L (.ref q :: st) σ o Φ := j_gf e ep hq hf rfl k
theorem j_gfr {q r x t : Nat} {fs : List Nat} (e : x_row (x_rws M) pc = some (p, .getfield r, len, a, b, w)) (ep : pc + 3 = pc') (hq : j_at s q = some (.inr (a, fs))) (hf : fs[b]? = some t) (ht : t = x + 2) (k : j_J s τ M d pc' L (.ref x :: st) σ o Φ) : j_J s τ M d pc L (.ref q :: st) σ o Φ := j_gf e ep hq hf (by subst ht; rfl) k
theorem j_pfi {q r : Nat} {fs : List Nat} {v : Int32} {f : j_G → Option α} (e : x_row (x_rws M) pc = some (p, .putfield r, len, a, b, w)) (ep : pc + 3 = pc') (hq : j_at s q = some (.inr (a, fs))) (hf : fs[b]? = some 0) (hy : x_fit (x_fty a b) (.int v) = true) (k : ∀ σ', j_J s τ M d pc' L st σ' (f σ') Φ) : j_J s τ M d pc L (.int v :: .ref q :: st) σ (j_lt (j_si σ q b v) f) Φ :=
  j_step (fun l hl => ⟨l, hl, by rw [j_f2 e rfl, j_upf (j_ob hq) hy (by rw [List.length_mapIdx]; exact (List.getElem?_eq_some_iff.mp hf).1), j_seti hq hf, ep, j_go]⟩) (k _)
theorem j_pfl {q r : Nat} {fs : List Nat} {v : Int64} {f : j_G → Option α} (e : x_row (x_rws M) pc = some (p, .putfield r, len, a, b, w)) (ep : pc + 3 = pc') (hq : j_at s q = some (.inr (a, fs))) (hf : fs[b]? = some 1) (hy : x_fit (x_fty a b) (.long v) = true) (k : ∀ σ', j_J s τ M d pc' L st σ' (f σ') Φ) : j_J s τ M d pc L (.long v :: .ref q :: st) σ (j_lt (j_sl σ q b v) f) Φ :=
  j_step (fun l hl => ⟨l, hl, by rw [j_f2 e rfl, j_upf (j_ob hq) hy (by rw [List.length_mapIdx]; exact (List.getElem?_eq_some_iff.mp hf).1), j_setl hq hf, ep, j_go]⟩) (k _)
theorem j_nscr {c : Nat} {q : j_T} (h : j_at s c = some q) : Nat.beq c x_scr = false := by
  refine j_beq_ne fun z => ?_
  unfold j_at at h
  cases ho : j_ow s c with
  | false => rw [ho] at h; cases h
  | true =>
    rw [ho] at h
    have hl := (List.getElem?_eq_some_iff.mp h).1
    rw [z] at hl
    exact absurd hl (by decide)
theorem j_ixJ {i : Int32} {n : Nat} (k : ¬ (i < 0 ∨ n ≤ i.toNatClampNeg) → j_J s τ M d pc L st σ o Φ) : j_J s τ M d pc L st σ (j_ix i n o) Φ := by
  unfold j_ix
  by_cases h : i < 0 ∨ n ≤ i.toNatClampNeg
  · rw [if_pos h]; exact j_none
  · rw [if_neg h]; exact k h
theorem j_iald {q n : Nat} {rs : List Nat} {i : Int32} (e : x_row (x_rws M) pc = some (p, .iaload, len, a, b, w)) (ep : pc + 1 = pc') (hq : j_at s q = some (.inl (0, n, rs))) (k : j_J s τ M d pc' L (.int (σ.1 q i.toNatClampNeg) :: st) σ o Φ) : j_J s τ M d pc L (.int i :: .ref q :: st) σ (j_ix i n o) Φ :=
  j_ixJ fun h => j_step (fun l hl => ⟨l, hl, by rw [j_f2 e rfl, j_uiald (j_nscr hq) (j_ai hq rfl rfl) h, ep, j_go]⟩) k
theorem j_iast {q n : Nat} {rs : List Nat} {i v : Int32} {f : j_G → Option α} (e : x_row (x_rws M) pc = some (p, .iastore, len, a, b, w)) (ep : pc + 1 = pc') (hq : j_at s q = some (.inl (0, n, rs))) (k : ∀ σ', j_J s τ M d pc' L st σ' (f σ') Φ) : j_J s τ M d pc L (.int v :: .int i :: .ref q :: st) σ (j_ix i n (j_lt (j_si σ q i.toNatClampNeg v) f)) Φ :=
  j_ixJ fun h => j_step (fun l hl => ⟨l, hl, by rw [j_f2 e rfl, j_uiast (j_ai hq rfl rfl) h, j_asti hq rfl rfl, ep, j_go]⟩) (k _)
theorem j_bald {q n : Nat} {rs : List Nat} {i : Int32} (e : x_row (x_rws M) pc = some (p, .baload, len, a, b, w)) (ep : pc + 1 = pc') (hq : j_at s q = some (.inl (2, n, rs))) (k : j_J s τ M d pc' L (.int (σ.1 q i.toNatClampNeg) :: st) σ o Φ) : j_J s τ M d pc L (.int i :: .ref q :: st) σ (j_ix i n o) Φ :=
  j_ixJ fun h => j_step (fun l hl => ⟨l, hl, by rw [j_f2 e rfl, j_ubald2 (j_ai hq rfl rfl) h, ep, j_go]⟩) k
theorem j_baldz {q n : Nat} {rs : List Nat} {i : Int32} (e : x_row (x_rws M) pc = some (p, .baload, len, a, b, w)) (ep : pc + 1 = pc') (hq : j_at s q = some (.inl (3, n, rs))) (k : j_J s τ M d pc' L (.int (σ.1 q i.toNatClampNeg) :: st) σ o Φ) : j_J s τ M d pc L (.int i :: .ref q :: st) σ (j_ix i n o) Φ :=
  j_ixJ fun h => j_step (fun l hl => ⟨l, hl, by rw [j_f2 e rfl, j_ubald3 (j_ai hq rfl rfl) h, ep, j_go]⟩) k
theorem j_bast {q n : Nat} {rs : List Nat} {i v : Int32} {f : j_G → Option α} (e : x_row (x_rws M) pc = some (p, .bastore, len, a, b, w)) (ep : pc + 1 = pc') (hq : j_at s q = some (.inl (2, n, rs))) (k : ∀ σ', j_J s τ M d pc' L st σ' (f σ') Φ) : j_J s τ M d pc L (.int v :: .int i :: .ref q :: st) σ (j_ix i n (j_lt (j_si σ q i.toNatClampNeg (vp_nar .byte v)) f)) Φ :=
  j_ixJ fun h => j_step (fun l hl => ⟨l, hl, by rw [j_f2 e rfl, j_ubast2 (j_ai hq rfl rfl) h, j_asti hq rfl rfl, ep, j_go]⟩) (k _)
theorem j_bastz {q n : Nat} {rs : List Nat} {i v : Int32} {f : j_G → Option α} (e : x_row (x_rws M) pc = some (p, .bastore, len, a, b, w)) (ep : pc + 1 = pc') (hq : j_at s q = some (.inl (3, n, rs))) (k : ∀ σ', j_J s τ M d pc' L st σ' (f σ') Φ) : j_J s τ M d pc L (.int v :: .int i :: .ref q :: st) σ (j_ix i n (j_lt (j_si σ q i.toNatClampNeg (vp_nar .boolean v)) f)) Φ :=
  j_ixJ fun h => j_step (fun l hl => ⟨l, hl, by rw [j_f2 e rfl, j_ubast3 (j_ai hq rfl rfl) h, j_asti hq rfl rfl, ep, j_go]⟩) (k _)
theorem j_lald {q n : Nat} {rs : List Nat} {i : Int32} (e : x_row (x_rws M) pc = some (p, .laload, len, a, b, w)) (ep : pc + 1 = pc') (hq : j_at s q = some (.inl (1, n, rs))) (k : j_J s τ M d pc' L (.long (σ.2 q i.toNatClampNeg) :: st) σ o Φ) : j_J s τ M d pc L (.int i :: .ref q :: st) σ (j_ix i n o) Φ :=
  j_ixJ fun h => j_step (fun l hl => ⟨l, hl, by rw [j_f2 e rfl, j_ulald (j_al hq) h, ep, j_go]⟩) k
theorem j_last {q n : Nat} {rs : List Nat} {i : Int32} {v : Int64} {f : j_G → Option α} (e : x_row (x_rws M) pc = some (p, .lastore, len, a, b, w)) (ep : pc + 1 = pc') (hq : j_at s q = some (.inl (1, n, rs))) (k : ∀ σ', j_J s τ M d pc' L st σ' (f σ') Φ) : j_J s τ M d pc L (.long v :: .int i :: .ref q :: st) σ (j_ix i n (j_lt (j_sl σ q i.toNatClampNeg v) f)) Φ :=
  j_ixJ fun h => j_step (fun l hl => ⟨l, hl, by rw [j_f2 e rfl, j_ulast (j_al hq) h, j_astl hq, ep, j_go]⟩) (k _)
/-- a row of objects, at a place that is known -/
theorem j_aald {q n t r : Nat} {rs : List Nat} {i : Int32} (e : x_row (x_rws M) pc = some (p, .aaload, len, a, b, w)) (ep : pc + 1 = pc') (hq : j_at s q = some (.inl (t + 4, n, rs))) (hi : ¬ (i < 0 ∨ n ≤ i.toNatClampNeg)) (hr : rs[i.toNatClampNeg]? = some r) (k : j_J s τ M d pc' L (.ref r :: st) σ o Φ) : j_J s τ M d pc L (.int i :: .ref q :: st) σ o Φ :=
  j_step (fun l hl => ⟨l, hl, by rw [j_f2 e rfl, j_uaald (j_aq hq) hi hr, ep, j_go]⟩) k
theorem j_alen {q n t : Nat} {rs : List Nat} {v : Int32} (e : x_row (x_rws M) pc = some (p, .arraylength, len, a, b, w)) (ep : pc + 1 = pc') (hq : j_at s q = some (.inl (t, n, rs))) (hv : Int32.ofNat n = v) (k : j_J s τ M d pc' L (.int v :: st) σ o Φ) : j_J s τ M d pc L (.ref q :: st) σ o Φ :=
  j_step (fun l hl => ⟨l, hl, by rw [j_f2 e rfl, j_ualen (j_nscr hq) (j_get hq), hv, ep, j_go]⟩) k
/-! a value is one of some -/
theorem j_spl {f : Option α} {i k : Int32} (h1 : i = k → j_J s τ M d pc L st σ o Φ) (h2 : ¬ i = k → j_J s τ M d pc L st σ f Φ) : j_J s τ M d pc L st σ (if i = k then o else f) Φ := by
  by_cases h : i = k
  · rw [if_pos h]; exact h1 h
  · rw [if_neg h]; exact h2 h
/-! what stands one behind the other -/
theorem j_q0 {ol : Option α} {f : Option β} {Φl : α → (Option Value → j_G → Prop) → Prop} {Φ : β → (Option Value → j_G → Prop) → Prop} (hl : j_J s τ M d pc L st σ ol Φl) (k : ∀ x r, f = some r → ∀ Q, Φ r Q → Φl x Q) : j_J s τ M d pc L st σ (j_b0 ol f) Φ := by
  intro r hr Q hQ
  unfold j_b0 at hr
  cases ho : ol with
  | none => rw [ho] at hr; cases hr
  | some x => rw [ho] at hr; exact hl x ho Q (k x r hr Q hQ)
theorem j_q1 {ol : Option α} {f : α → Option β} {Φl : α → (Option Value → j_G → Prop) → Prop} {Φ : β → (Option Value → j_G → Prop) → Prop} (hl : j_J s τ M d pc L st σ ol Φl) (k : ∀ x r, f x = some r → ∀ Q, Φ r Q → Φl x Q) : j_J s τ M d pc L st σ (j_b1 ol f) Φ := by
  intro r hr Q hQ
  unfold j_b1 at hr
  cases ho : ol with
  | none => rw [ho] at hr; cases hr
  | some x => rw [ho] at hr; exact hl x ho Q (k x r hr Q hQ)
theorem j_q2 {ol : Option (α × β)} {f : α → β → Option γ} {Φl : α × β → (Option Value → j_G → Prop) → Prop} {Φ : γ → (Option Value → j_G → Prop) → Prop} (hl : j_J s τ M d pc L st σ ol Φl) (k : ∀ x y r, f x y = some r → ∀ Q, Φ r Q → Φl (x, y) Q) : j_J s τ M d pc L st σ (j_b2 ol f) Φ := by
  intro r hr Q hQ
  unfold j_b2 at hr
  cases ho : ol with
  | none => rw [ho] at hr; cases hr
  | some x => rw [ho] at hr; exact hl x ho Q (k x.1 x.2 r hr Q hQ)
theorem j_q3 {ol : Option (α × β × γ)} {f : α → β → γ → Option δ} {Φl : α × β × γ → (Option Value → j_G → Prop) → Prop} {Φ : δ → (Option Value → j_G → Prop) → Prop} (hl : j_J s τ M d pc L st σ ol Φl) (k : ∀ x y z r, f x y z = some r → ∀ Q, Φ r Q → Φl (x, y, z) Q) : j_J s τ M d pc L st σ (j_b3 ol f) Φ := by
  intro r hr Q hQ
  unfold j_b3 at hr
  cases ho : ol with
  | none => rw [ho] at hr; cases hr
  | some x => rw [ho] at hr; exact hl x ho Q (k x.1 x.2.1 x.2.2 r hr Q hQ)
theorem j_q4 {ol : Option (α × β × γ × δ)} {f : α → β → γ → δ → Option ε} {Φl : α × β × γ × δ → (Option Value → j_G → Prop) → Prop} {Φ : ε → (Option Value → j_G → Prop) → Prop} (hl : j_J s τ M d pc L st σ ol Φl) (k : ∀ x y z u r, f x y z u = some r → ∀ Q, Φ r Q → Φl (x, y, z, u) Q) : j_J s τ M d pc L st σ (j_b4 ol f) Φ := by
  intro r hr Q hQ
  unfold j_b4 at hr
  cases ho : ol with
  | none => rw [ho] at hr; cases hr
  | some x => rw [ho] at hr; exact hl x ho Q (k x.1 x.2.1 x.2.2.1 x.2.2.2 r hr Q hQ)
theorem j_q5 {ol : Option (α × β × γ × δ × ε)} {f : α → β → γ → δ → ε → Option ζ} {Φl : α × β × γ × δ × ε → (Option Value → j_G → Prop) → Prop} {Φ : ζ → (Option Value → j_G → Prop) → Prop} (hl : j_J s τ M d pc L st σ ol Φl) (k : ∀ x y z u v r, f x y z u v = some r → ∀ Q, Φ r Q → Φl (x, y, z, u, v) Q) : j_J s τ M d pc L st σ (j_b5 ol f) Φ := by
  intro r hr Q hQ
  unfold j_b5 at hr
  cases ho : ol with
  | none => rw [ho] at hr; cases hr
  | some x => rw [ho] at hr; exact hl x ho Q (k x.1 x.2.1 x.2.2.1 x.2.2.2.1 x.2.2.2.2 r hr Q hQ)
theorem j_q6 {ol : Option (α × β × γ × δ × ε × ζ)} {f : α → β → γ → δ → ε → ζ → Option η} {Φl : α × β × γ × δ × ε × ζ → (Option Value → j_G → Prop) → Prop} {Φ : η → (Option Value → j_G → Prop) → Prop} (hl : j_J s τ M d pc L st σ ol Φl) (k : ∀ x y z u v w r, f x y z u v w = some r → ∀ Q, Φ r Q → Φl (x, y, z, u, v, w) Q) : j_J s τ M d pc L st σ (j_b6 ol f) Φ := by
  intro r hr Q hQ
  unfold j_b6 at hr
  cases ho : ol with
  | none => rw [ho] at hr; cases hr
  | some x => rw [ho] at hr; exact hl x ho Q (k x.1 x.2.1 x.2.2.1 x.2.2.2.1 x.2.2.2.2.1 x.2.2.2.2.2 r hr Q hQ)
theorem j_ql {x : β} {f : β → Option α} {Φl : β → (Option Value → j_G → Prop) → Prop} (hl : j_J s τ M d pc L st σ (some x) Φl) (k : ∀ x r, f x = some r → ∀ Q, Φ r Q → Φl x Q) : j_J s τ M d pc L st σ (j_lt x f) Φ :=
  fun r hr Q hQ => hl x rfl Q (k x r hr Q hQ)
/-! calls -/
def j_K (s : Bool) (D i : Nat) (vs : List Value) (σ : j_G) {α : Type} (o : Option α) (Φ : α → (Option Value → j_G → Prop) → Prop) : Prop :=
  ∀ (d : Nat), D ≤ d → ∀ (τ : j_G) (r : α), o = some r → ∀ Q, Φ r Q → ∃ M', (x_mt : List xM)[i]? = some M' ∧ (Nat.ble (x_cat vs) M'.2.2.2.1 && x_rcv M' vs (j_hp s σ τ)) = true ∧ ∃ (n : Nat) (v : Option Value) (σ' : j_G), x_run x_mt none n d M' (0, lv_args 0 vs, [], j_hp s σ τ, 0, 0) = some (v, j_hp s σ' τ, 0, 0) ∧ Q v σ'
theorem j_mkK {D i m : Nat} {vs : List Value} (em : (x_mt : List xM)[i]? = some M) (hb : Nat.ble (x_cat vs) M.2.2.2.1 = true) (hr : ∀ σ τ : j_G, x_rcv M vs (j_hp s σ τ) = true) (hL : j_la vs ++ List.replicate m none = L) (k : ∀ d, D ≤ d → ∀ τ, j_J s τ M d 0 L [] σ o Φ) : j_K s D i vs σ o Φ := by
  intro d hd τ r ho Q hQ
  refine ⟨M, em, by rw [hb, hr]; rfl, k d hd τ r ho Q hQ _ ?_⟩
  intro n v hn
  have := j_args vs 0 m n v (by rw [hL]; exact hn)
  rw [Nat.zero_add] at this
  exact this
theorem j_rcvS {vs : List Value} (h : M.2.2.2.2.2.1 = true) (σ τ : j_G) : x_rcv M vs (j_hp s σ τ) = true := by
  unfold x_rcv
  rw [h]
  rfl
theorem j_rcvO {q c : Nat} {fs : List Nat} {vs : List Value} (h : j_at s q = some (.inr (c, fs))) (hc : M.2.2.2.2.2.2.1 = c) (σ τ : j_G) : x_rcv M (.ref q :: vs) (j_hp s σ τ) = true := by
  unfold x_rcv
  dsimp only
  rw [j_get h]
  show (_ || Nat.beq c _) = true
  rw [hc, j_beq_self, Bool.or_true]
theorem j_calQ {β : Type} {oc : Option β} {Φc : β → (Option Value → j_G → Prop) → Prop} {D ai : Nat} {vs rest : List Value} (e : x_row (x_rws M) pc = some (p, ins, len, a, b, w)) (g : x_grp ins = 3) (hx : ∀ (l : xL) (h : xH), x_ins3 ins pc a b l st h 0 0 = some (.inr (.inl (ai, vs, rest)))) (hK : j_K s D ai vs σ oc Φc) (hD : D < d) (ep : pc + 3 = pc') {x : β} (hx2 : oc = some x) {Q : Option Value → j_G → Prop} (k : Φc x (fun v σ' => j_Tr s τ M d pc' L (v.toList ++ rest) σ' Q)) : j_Tr s τ M d pc L st σ Q := by
  intro l hl
  cases d with
  | zero => exact absurd hD (by omega)
  | succ d =>
    obtain ⟨M', em, hc, n1, v, σ1, h1, h2⟩ := hK d (by omega) τ x hx2 _ k
    obtain ⟨n2, v2, σ2, h3, h4⟩ := h2 l hl
    refine ⟨max n1 n2 + 1, v2, σ2, ?_, h4⟩
    unfold x_run
    rw [j_f3 e g, hx]
    dsimp only
    rw [em]
    dsimp only
    rw [hc]
    dsimp only [cond]
    rw [x_more _ _ _ _ _ _ h1 _ (Nat.le_max_left _ _)]
    have h5 := x_more _ _ _ _ _ _ h3 (max n1 n2) (Nat.le_max_right _ _)
    rw [← ep] at h5
    dsimp only
    simp only [Nat.add_zero]
    exact h5
section JC
variable {D ai : Nat} {vs rest : List Value}
theorem j_callRi {oc : Option (Int32 × j_G)} {f : Int32 → j_G → Option α} (e : x_row (x_rws M) pc = some (p, ins, len, a, b, w)) (g : x_grp ins = 3) (hx : ∀ (l : xL) (h : xH), x_ins3 ins pc a b l st h 0 0 = some (.inr (.inl (ai, vs, rest)))) (hK : j_K s D ai vs σ oc j_Ri) (hD : D < d) (ep : pc + 3 = pc') (k : ∀ v σ', j_J s τ M d pc' L (.int v :: rest) σ' (f v σ') Φ) : j_J s τ M d pc L st σ (j_b2 oc f) Φ := by
  intro r hr Q hQ
  cases ho : oc with
  | none => rw [ho] at hr; cases hr
  | some x => rw [ho] at hr; exact j_calQ e g hx hK hD ep ho (k x.1 x.2 r hr Q hQ)
theorem j_callRl {oc : Option (Int64 × j_G)} {f : Int64 → j_G → Option α} (e : x_row (x_rws M) pc = some (p, ins, len, a, b, w)) (g : x_grp ins = 3) (hx : ∀ (l : xL) (h : xH), x_ins3 ins pc a b l st h 0 0 = some (.inr (.inl (ai, vs, rest)))) (hK : j_K s D ai vs σ oc j_Rl) (hD : D < d) (ep : pc + 3 = pc') (k : ∀ v σ', j_J s τ M d pc' L (.long v :: rest) σ' (f v σ') Φ) : j_J s τ M d pc L st σ (j_b2 oc f) Φ := by
  intro r hr Q hQ
  cases ho : oc with
  | none => rw [ho] at hr; cases hr
  | some x => rw [ho] at hr; exact j_calQ e g hx hK hD ep ho (k x.1 x.2 r hr Q hQ)
theorem j_callRv {oc : Option j_G} {f : j_G → Option α} (e : x_row (x_rws M) pc = some (p, ins, len, a, b, w)) (g : x_grp ins = 3) (hx : ∀ (l : xL) (h : xH), x_ins3 ins pc a b l st h 0 0 = some (.inr (.inl (ai, vs, rest)))) (hK : j_K s D ai vs σ oc j_Rv) (hD : D < d) (ep : pc + 3 = pc') (k : ∀ σ', j_J s τ M d pc' L rest σ' (f σ') Φ) : j_J s τ M d pc L st σ (j_b1 oc f) Φ := by
  intro r hr Q hQ
  cases ho : oc with
  | none => rw [ho] at hr; cases hr
  | some x => rw [ho] at hr; exact j_calQ e g hx hK hD ep ho (k x r hr Q hQ)
theorem j_callPi {oc : Option Int32} {f : Int32 → Option α} (e : x_row (x_rws M) pc = some (p, ins, len, a, b, w)) (g : x_grp ins = 3) (hx : ∀ (l : xL) (h : xH), x_ins3 ins pc a b l st h 0 0 = some (.inr (.inl (ai, vs, rest)))) (hK : j_K s D ai vs σ oc (j_Pi σ)) (hD : D < d) (ep : pc + 3 = pc') (k : ∀ v, j_J s τ M d pc' L (.int v :: rest) σ (f v) Φ) : j_J s τ M d pc L st σ (j_b1 oc f) Φ := by
  intro r hr Q hQ
  cases ho : oc with
  | none => rw [ho] at hr; cases hr
  | some x => rw [ho] at hr; exact j_calQ e g hx hK hD ep ho (k x r hr Q hQ)
theorem j_callPl {oc : Option Int64} {f : Int64 → Option α} (e : x_row (x_rws M) pc = some (p, ins, len, a, b, w)) (g : x_grp ins = 3) (hx : ∀ (l : xL) (h : xH), x_ins3 ins pc a b l st h 0 0 = some (.inr (.inl (ai, vs, rest)))) (hK : j_K s D ai vs σ oc (j_Pl σ)) (hD : D < d) (ep : pc + 3 = pc') (k : ∀ v, j_J s τ M d pc' L (.long v :: rest) σ (f v) Φ) : j_J s τ M d pc L st σ (j_b1 oc f) Φ := by
  intro r hr Q hQ
  cases ho : oc with
  | none => rw [ho] at hr; cases hr
  | some x => rw [ho] at hr; exact j_calQ e g hx hK hD ep ho (k x r hr Q hQ)
theorem j_callPv {oc : Option Unit} {f : Option α} (e : x_row (x_rws M) pc = some (p, ins, len, a, b, w)) (g : x_grp ins = 3) (hx : ∀ (l : xL) (h : xH), x_ins3 ins pc a b l st h 0 0 = some (.inr (.inl (ai, vs, rest)))) (hK : j_K s D ai vs σ oc (j_Pv σ)) (hD : D < d) (ep : pc + 3 = pc') (k : j_J s τ M d pc' L rest σ f Φ) : j_J s τ M d pc L st σ (j_b0 oc f) Φ := by
  intro r hr Q hQ
  cases ho : oc with
  | none => rw [ho] at hr; cases hr
  | some x => rw [ho] at hr; exact j_calQ e g hx hK hD ep ho (k r hr Q hQ)
theorem j_callTi {v : Int32} (e : x_row (x_rws M) pc = some (p, ins, len, a, b, w)) (g : x_grp ins = 3) (hx : ∀ (l : xL) (h : xH), x_ins3 ins pc a b l st h 0 0 = some (.inr (.inl (ai, vs, rest)))) (hK : j_K s D ai vs σ (some v) (j_Pi σ)) (hD : D < d) (ep : pc + 3 = pc') (k : j_J s τ M d pc' L (.int v :: rest) σ o Φ) : j_J s τ M d pc L st σ o Φ := by
  intro r hr Q hQ
  exact j_calQ e g hx hK hD ep rfl (k r hr Q hQ)
theorem j_callTl {v : Int64} (e : x_row (x_rws M) pc = some (p, ins, len, a, b, w)) (g : x_grp ins = 3) (hx : ∀ (l : xL) (h : xH), x_ins3 ins pc a b l st h 0 0 = some (.inr (.inl (ai, vs, rest)))) (hK : j_K s D ai vs σ (some v) (j_Pl σ)) (hD : D < d) (ep : pc + 3 = pc') (k : j_J s τ M d pc' L (.long v :: rest) σ o Φ) : j_J s τ M d pc L st σ o Φ := by
  intro r hr Q hQ
  exact j_calQ e g hx hK hD ep rfl (k r hr Q hQ)
theorem j_callTr {v : Nat} (e : x_row (x_rws M) pc = some (p, ins, len, a, b, w)) (g : x_grp ins = 3) (hx : ∀ (l : xL) (h : xH), x_ins3 ins pc a b l st h 0 0 = some (.inr (.inl (ai, vs, rest)))) (hK : j_K s D ai vs σ (some v) (j_Pr σ)) (hD : D < d) (ep : pc + 3 = pc') (k : j_J s τ M d pc' L (.ref v :: rest) σ o Φ) : j_J s τ M d pc L st σ o Φ := by
  intro r hr Q hQ
  exact j_calQ e g hx hK hD ep rfl (k r hr Q hQ)
end JC
/-- Math.max, min, abs: seen by reckoning -/
theorem j_lib (e : x_row (x_rws M) pc = some (p, ins, len, a, b, w)) (g : x_grp ins = 3) (h : ∀ (l : xL) (hp : xH), x_ins3 ins pc a b l st hp 0 0 = some (.inl (pc', l, st', hp, 0, 0))) (k : j_J s τ M d pc' L st' σ o Φ) : j_J s τ M d pc L st σ o Φ :=
  j_step (fun l hl => ⟨l, hl, by rw [j_f3 e g]; exact h l _⟩) k
theorem j_cgJ {sp dp n : Int32} {n0 n1 : Nat} (k : ¬ (sp < 0 ∨ dp < 0 ∨ n < 0 ∨ n0 < sp.toNatClampNeg + n.toNatClampNeg ∨ n1 < dp.toNatClampNeg + n.toNatClampNeg) → j_J s τ M d pc L st σ o Φ) : j_J s τ M d pc L st σ (j_cg sp dp n n0 n1 o) Φ := by
  unfold j_cg
  by_cases h : sp < 0 ∨ dp < 0 ∨ n < 0 ∨ n0 < sp.toNatClampNeg + n.toNatClampNeg ∨ n1 < dp.toNatClampNeg + n.toNatClampNeg
  · rw [if_pos h]; exact j_none
  · rw [if_neg h]; exact k h
theorem j_cpi {a0 a1 n0 n1 r : Nat} {rs0 rs1 : List Nat} {sp dp n : Int32} {f : j_G → Option α} (e : x_row (x_rws M) pc = some (p, .invokestatic r, len, 9004, b, w)) (ep : pc + 3 = pc') (h8 : Nat.ble (x_cat st) 8 = true) (h0 : j_at s a0 = some (.inl (0, n0, rs0))) (h1 : j_at s a1 = some (.inl (0, n1, rs1))) (k : ∀ σ', j_J s τ M d pc' L st σ' (f σ') Φ) : j_J s τ M d pc L (.int n :: .int dp :: .ref a1 :: .int sp :: .ref a0 :: st) σ (j_cg sp dp n n0 n1 (j_lt (j_ci σ a0 sp.toNatClampNeg a1 dp.toNatClampNeg n.toNatClampNeg) f)) Φ :=
  j_cgJ fun h => j_step (fun l hl => ⟨l, hl, by rw [j_f3 e rfl, j_ucpi h8 (j_ai h0 rfl rfl) (j_ai h1 rfl rfl) h, j_acpi h1, ep, j_go]⟩) (k _)
theorem j_cpl {a0 a1 n0 n1 r : Nat} {rs0 rs1 : List Nat} {sp dp n : Int32} {f : j_G → Option α} (e : x_row (x_rws M) pc = some (p, .invokestatic r, len, 9005, b, w)) (ep : pc + 3 = pc') (h8 : Nat.ble (x_cat st) 8 = true) (h0 : j_at s a0 = some (.inl (1, n0, rs0))) (h1 : j_at s a1 = some (.inl (1, n1, rs1))) (k : ∀ σ', j_J s τ M d pc' L st σ' (f σ') Φ) : j_J s τ M d pc L (.int n :: .int dp :: .ref a1 :: .int sp :: .ref a0 :: st) σ (j_cg sp dp n n0 n1 (j_lt (j_cl σ a0 sp.toNatClampNeg a1 dp.toNatClampNeg n.toNatClampNeg) f)) Φ :=
  j_cgJ fun h => j_step (fun l hl => ⟨l, hl, by rw [j_f3 e rfl, j_ucpl h8 (j_al h0) (j_al h1) h, j_acpl h1, ep, j_go]⟩) (k _)
/-! returns -/
theorem j_ret {r : α} {v : Option Value} (e : x_row (x_rws M) pc = some (p, ins, len, a, b, w)) (g : x_grp ins = 4) (h : x_ret M.2.2.2.2.1 ins st = some v) (k : ∀ Q, Φ r Q → Q v σ) : j_J s τ M d pc L st σ (some r) Φ := by
  intro r' hr Q hQ l hl
  cases hr
  refine ⟨1, v, σ, ?_, k Q hQ⟩
  unfold x_run x_step
  dsimp only
  rw [show x_row M.2.2.2.2.2.2.2 pc = _ from e]
  dsimp only
  rw [g]
  show (match (match x_ret M.2.2.2.2.1 ins st with | some v => (some (.inr (.inr v)) : xO) | none => none) with | none => none | some (.inl c') => _ | some (.inr (.inr v)) => _ | some (.inr (.inl q)) => _) = _
  rw [h]
/-- a branch with one or more conditions -/
theorem j_two {q : Prop} {iq : Decidable q} {pT pF : Nat} {L1 : List (Option Value)} {st1 : List Value} {o1 o2 : Option α} (m : ∀ o : Option α, (q → j_J s τ M d pT L1 st1 σ o Φ) → (¬ q → j_J s τ M d pF L1 st1 σ o Φ) → j_J s τ M d pc L st σ o Φ) (kT : q → j_J s τ M d pT L1 st1 σ o1 Φ) (kF : ¬ q → j_J s τ M d pF L1 st1 σ o2 Φ) : j_J s τ M d pc L st σ (if q then o1 else o2) Φ := by
  by_cases h : q
  · rw [if_pos h]; exact m o1 (fun _ => kT h) (fun z => absurd h z)
  · rw [if_neg h]; exact m o2 (fun z => absurd z h) (fun _ => kF h)
theorem j_twoT {q : Prop} {iq : Decidable q} {pT pF : Nat} {L1 : List (Option Value)} {st1 : List Value} {o1 o2 : α} (m : ∀ o : Option α, (q → j_J s τ M d pT L1 st1 σ o Φ) → (¬ q → j_J s τ M d pF L1 st1 σ o Φ) → j_J s τ M d pc L st σ o Φ) (kT : q → j_J s τ M d pT L1 st1 σ (some o1) Φ) (kF : ¬ q → j_J s τ M d pF L1 st1 σ (some o2) Φ) : j_J s τ M d pc L st σ (some (if q then o1 else o2)) Φ := by
  by_cases h : q
  · rw [if_pos h]; exact m (some o1) (fun _ => kT h) (fun z => absurd h z)
  · rw [if_neg h]; exact m (some o2) (fun z => absurd z h) (fun _ => kF h)
theorem j_splx {f : Option α} (i k : Int32) (h1 : i = k → j_J s τ M d pc L st σ o Φ) (h2 : ¬ i = k → j_J s τ M d pc L st σ f Φ) : j_J s τ M d pc L st σ (if i = k then o else f) Φ := by
  by_cases h : i = k
  · rw [if_pos h]; exact h1 h
  · rw [if_neg h]; exact h2 h
theorem j_splT {x y : α} {i k : Int32} (h1 : i = k → j_J s τ M d pc L st σ (some x) Φ) (h2 : ¬ i = k → j_J s τ M d pc L st σ (some y) Φ) : j_J s τ M d pc L st σ (some (if i = k then x else y)) Φ := by
  by_cases h : i = k
  · rw [if_pos h]; exact h1 h
  · rw [if_neg h]; exact h2 h
theorem j_letiT {x : Int32} {f : Int32 → α} (k : ∀ u, j_J s τ M d pc L (.int u :: st) σ (some (f u)) Φ) : j_J s τ M d pc L (.int x :: st) σ (some (j_lt x f)) Φ := k x
theorem j_letlT {x : Int64} {f : Int64 → α} (k : ∀ u, j_J s τ M d pc L (.long u :: st) σ (some (f u)) Φ) : j_J s τ M d pc L (.long x :: st) σ (some (j_lt x f)) Φ := k x
/-- what two ways share -/
theorem j_jn {κ : Type} {rest : κ} {body : κ → Option α} (P : κ → Prop) (hr : P rest) (hb : ∀ k, P k → j_J s τ M d pc L st σ (body k) Φ) : j_J s τ M d pc L st σ (j_lt rest body) Φ := hb rest hr
def j_bo {β : Type} (v : Int32) (o : Option β) : Option β := if v = 0 ∨ v = 1 then o else none
theorem j_boJ {v : Int32} (k : (v = 0 ∨ v = 1) → j_J s τ M d pc L st σ o Φ) : j_J s τ M d pc L st σ (j_bo v o) Φ := by
  unfold j_bo
  by_cases h : v = 0 ∨ v = 1
  · rw [if_pos h]; exact k h
  · rw [if_neg h]; exact j_none
theorem j_retb {r : α} {v : Int32} (e : x_row (x_rws M) pc = some (p, .ireturn, len, a, b, w)) (hm : M.2.2.2.2.1 = some .boolean) (hv : v = 0 ∨ v = 1) (k : ∀ Q, Φ r Q → Q (some (.int v)) σ) : j_J s τ M d pc L [.int v] σ (some r) Φ :=
  j_ret e rfl (by rw [hm]; rcases hv with rfl | rfl <;> rfl) k
/-- a switch -/
theorem j_sw {x k : Int32} {t : Nat} (hk : x = k) (e : x_row (x_rws M) pc = some (p, ins, len, a, b, w)) (g : x_grp ins = 1) (h : ∀ (l : xL) (hp : xH), x_ins1 ins pc a l (.int k :: st) hp 0 0 = some (.inl (t, l, st, hp, 0, 0))) (kk : j_J s τ M d t L st σ o Φ) : j_J s τ M d pc L (.int x :: st) σ o Φ := by
  subst hk
  exact j_s1 e g (fun l hp _ => h l hp) kk
theorem j_ne {x k : Int32} (n : Int) (hk : k.toInt = n) (h : ¬ x = k) : x.toInt ≠ n := fun z => h (Int32.toInt_inj.mp (by rw [z, hk]))
theorem j_tsd {x : Int32} {df : Int} {lo hi : Int} {offs : Array Int} {t : Nat} (e : x_row (x_rws M) pc = some (p, .tableswitch df lo hi offs, len, a, b, w)) (hx : x.toInt < lo ∨ hi < x.toInt) (ht : (pc : Int) + df = Int.ofNat t) (kk : j_J s τ M d t L st σ o Φ) : j_J s τ M d pc L (.int x :: st) σ o Φ :=
  j_s1 e rfl (fun l hp _ => by
    show (if x.toInt < lo ∨ hi < x.toInt then x_br pc df fun t => x_go t l st hp 0 0 else _) = _
    rw [if_pos hx, j_brt ht]
    rfl) kk
theorem j_lsd {x : Int32} {df : Int} {ps : Array (Int × Int)} {t : Nat} (e : x_row (x_rws M) pc = some (p, .lookupswitch df ps, len, a, b, w)) (ha : (ps.toList.zip (ps.toList.drop 1)).all (fun q => decide (q.1.1 < q.2.1)) = true) (hx : Op.lookupswitch.offset ps.toList df x.toInt = df) (ht : (pc : Int) + df = Int.ofNat t) (kk : j_J s τ M d t L st σ o Φ) : j_J s τ M d pc L (.int x :: st) σ o Φ :=
  j_s1 e rfl (fun l hp _ => by
    show (if (ps.toList.zip (ps.toList.drop 1)).all (fun q => decide (q.1.1 < q.2.1)) = true then x_br pc (Op.lookupswitch.offset ps.toList df x.toInt) fun t => x_go t l st hp 0 0 else none) = _
    rw [if_pos ha, hx, j_brt ht]
    rfl) kk
theorem j_iadd {x y : Int32} (e : x_row (x_rws M) pc = some (p, .iadd, len, a, b, w)) (ep : pc + 1 = pc') (k : j_J s τ M d pc' L (.int (x + y) :: st) σ o Φ) : j_J s τ M d pc L (.int y :: .int x :: st) σ o Φ := j_pl e rfl (fun _ _ => by subst ep; rfl) k
theorem j_isub {x y : Int32} (e : x_row (x_rws M) pc = some (p, .isub, len, a, b, w)) (ep : pc + 1 = pc') (k : j_J s τ M d pc' L (.int (x - y) :: st) σ o Φ) : j_J s τ M d pc L (.int y :: .int x :: st) σ o Φ := j_pl e rfl (fun _ _ => by subst ep; rfl) k
theorem j_imul {x y : Int32} (e : x_row (x_rws M) pc = some (p, .imul, len, a, b, w)) (ep : pc + 1 = pc') (k : j_J s τ M d pc' L (.int (x * y) :: st) σ o Φ) : j_J s τ M d pc L (.int y :: .int x :: st) σ o Φ := j_pl e rfl (fun _ _ => by subst ep; rfl) k
theorem j_iand {x y : Int32} (e : x_row (x_rws M) pc = some (p, .iand, len, a, b, w)) (ep : pc + 1 = pc') (k : j_J s τ M d pc' L (.int (x &&& y) :: st) σ o Φ) : j_J s τ M d pc L (.int y :: .int x :: st) σ o Φ := j_pl e rfl (fun _ _ => by subst ep; rfl) k
theorem j_ior {x y : Int32} (e : x_row (x_rws M) pc = some (p, .ior, len, a, b, w)) (ep : pc + 1 = pc') (k : j_J s τ M d pc' L (.int (x ||| y) :: st) σ o Φ) : j_J s τ M d pc L (.int y :: .int x :: st) σ o Φ := j_pl e rfl (fun _ _ => by subst ep; rfl) k
theorem j_ixor {x y : Int32} (e : x_row (x_rws M) pc = some (p, .ixor, len, a, b, w)) (ep : pc + 1 = pc') (k : j_J s τ M d pc' L (.int (x ^^^ y) :: st) σ o Φ) : j_J s τ M d pc L (.int y :: .int x :: st) σ o Φ := j_pl e rfl (fun _ _ => by subst ep; rfl) k
theorem j_ishl {x y : Int32} (e : x_row (x_rws M) pc = some (p, .ishl, len, a, b, w)) (ep : pc + 1 = pc') (k : j_J s τ M d pc' L (.int (x <<< (y &&& 31)) :: st) σ o Φ) : j_J s τ M d pc L (.int y :: .int x :: st) σ o Φ := j_pl e rfl (fun _ _ => by subst ep; rfl) k
theorem j_ishr {x y : Int32} (e : x_row (x_rws M) pc = some (p, .ishr, len, a, b, w)) (ep : pc + 1 = pc') (k : j_J s τ M d pc' L (.int (x >>> (y &&& 31)) :: st) σ o Φ) : j_J s τ M d pc L (.int y :: .int x :: st) σ o Φ := j_pl e rfl (fun _ _ => by subst ep; rfl) k
theorem j_iushr {x y : Int32} (e : x_row (x_rws M) pc = some (p, .iushr, len, a, b, w)) (ep : pc + 1 = pc') (k : j_J s τ M d pc' L (.int ((x.toUInt32 >>> (y.toUInt32 &&& Int32.toUInt32 31)).toInt32) :: st) σ o Φ) : j_J s τ M d pc L (.int y :: .int x :: st) σ o Φ := j_pl e rfl (fun _ _ => by subst ep; rfl) k
theorem j_ladd {x y : Int64} (e : x_row (x_rws M) pc = some (p, .ladd, len, a, b, w)) (ep : pc + 1 = pc') (k : j_J s τ M d pc' L (.long (x + y) :: st) σ o Φ) : j_J s τ M d pc L (.long y :: .long x :: st) σ o Φ := j_pl e rfl (fun _ _ => by subst ep; rfl) k
theorem j_lmul {x y : Int64} (e : x_row (x_rws M) pc = some (p, .lmul, len, a, b, w)) (ep : pc + 1 = pc') (k : j_J s τ M d pc' L (.long (x * y) :: st) σ o Φ) : j_J s τ M d pc L (.long y :: .long x :: st) σ o Φ := j_pl e rfl (fun _ _ => by subst ep; rfl) k
theorem j_land {x y : Int64} (e : x_row (x_rws M) pc = some (p, .land, len, a, b, w)) (ep : pc + 1 = pc') (k : j_J s τ M d pc' L (.long (x &&& y) :: st) σ o Φ) : j_J s τ M d pc L (.long y :: .long x :: st) σ o Φ := j_pl e rfl (fun _ _ => by subst ep; rfl) k
theorem j_lor {x y : Int64} (e : x_row (x_rws M) pc = some (p, .lor, len, a, b, w)) (ep : pc + 1 = pc') (k : j_J s τ M d pc' L (.long (x ||| y) :: st) σ o Φ) : j_J s τ M d pc L (.long y :: .long x :: st) σ o Φ := j_pl e rfl (fun _ _ => by subst ep; rfl) k
theorem j_lshl {x : Int64} {y : Int32} (e : x_row (x_rws M) pc = some (p, .lshl, len, a, b, w)) (ep : pc + 1 = pc') (k : j_J s τ M d pc' L (.long (x <<< (y.toInt64 &&& 63)) :: st) σ o Φ) : j_J s τ M d pc L (.int y :: .long x :: st) σ o Φ := j_pl e rfl (fun _ _ => by subst ep; rfl) k
theorem j_lshr {x : Int64} {y : Int32} (e : x_row (x_rws M) pc = some (p, .lshr, len, a, b, w)) (ep : pc + 1 = pc') (k : j_J s τ M d pc' L (.long (x >>> (y.toInt64 &&& 63)) :: st) σ o Φ) : j_J s τ M d pc L (.int y :: .long x :: st) σ o Φ := j_pl e rfl (fun _ _ => by subst ep; rfl) k
theorem j_i2l {x : Int32} (e : x_row (x_rws M) pc = some (p, .i2l, len, a, b, w)) (ep : pc + 1 = pc') (k : j_J s τ M d pc' L (.long (x.toInt64) :: st) σ o Φ) : j_J s τ M d pc L (.int x :: st) σ o Φ := j_pl e rfl (fun _ _ => by subst ep; rfl) k
theorem j_l2i {x : Int64} (e : x_row (x_rws M) pc = some (p, .l2i, len, a, b, w)) (ep : pc + 1 = pc') (k : j_J s τ M d pc' L (.int (x.toInt32) :: st) σ o Φ) : j_J s τ M d pc L (.long x :: st) σ o Φ := j_pl e rfl (fun _ _ => by subst ep; rfl) k
theorem j_i2b {x : Int32} (e : x_row (x_rws M) pc = some (p, .i2b, len, a, b, w)) (ep : pc + 1 = pc') (k : j_J s τ M d pc' L (.int (x.toInt8.toInt32) :: st) σ o Φ) : j_J s τ M d pc L (.int x :: st) σ o Φ := j_pl e rfl (fun _ _ => by subst ep; rfl) k
theorem j_i2s {x : Int32} (e : x_row (x_rws M) pc = some (p, .i2s, len, a, b, w)) (ep : pc + 1 = pc') (k : j_J s τ M d pc' L (.int (x.toInt16.toInt32) :: st) σ o Φ) : j_J s τ M d pc L (.int x :: st) σ o Φ := j_pl e rfl (fun _ _ => by subst ep; rfl) k
theorem j_iconst {n : Int} {x : Int32} (e : x_row (x_rws M) pc = some (p, .iconst n, len, a, b, w)) (ep : pc + 1 = pc') (hx : Int32.ofInt n = x) (k : j_J s τ M d pc' L (.int x :: st) σ o Φ) : j_J s τ M d pc L st σ o Φ := j_pl e rfl (fun _ _ => by subst ep; subst hx; rfl) k
theorem j_bipush {n : Int} {x : Int32} (e : x_row (x_rws M) pc = some (p, .bipush n, len, a, b, w)) (ep : pc + 2 = pc') (hx : (Int8.ofInt n).toInt32 = x) (k : j_J s τ M d pc' L (.int x :: st) σ o Φ) : j_J s τ M d pc L st σ o Φ := j_pl e rfl (fun _ _ => by subst ep; subst hx; rfl) k
theorem j_sipush {n : Int} {x : Int32} (e : x_row (x_rws M) pc = some (p, .sipush n, len, a, b, w)) (ep : pc + 3 = pc') (hx : (Int16.ofInt n).toInt32 = x) (k : j_J s τ M d pc' L (.int x :: st) σ o Φ) : j_J s τ M d pc L st σ o Φ := j_pl e rfl (fun _ _ => by subst ep; subst hx; rfl) k
theorem j_lconst {n : Fin 2} {x : Int64} (e : x_row (x_rws M) pc = some (p, .lconst n, len, a, b, w)) (ep : pc + 1 = pc') (hx : Int64.ofNat (n : Nat) = x) (k : j_J s τ M d pc' L (.long x :: st) σ o Φ) : j_J s τ M d pc L st σ o Φ := j_pl e rfl (fun _ _ => by subst ep; subst hx; rfl) k
theorem j_ldc {n : Nat} {x : Int32} (e : x_row (x_rws M) pc = some (p, .ldc n, len, a, b, w)) (ep : pc + 2 = pc') (ha : Nat.ble 4294967296 a = false) (hx : Int32.ofNat a = x) (k : j_J s τ M d pc' L (.int x :: st) σ o Φ) : j_J s τ M d pc L st σ o Φ := j_pl e rfl (fun l hp => by
  subst ep
  subst hx
  show (bif Nat.ble 4294967296 a then x_go (pc + 2) l (.ref (x_str + (a - 4294967296)) :: st) hp 0 0 else x_go (pc + 2) l (.int (Int32.ofNat a) :: st) hp 0 0) = _
  rw [ha]
  rfl) k
theorem j_ldcs {n x : Nat} (e : x_row (x_rws M) pc = some (p, .ldc n, len, a, b, w)) (ep : pc + 2 = pc') (ha : Nat.ble 4294967296 a = true) (hx : x_str + (a - 4294967296) = x) (k : j_J s τ M d pc' L (.ref x :: st) σ o Φ) : j_J s τ M d pc L st σ o Φ := j_pl e rfl (fun l hp => by
  subst ep
  subst hx
  show (bif Nat.ble 4294967296 a then x_go (pc + 2) l (.ref (x_str + (a - 4294967296)) :: st) hp 0 0 else x_go (pc + 2) l (.int (Int32.ofNat a) :: st) hp 0 0) = _
  rw [ha]
  rfl) k
theorem j_ldc_w {n : Nat} {x : Int32} (e : x_row (x_rws M) pc = some (p, .ldc_w n, len, a, b, w)) (ep : pc + 3 = pc') (hx : Int32.ofNat a = x) (k : j_J s τ M d pc' L (.int x :: st) σ o Φ) : j_J s τ M d pc L st σ o Φ := j_pl e rfl (fun _ _ => by subst ep; subst hx; rfl) k
theorem j_ldc2_w {n : Nat} {x : Int64} (e : x_row (x_rws M) pc = some (p, .ldc2_w n, len, a, b, w)) (ep : pc + 3 = pc') (hx : Int64.ofNat a = x) (k : j_J s τ M d pc' L (.long x :: st) σ o Φ) : j_J s τ M d pc L st σ o Φ := j_pl e rfl (fun _ _ => by subst ep; subst hx; rfl) k
theorem j_dup {v : Value} (e : x_row (x_rws M) pc = some (p, .dup, len, a, b, w)) (ep : pc + 1 = pc') (hv : Nat.beq v.category 1 = true) (k : j_J s τ M d pc' L (v :: v :: st) σ o Φ) : j_J s τ M d pc L (v :: st) σ o Φ := j_pl e rfl (fun l hp => by subst ep; show (bif Nat.beq v.category 1 then x_go (pc + 1) l (v :: v :: st) hp 0 0 else none) = _; rw [hv]; rfl) k
theorem j_dup2 {v u : Value} (e : x_row (x_rws M) pc = some (p, .dup2, len, a, b, w)) (ep : pc + 1 = pc') (hv : Nat.beq v.category 1 = true) (hu : Nat.beq u.category 1 = true) (k : j_J s τ M d pc' L (v :: u :: v :: u :: st) σ o Φ) : j_J s τ M d pc L (v :: u :: st) σ o Φ := j_pl e rfl (fun l hp => by subst ep; show (bif Nat.beq v.category 1 && Nat.beq u.category 1 then x_go (pc + 1) l (v :: u :: v :: u :: st) hp 0 0 else none) = _; rw [hv, hu]; rfl) k
theorem j_pop {v : Value} (e : x_row (x_rws M) pc = some (p, .pop, len, a, b, w)) (ep : pc + 1 = pc') (hv : Nat.beq v.category 1 = true) (k : j_J s τ M d pc' L st σ o Φ) : j_J s τ M d pc L (v :: st) σ o Φ := j_pl e rfl (fun l hp => by subst ep; show (bif Nat.beq v.category 1 then x_go (pc + 1) l st hp 0 0 else none) = _; rw [hv]; rfl) k
theorem j_lcmp {x y : Int64} (e : x_row (x_rws M) pc = some (p, .lcmp, len, a, b, w)) (ep : pc + 1 = pc') (k : j_J s τ M d pc' L (.int (lg_cmp x y) :: st) σ o Φ) : j_J s τ M d pc L (.long y :: .long x :: st) σ o Φ := j_pl e rfl (fun _ _ => by subst ep; rfl) k
theorem j_iincx {n : Nat} {c : Int} {x y : Int32} (e : x_row (x_rws M) pc = some (p, .iinc n c, len, a, b, w)) (ep : pc + 3 = pc') (hv : L[n]? = some (some (.int x))) (hc : Int32.ofInt c = y) (hs : j_st L n (.int (x + y)) = L') (k : j_J s τ M d pc' L' st σ o Φ) : j_J s τ M d pc L st σ o Φ :=
  j_step (fun l hl => ⟨x_st1 l n (.int (x + y)), by rw [← hs]; exact j_has_st hl, by
    rw [j_f1 e rfl]
    subst ep
    subst hc
    show (match x_ld l n with | some (.int x) => _ | _ => none) = _
    rw [hl _ _ hv]
    rfl⟩) k
theorem j_dd {k m : Nat} (h : Nat.blt k m = true) (hd : m ≤ d) : k < d := Nat.lt_of_lt_of_le (Nat.le_of_ble_eq_true h) hd
set_option maxRecDepth 100000 in
theorem j_max {x y : Int32} {r : Nat} (e : x_row (x_rws M) pc = some (p, .invokestatic r, len, 9001, b, w)) (ep : pc + 3 = pc') (h8 : Nat.ble (x_cat st) 8 = true) (k : j_J s τ M d pc' L (.int (if x < y then y else x) :: st) σ o Φ) : j_J s τ M d pc L (.int y :: .int x :: st) σ o Φ :=
  j_lib e rfl (fun l hp => by subst ep; show (bif Nat.ble (x_cat st) 8 then x_go (pc + 3) l (.int (if x < y then y else x) :: st) hp 0 0 else none) = _; rw [h8]; rfl) k
set_option maxRecDepth 100000 in
theorem j_min {x y : Int32} {r : Nat} (e : x_row (x_rws M) pc = some (p, .invokestatic r, len, 9002, b, w)) (ep : pc + 3 = pc') (h8 : Nat.ble (x_cat st) 8 = true) (k : j_J s τ M d pc' L (.int (if y < x then y else x) :: st) σ o Φ) : j_J s τ M d pc L (.int y :: .int x :: st) σ o Φ :=
  j_lib e rfl (fun l hp => by subst ep; show (bif Nat.ble (x_cat st) 8 then x_go (pc + 3) l (.int (if y < x then y else x) :: st) hp 0 0 else none) = _; rw [h8]; rfl) k
set_option maxRecDepth 100000 in
theorem j_abs {x : Int32} {r : Nat} (e : x_row (x_rws M) pc = some (p, .invokestatic r, len, 9003, b, w)) (ep : pc + 3 = pc') (h8 : Nat.ble (x_cat st) 8 = true) (k : j_J s τ M d pc' L (.int (if 0 ≤ x then x else 0 - x) :: st) σ o Φ) : j_J s τ M d pc L (.int x :: st) σ o Φ :=
  j_lib e rfl (fun l hp => by subst ep; show (bif Nat.ble (x_cat st) 8 then x_go (pc + 3) l (.int (if 0 ≤ x then x else 0 - x) :: st) hp 0 0 else none) = _; rw [h8]; rfl) k
theorem j_qlT {x : β} {f : β → α} {Φl : β → (Option Value → j_G → Prop) → Prop} (hl : j_J s τ M d pc L st σ (some x) Φl) (k : ∀ x r, some (f x) = some r → ∀ Q, Φ r Q → Φl x Q) : j_J s τ M d pc L st σ (some (j_lt x f)) Φ :=
  fun r hr Q hQ => hl x rfl Q (k x r hr Q hQ)
section JL
variable {off : Int} {t : Nat} {x y : Int64}
theorem j_ifeqL (e : x_row (x_rws M) pc = some (p, .ifCond .eq off, len, a, b, w)) (ht : (pc : Int) + off = Int.ofNat t) (ep : pc + 3 = pc') (k1 : x = y → j_J s τ M d t L st σ o Φ) (k2 : ¬ x = y → j_J s τ M d pc' L st σ o Φ) : j_J s τ M d pc L (.int (lg_cmp x y) :: st) σ o Φ :=
  j_ifeq e ht ep (fun h => k1 ((j_lc_eq x y).mp h)) (fun h => k2 (fun z => h ((j_lc_eq x y).mpr z)))
theorem j_ifneL (e : x_row (x_rws M) pc = some (p, .ifCond .ne off, len, a, b, w)) (ht : (pc : Int) + off = Int.ofNat t) (ep : pc + 3 = pc') (k1 : ¬ x = y → j_J s τ M d t L st σ o Φ) (k2 : x = y → j_J s τ M d pc' L st σ o Φ) : j_J s τ M d pc L (.int (lg_cmp x y) :: st) σ o Φ :=
  j_ifne e ht ep (fun h => k1 (fun z => h ((j_lc_eq x y).mpr z))) (fun h => k2 ((j_lc_eq x y).mp h))
theorem j_ifltL (e : x_row (x_rws M) pc = some (p, .ifCond .lt off, len, a, b, w)) (ht : (pc : Int) + off = Int.ofNat t) (ep : pc + 3 = pc') (k1 : x < y → j_J s τ M d t L st σ o Φ) (k2 : ¬ x < y → j_J s τ M d pc' L st σ o Φ) : j_J s τ M d pc L (.int (lg_cmp x y) :: st) σ o Φ :=
  j_iflt e ht ep (fun h => k1 ((j_lc_lt x y).mp h)) (fun h => k2 (fun z => h ((j_lc_lt x y).mpr z)))
theorem j_ifgeL (e : x_row (x_rws M) pc = some (p, .ifCond .ge off, len, a, b, w)) (ht : (pc : Int) + off = Int.ofNat t) (ep : pc + 3 = pc') (k1 : ¬ x < y → j_J s τ M d t L st σ o Φ) (k2 : x < y → j_J s τ M d pc' L st σ o Φ) : j_J s τ M d pc L (.int (lg_cmp x y) :: st) σ o Φ :=
  j_ifge e ht ep (fun h => k1 (fun z => h ((j_lc_lt x y).mpr z))) (fun h => k2 ((j_lc_lt x y).mp h))
theorem j_ifgtL (e : x_row (x_rws M) pc = some (p, .ifCond .gt off, len, a, b, w)) (ht : (pc : Int) + off = Int.ofNat t) (ep : pc + 3 = pc') (k1 : y < x → j_J s τ M d t L st σ o Φ) (k2 : ¬ y < x → j_J s τ M d pc' L st σ o Φ) : j_J s τ M d pc L (.int (lg_cmp x y) :: st) σ o Φ :=
  j_ifgt e ht ep (fun h => k1 ((j_lc_gt x y).mp h)) (fun h => k2 (fun z => h ((j_lc_gt x y).mpr z)))
theorem j_ifleL (e : x_row (x_rws M) pc = some (p, .ifCond .le off, len, a, b, w)) (ht : (pc : Int) + off = Int.ofNat t) (ep : pc + 3 = pc') (k1 : ¬ y < x → j_J s τ M d t L st σ o Φ) (k2 : y < x → j_J s τ M d pc' L st σ o Φ) : j_J s τ M d pc L (.int (lg_cmp x y) :: st) σ o Φ :=
  j_ifle e ht ep (fun h => k1 (fun z => h ((j_lc_gt x y).mpr z))) (fun h => k2 ((j_lc_gt x y).mp h))
end JL
/-! String constants -/
def j_len (q : Nat) : Option Int32 := if x_str ≤ q then (match x_sbyt[q - x_str]? with
  | some bs => some (Int32.ofNat bs.length)
  | none => none) else none
def j_chr (q : Nat) (i : Int32) : Option Int32 := if x_str ≤ q then (match x_sbyt[q - x_str]? with
  | some bs => if i < 0 ∨ bs.length ≤ i.toNatClampNeg then none else some (bs.getD i.toNatClampNeg 0)
  | none => none) else none
theorem j_u3l {r k z q : Nat} {l : xL} {h : xH} {bs : List Int32} (h8 : Nat.ble (x_cat st) 8 = true) (hq : Nat.ble x_str q = true) (hz : x_sbyt[q - x_str]? = some bs) : x_ins3 (.invokevirtual r) pc 9006 b l (.ref q :: st) h k z = x_go (pc + 3) l (.int (Int32.ofNat bs.length) :: st) h k z := by
  unfold x_ins3
  dsimp only
  rw [show Nat.beq 9006 9006 = true from rfl, cond_true]
  unfold x_a1
  dsimp only
  rw [h8, hq, hz]
  rfl
theorem j_u3c {r k z q : Nat} {l : xL} {h : xH} {bs : List Int32} {i : Int32} (h8 : Nat.ble (x_cat st) 8 = true) (hq : Nat.ble x_str q = true) (hz : x_sbyt[q - x_str]? = some bs) (hi : ¬ (i < 0 ∨ bs.length ≤ i.toNatClampNeg)) : x_ins3 (.invokevirtual r) pc 9007 b l (.int i :: .ref q :: st) h k z = x_go (pc + 3) l (.int (bs.getD i.toNatClampNeg 0) :: st) h k z := by
  unfold x_ins3
  dsimp only
  rw [show Nat.beq 9007 9006 = false from rfl, cond_false, show Nat.beq 9007 9007 = true from rfl, cond_true]
  unfold x_ai
  dsimp only
  rw [h8, hq, hz]
  dsimp only [Bool.and_true, cond]
  unfold x_in
  rw [if_neg hi]
  rfl
theorem j_slen {q r : Nat} {f : Int32 → Option α} (e : x_row (x_rws M) pc = some (p, .invokevirtual r, len, 9006, b, w)) (ep : pc + 3 = pc') (h8 : Nat.ble (x_cat st) 8 = true) (k : ∀ v, j_J s τ M d pc' L (.int v :: st) σ (f v) Φ) : j_J s τ M d pc L (.ref q :: st) σ (j_b1 (j_len q) f) Φ := by
  unfold j_len
  by_cases hq : x_str ≤ q
  · rw [if_pos hq]
    cases hz : x_sbyt[q - x_str]? with
    | none => exact j_none
    | some bs => exact j_lib (pc' := pc') (st' := .int (Int32.ofNat bs.length) :: st) e rfl (fun l hp => by rw [j_u3l h8 (Nat.ble_eq_true_of_le hq) hz, ep, j_go]) (k _)
  · rw [if_neg hq]; exact j_none
theorem j_schr {q r : Nat} {i : Int32} {f : Int32 → Option α} (e : x_row (x_rws M) pc = some (p, .invokevirtual r, len, 9007, b, w)) (ep : pc + 3 = pc') (h8 : Nat.ble (x_cat st) 8 = true) (k : ∀ v, j_J s τ M d pc' L (.int v :: st) σ (f v) Φ) : j_J s τ M d pc L (.int i :: .ref q :: st) σ (j_b1 (j_chr q i) f) Φ := by
  unfold j_chr
  by_cases hq : x_str ≤ q
  · rw [if_pos hq]
    cases hz : x_sbyt[q - x_str]? with
    | none => exact j_none
    | some bs =>
      dsimp only
      by_cases hi : i < 0 ∨ bs.length ≤ i.toNatClampNeg
      · rw [if_pos hi]; exact j_none
      · rw [if_neg hi]
        exact j_lib (pc' := pc') (st' := .int (bs.getD i.toNatClampNeg 0) :: st) e rfl (fun l hp => by rw [j_u3c h8 (Nat.ble_eq_true_of_le hq) hz hi, ep, j_go]) (k _)
  · rw [if_neg hq]; exact j_none
end JJ
theorem j_a0 : j_at true 0 = some (.inr (11, [3, 11, 12, 24, 30, 31, 32, 37, 39, 42, 44])) := rfl
theorem j_a1 : j_at true 1 = some (.inr (2, [0, 0, 0, 0, 0, 0, 0, 0, 0, 0, 0, 4, 5, 6, 7])) := rfl
theorem j_a2 : j_at true 2 = some (.inl (0, 6, [])) := rfl
theorem j_a3 : j_at true 3 = some (.inl (0, 6, [])) := rfl
theorem j_a4 : j_at true 4 = some (.inl (0, 20, [])) := rfl
theorem j_a5 : j_at true 5 = some (.inr (3, [0, 0, 8, 9, 10])) := rfl
theorem j_a6 : j_at true 6 = some (.inl (0, 24, [])) := rfl
theorem j_a7 : j_at true 7 = some (.inl (0, 24, [])) := rfl
theorem j_a8 : j_at true 8 = some (.inl (0, 24, [])) := rfl
theorem j_a9 : j_at true 9 = some (.inl (6, 3, [43, 51, 59])) := rfl
theorem j_a10 : j_at true 10 = some (.inr (7, [13, 0, 0, 21, 23, 0, 0, 0, 0])) := rfl
theorem j_a11 : j_at true 11 = some (.inr (2, [0, 0, 0, 0, 0, 0, 0, 0, 0, 0, 0, 14, 15, 16, 17])) := rfl
theorem j_a12 : j_at true 12 = some (.inl (0, 6, [])) := rfl
theorem j_a13 : j_at true 13 = some (.inl (0, 6, [])) := rfl
theorem j_a14 : j_at true 14 = some (.inl (0, 20, [])) := rfl
theorem j_a15 : j_at true 15 = some (.inr (3, [0, 0, 18, 19, 20])) := rfl
theorem j_a16 : j_at true 16 = some (.inl (0, 24, [])) := rfl
theorem j_a17 : j_at true 17 = some (.inl (0, 24, [])) := rfl
theorem j_a18 : j_at true 18 = some (.inl (0, 24, [])) := rfl
theorem j_a19 : j_at true 19 = some (.inr (10, [0, 22])) := rfl
theorem j_a20 : j_at true 20 = some (.inl (2, 1200, [])) := rfl
theorem j_a21 : j_at true 21 = some (.inl (0, 5, [])) := rfl
theorem j_a22 : j_at true 22 = some (.inr (4, [0, 25, 26, 27, 28, 29, 0])) := rfl
theorem j_a23 : j_at true 23 = some (.inl (0, 60, [])) := rfl
theorem j_a24 : j_at true 24 = some (.inl (0, 60, [])) := rfl
theorem j_a25 : j_at true 25 = some (.inl (0, 60, [])) := rfl
theorem j_a26 : j_at true 26 = some (.inl (0, 60, [])) := rfl
theorem j_a27 : j_at true 27 = some (.inl (0, 60, [])) := rfl
theorem j_a28 : j_at true 28 = some (.inr (6, [0, 0, 0, 0, 0])) := rfl
theorem j_a29 : j_at true 29 = some (.inr (6, [0, 0, 0, 0, 0])) := rfl
theorem j_a30 : j_at true 30 = some (.inr (9, [0, 0, 33, 34, 0, 35, 36, 0, 0])) := rfl
theorem j_a31 : j_at true 31 = some (.inl (0, 60, [])) := rfl
theorem j_a32 : j_at true 32 = some (.inl (0, 60, [])) := rfl
theorem j_a33 : j_at true 33 = some (.inl (0, 120, [])) := rfl
theorem j_a34 : j_at true 34 = some (.inl (0, 120, [])) := rfl
theorem j_a35 : j_at true 35 = some (.inr (0, [38])) := rfl
theorem j_a36 : j_at true 36 = some (.inl (0, 1452, [])) := rfl
theorem j_a37 : j_at true 37 = some (.inr (5, [40, 41])) := rfl
theorem j_a38 : j_at true 38 = some (.inl (1, 156, [])) := rfl
theorem j_a39 : j_at true 39 = some (.inl (1, 156, [])) := rfl
theorem j_a40 : j_at true 40 = some (.inr (1, [0, 0, 0, 43])) := rfl
theorem j_a41 : j_at true 41 = some (.inl (0, 60, [])) := rfl
theorem j_a42 : j_at true 42 = some (.inl (12, 4, [67, 69, 71, 73])) := rfl
theorem j_a43 : j_at true 43 = some (.inr (2, [0, 0, 0, 0, 0, 0, 0, 0, 0, 0, 0, 46, 47, 48, 49])) := rfl
theorem j_a44 : j_at true 44 = some (.inl (0, 6, [])) := rfl
theorem j_a45 : j_at true 45 = some (.inl (0, 6, [])) := rfl
theorem j_a46 : j_at true 46 = some (.inl (0, 20, [])) := rfl
theorem j_a47 : j_at true 47 = some (.inr (3, [0, 0, 50, 51, 52])) := rfl
theorem j_a48 : j_at true 48 = some (.inl (0, 24, [])) := rfl
theorem j_a49 : j_at true 49 = some (.inl (0, 24, [])) := rfl
theorem j_a50 : j_at true 50 = some (.inl (0, 24, [])) := rfl
theorem j_a51 : j_at true 51 = some (.inr (2, [0, 0, 0, 0, 0, 0, 0, 0, 0, 0, 0, 54, 55, 56, 57])) := rfl
theorem j_a52 : j_at true 52 = some (.inl (0, 6, [])) := rfl
theorem j_a53 : j_at true 53 = some (.inl (0, 6, [])) := rfl
theorem j_a54 : j_at true 54 = some (.inl (0, 20, [])) := rfl
theorem j_a55 : j_at true 55 = some (.inr (3, [0, 0, 58, 59, 60])) := rfl
theorem j_a56 : j_at true 56 = some (.inl (0, 24, [])) := rfl
theorem j_a57 : j_at true 57 = some (.inl (0, 24, [])) := rfl
theorem j_a58 : j_at true 58 = some (.inl (0, 24, [])) := rfl
theorem j_a59 : j_at true 59 = some (.inr (2, [0, 0, 0, 0, 0, 0, 0, 0, 0, 0, 0, 62, 63, 64, 65])) := rfl
theorem j_a60 : j_at true 60 = some (.inl (0, 6, [])) := rfl
theorem j_a61 : j_at true 61 = some (.inl (0, 6, [])) := rfl
theorem j_a62 : j_at true 62 = some (.inl (0, 20, [])) := rfl
theorem j_a63 : j_at true 63 = some (.inr (3, [0, 0, 66, 67, 68])) := rfl
theorem j_a64 : j_at true 64 = some (.inl (0, 24, [])) := rfl
theorem j_a65 : j_at true 65 = some (.inl (0, 24, [])) := rfl
theorem j_a66 : j_at true 66 = some (.inl (0, 24, [])) := rfl
theorem j_a67 : j_at true 67 = some (.inr (8, [0, 0, 70])) := rfl
theorem j_a68 : j_at true 68 = some (.inl (1, 60, [])) := rfl
theorem j_a69 : j_at true 69 = some (.inr (8, [0, 0, 72])) := rfl
theorem j_a70 : j_at true 70 = some (.inl (1, 60, [])) := rfl
theorem j_a71 : j_at true 71 = some (.inr (8, [0, 0, 74])) := rfl
theorem j_a72 : j_at true 72 = some (.inl (1, 60, [])) := rfl
theorem j_a73 : j_at true 73 = some (.inr (8, [0, 0, 76])) := rfl
theorem j_a74 : j_at true 74 = some (.inl (1, 60, [])) := rfl
theorem j_a75 : j_at false 75 = some (.inr (12, [0, 78, 79, 80, 81, 0, 82, 0, 0, 0, 0, 0, 0, 0, 83, 84, 85, 86, 0, 0, 0, 0, 0, 0, 0, 87, 88, 89, 90, 0, 0, 0, 0, 0, 91, 92, 93, 94, 95, 0, 0, 0, 1, 96, 97, 98, 99])) := rfl
theorem j_a76 : j_at false 76 = some (.inl (0, 116, [])) := rfl
theorem j_a77 : j_at false 77 = some (.inl (0, 348, [])) := rfl
theorem j_a78 : j_at false 78 = some (.inl (3, 3, [])) := rfl
theorem j_a79 : j_at false 79 = some (.inl (2, 1200, [])) := rfl
theorem j_a80 : j_at false 80 = some (.inl (0, 5, [])) := rfl
theorem j_a81 : j_at false 81 = some (.inl (0, 116, [])) := rfl
theorem j_a82 : j_at false 82 = some (.inl (0, 180, [])) := rfl
theorem j_a83 : j_at false 83 = some (.inl (0, 60, [])) := rfl
theorem j_a84 : j_at false 84 = some (.inl (0, 60, [])) := rfl
theorem j_a85 : j_at false 85 = some (.inl (0, 60, [])) := rfl
theorem j_a86 : j_at false 86 = some (.inl (0, 60, [])) := rfl
theorem j_a87 : j_at false 87 = some (.inl (0, 120, [])) := rfl
theorem j_a88 : j_at false 88 = some (.inl (0, 120, [])) := rfl
theorem j_a89 : j_at false 89 = some (.inl (0, 1452, [])) := rfl
theorem j_a90 : j_at false 90 = some (.inl (0, 1452, [])) := rfl
theorem j_a91 : j_at false 91 = some (.inl (1, 169, [])) := rfl
theorem j_a92 : j_at false 92 = some (.inl (1, 169, [])) := rfl
theorem j_a93 : j_at false 93 = some (.inl (0, 60, [])) := rfl
theorem j_a94 : j_at false 94 = some (.inl (0, 4, [])) := rfl
theorem j_a95 : j_at false 95 = some (.inl (0, 4, [])) := rfl
theorem j_a96 : j_at false 96 = some (.inl (1, 240, [])) := rfl
theorem j_a97 : j_at false 97 = some (.inl (1, 60, [])) := rfl
set_option maxRecDepth 100000 in
theorem t_1 : (x_mt : List xM)[1]? = some M_cX0_most := rfl
set_option maxRecDepth 100000 in
theorem t_2 : (x_mt : List xM)[2]? = some M_cX0_goOn := rfl
set_option maxRecDepth 100000 in
theorem t_3 : (x_mt : List xM)[3]? = some M_cX0_freeAt := rfl
set_option maxRecDepth 100000 in
theorem t_4 : (x_mt : List xM)[4]? = some M_cX0_keep := rfl
set_option maxRecDepth 100000 in
theorem t_6 : (x_mt : List xM)[6]? = some M_cX1_judge := rfl
set_option maxRecDepth 100000 in
theorem t_7 : (x_mt : List xM)[7]? = some M_cX1_judgeOne := rfl
set_option maxRecDepth 100000 in
theorem t_9 : (x_mt : List xM)[9]? = some M_cX2_empty := rfl
set_option maxRecDepth 100000 in
theorem t_10 : (x_mt : List xM)[10]? = some M_cX2_copy := rfl
set_option maxRecDepth 100000 in
theorem t_11 : (x_mt : List xM)[11]? = some M_cX2_isTold := rfl
set_option maxRecDepth 100000 in
theorem t_12 : (x_mt : List xM)[12]? = some M_cX2_holes := rfl
set_option maxRecDepth 100000 in
theorem t_13 : (x_mt : List xM)[13]? = some M_cX2_isHole := rfl
set_option maxRecDepth 100000 in
theorem t_14 : (x_mt : List xM)[14]? = some M_cX2_isTick := rfl
set_option maxRecDepth 100000 in
theorem t_15 : (x_mt : List xM)[15]? = some M_cX2_isPlayer := rfl
set_option maxRecDepth 100000 in
theorem t_16 : (x_mt : List xM)[16]? = some M_cX2_isShut := rfl
set_option maxRecDepth 100000 in
theorem t_17 : (x_mt : List xM)[17]? = some M_cX2_openHoles := rfl
set_option maxRecDepth 100000 in
theorem t_18 : (x_mt : List xM)[18]? = some M_cX2_apart := rfl
set_option maxRecDepth 100000 in
theorem t_19 : (x_mt : List xM)[19]? = some M_cX2_stepsToAll := rfl
set_option maxRecDepth 100000 in
theorem t_20 : (x_mt : List xM)[20]? = some M_cX2_pathRound := rfl
set_option maxRecDepth 100000 in
theorem t_21 : (x_mt : List xM)[21]? = some M_cX2_stayIn := rfl
set_option maxRecDepth 100000 in
theorem t_22 : (x_mt : List xM)[22]? = some M_cX2_hasStayFrom := rfl
set_option maxRecDepth 100000 in
theorem t_23 : (x_mt : List xM)[23]? = some M_cX2_setStay := rfl
set_option maxRecDepth 100000 in
theorem t_24 : (x_mt : List xM)[24]? = some M_cX2_trait := rfl
set_option maxRecDepth 100000 in
theorem t_25 : (x_mt : List xM)[25]? = some M_cX2_setTrait := rfl
set_option maxRecDepth 100000 in
theorem t_26 : (x_mt : List xM)[26]? = some M_cX2_isTrait := rfl
set_option maxRecDepth 100000 in
theorem t_27 : (x_mt : List xM)[27]? = some M_cX2_lets := rfl
set_option maxRecDepth 100000 in
theorem t_29 : (x_mt : List xM)[29]? = some M_cX3_empty := rfl
set_option maxRecDepth 100000 in
theorem t_30 : (x_mt : List xM)[30]? = some M_cX3_copy := rfl
set_option maxRecDepth 100000 in
theorem t_31 : (x_mt : List xM)[31]? = some M_cX3_has := rfl
set_option maxRecDepth 100000 in
theorem t_32 : (x_mt : List xM)[32]? = some M_cX3_add := rfl
set_option maxRecDepth 100000 in
theorem t_33 : (x_mt : List xM)[33]? = some M_cX3_exchange := rfl
set_option maxRecDepth 100000 in
theorem t_34 : (x_mt : List xM)[34]? = some M_cX3_exchangeIn := rfl
set_option maxRecDepth 100000 in
theorem t_35 : (x_mt : List xM)[35]? = some M_cX3_round := rfl
set_option maxRecDepth 100000 in
theorem t_36 : (x_mt : List xM)[36]? = some M_cX3_oftenAt := rfl
set_option maxRecDepth 100000 in
theorem t_37 : (x_mt : List xM)[37]? = some M_cX3_goesSo := rfl
set_option maxRecDepth 100000 in
theorem t_38 : (x_mt : List xM)[38]? = some M_cX3_neededFrom := rfl
set_option maxRecDepth 100000 in
theorem t_39 : (x_mt : List xM)[39]? = some M_cX3_alike := rfl
set_option maxRecDepth 100000 in
theorem t_41 : (x_mt : List xM)[41]? = some M_cX4_has := rfl
set_option maxRecDepth 100000 in
theorem t_42 : (x_mt : List xM)[42]? = some M_cX4_deal := rfl
set_option maxRecDepth 100000 in
theorem t_43 : (x_mt : List xM)[43]? = some M_cX4_draw := rfl
set_option maxRecDepth 100000 in
theorem t_44 : (x_mt : List xM)[44]? = some M_cX4_nthLet := rfl
set_option maxRecDepth 100000 in
theorem t_45 : (x_mt : List xM)[45]? = some M_cX4_begin := rfl
set_option maxRecDepth 100000 in
theorem t_46 : (x_mt : List xM)[46]? = some M_cX4_hasRoom := rfl
set_option maxRecDepth 100000 in
theorem t_47 : (x_mt : List xM)[47]? = some M_cX4_add := rfl
set_option maxRecDepth 100000 in
theorem t_48 : (x_mt : List xM)[48]? = some M_cX4_upIn := rfl
set_option maxRecDepth 100000 in
theorem t_49 : (x_mt : List xM)[49]? = some M_cX4_holesOf := rfl
set_option maxRecDepth 100000 in
theorem t_50 : (x_mt : List xM)[50]? = some M_cX4_goodHoles := rfl
set_option maxRecDepth 100000 in
theorem t_51 : (x_mt : List xM)[51]? = some M_cX4_goodIn := rfl
set_option maxRecDepth 100000 in
theorem t_52 : (x_mt : List xM)[52]? = some M_cX4_strike := rfl
set_option maxRecDepth 100000 in
theorem t_54 : (x_mt : List xM)[54]? = some M_cX5_begin := rfl
set_option maxRecDepth 100000 in
theorem t_55 : (x_mt : List xM)[55]? = some M_cX5_grow := rfl
set_option maxRecDepth 100000 in
theorem t_56 : (x_mt : List xM)[56]? = some M_cX5_growFrom := rfl
set_option maxRecDepth 100000 in
theorem t_57 : (x_mt : List xM)[57]? = some M_cX5_at := rfl
set_option maxRecDepth 100000 in
theorem t_58 : (x_mt : List xM)[58]? = some M_cX5_waysTo := rfl
set_option maxRecDepth 100000 in
theorem t_59 : (x_mt : List xM)[59]? = some M_cX5_add := rfl
set_option maxRecDepth 100000 in
theorem t_60 : (x_mt : List xM)[60]? = some M_cX5_rowsTo := rfl
set_option maxRecDepth 100000 in
theorem t_61 : (x_mt : List xM)[61]? = some M_cX5_rowsInAll := rfl
set_option maxRecDepth 100000 in
theorem t_62 : (x_mt : List xM)[62]? = some M_cX5_isEven := rfl
set_option maxRecDepth 100000 in
theorem t_64 : (x_mt : List xM)[64]? = some M_cX6_take := rfl
set_option maxRecDepth 100000 in
theorem t_65 : (x_mt : List xM)[65]? = some M_cX6_paceIn := rfl
set_option maxRecDepth 100000 in
theorem t_66 : (x_mt : List xM)[66]? = some M_cX6_awareOf := rfl
set_option maxRecDepth 100000 in
theorem t_67 : (x_mt : List xM)[67]? = some M_cX6_there := rfl
set_option maxRecDepth 100000 in
theorem t_68 : (x_mt : List xM)[68]? = some M_cX6_reachFrom := rfl
set_option maxRecDepth 100000 in
theorem t_70 : (x_mt : List xM)[70]? = some M_cX7_readAll := rfl
set_option maxRecDepth 100000 in
theorem t_71 : (x_mt : List xM)[71]? = some M_cX7_shapeOf := rfl
set_option maxRecDepth 100000 in
theorem t_72 : (x_mt : List xM)[72]? = some M_cX7_readLine := rfl
set_option maxRecDepth 100000 in
theorem t_73 : (x_mt : List xM)[73]? = some M_cX7_blame := rfl
set_option maxRecDepth 100000 in
theorem t_74 : (x_mt : List xM)[74]? = some M_cX7_behindBlank := rfl
set_option maxRecDepth 100000 in
theorem t_75 : (x_mt : List xM)[75]? = some M_cX7_kindOfLine := rfl
set_option maxRecDepth 100000 in
theorem t_76 : (x_mt : List xM)[76]? = some M_cX7_standsAt := rfl
set_option maxRecDepth 100000 in
theorem t_77 : (x_mt : List xM)[77]? = some M_cX7_isSpelled := rfl
set_option maxRecDepth 100000 in
theorem t_78 : (x_mt : List xM)[78]? = some M_cX7_isFull := rfl
set_option maxRecDepth 100000 in
theorem t_79 : (x_mt : List xM)[79]? = some M_cX7_judge := rfl
set_option maxRecDepth 100000 in
theorem t_80 : (x_mt : List xM)[80]? = some M_cX7_within := rfl
set_option maxRecDepth 100000 in
theorem t_81 : (x_mt : List xM)[81]? = some M_cX7_fitsBoard := rfl
set_option maxRecDepth 100000 in
theorem t_82 : (x_mt : List xM)[82]? = some M_cX7_judgeFrom := rfl
set_option maxRecDepth 100000 in
theorem t_83 : (x_mt : List xM)[83]? = some M_cX7_isOpen := rfl
set_option maxRecDepth 100000 in
theorem t_84 : (x_mt : List xM)[84]? = some M_cX7_apply := rfl
set_option maxRecDepth 100000 in
theorem t_85 : (x_mt : List xM)[85]? = some M_cX7_addPlayer := rfl
set_option maxRecDepth 100000 in
theorem t_86 : (x_mt : List xM)[86]? = some M_cX7_step := rfl
set_option maxRecDepth 100000 in
theorem t_87 : (x_mt : List xM)[87]? = some M_cX7_isBlank := rfl
set_option maxRecDepth 100000 in
theorem t_88 : (x_mt : List xM)[88]? = some M_cX7_isLetter := rfl
set_option maxRecDepth 100000 in
theorem t_89 : (x_mt : List xM)[89]? = some M_cX7_isDigit := rfl
set_option maxRecDepth 100000 in
theorem t_91 : (x_mt : List xM)[91]? = some M_cX8_isMade := rfl
set_option maxRecDepth 100000 in
theorem t_92 : (x_mt : List xM)[92]? = some M_cX8_make := rfl
set_option maxRecDepth 100000 in
theorem t_93 : (x_mt : List xM)[93]? = some M_cX8_put := rfl
set_option maxRecDepth 100000 in
theorem t_94 : (x_mt : List xM)[94]? = some M_cX8_hasPart := rfl
set_option maxRecDepth 100000 in
theorem t_95 : (x_mt : List xM)[95]? = some M_cX8_isBelow := rfl
set_option maxRecDepth 100000 in
theorem t_96 : (x_mt : List xM)[96]? = some M_cX8_isPeriod := rfl
set_option maxRecDepth 100000 in
theorem t_97 : (x_mt : List xM)[97]? = some M_cX8_leastPeriod := rfl
set_option maxRecDepth 100000 in
theorem t_98 : (x_mt : List xM)[98]? = some M_cX8_periodsInAll := rfl
set_option maxRecDepth 100000 in
theorem t_100 : (x_mt : List xM)[100]? = some M_cX9_good := rfl
set_option maxRecDepth 100000 in
theorem t_101 : (x_mt : List xM)[101]? = some M_cX9_rashPoints := rfl
set_option maxRecDepth 100000 in
theorem t_102 : (x_mt : List xM)[102]? = some M_cX9_begin := rfl
set_option maxRecDepth 100000 in
theorem t_103 : (x_mt : List xM)[103]? = some M_cX9_goFor := rfl
set_option maxRecDepth 100000 in
theorem t_104 : (x_mt : List xM)[104]? = some M_cX9_among := rfl
set_option maxRecDepth 100000 in
theorem t_105 : (x_mt : List xM)[105]? = some M_cX9_strike := rfl
set_option maxRecDepth 100000 in
theorem t_106 : (x_mt : List xM)[106]? = some M_cX9_holeBehind := rfl
set_option maxRecDepth 100000 in
theorem t_107 : (x_mt : List xM)[107]? = some M_cX9_firstMissed := rfl
set_option maxRecDepth 100000 in
theorem t_109 : (x_mt : List xM)[109]? = some M_cX10_put := rfl
set_option maxRecDepth 100000 in
theorem t_110 : (x_mt : List xM)[110]? = some M_cX10_at := rfl
set_option maxRecDepth 100000 in
theorem t_112 : (x_mt : List xM)[112]? = some M_cX11_feed := rfl
set_option maxRecDepth 100000 in
theorem t_113 : (x_mt : List xM)[113]? = some M_cX11_end := rfl
set_option maxRecDepth 100000 in
theorem t_114 : (x_mt : List xM)[114]? = some M_cX11_board := rfl
set_option maxRecDepth 100000 in
theorem t_115 : (x_mt : List xM)[115]? = some M_cX11_fault := rfl
set_option maxRecDepth 100000 in
theorem t_116 : (x_mt : List xM)[116]? = some M_cX11_drum := rfl
set_option maxRecDepth 100000 in
theorem t_117 : (x_mt : List xM)[117]? = some M_cX11_player := rfl
set_option maxRecDepth 100000 in
theorem t_118 : (x_mt : List xM)[118]? = some M_cX11_stay := rfl
set_option maxRecDepth 100000 in
theorem t_119 : (x_mt : List xM)[119]? = some M_cX11_count := rfl
set_option maxRecDepth 100000 in
theorem t_120 : (x_mt : List xM)[120]? = some M_cX11_comings := rfl
set_option maxRecDepth 100000 in
theorem t_121 : (x_mt : List xM)[121]? = some M_cX11_comes := rfl
set_option maxRecDepth 100000 in
theorem t_122 : (x_mt : List xM)[122]? = some M_cX11_up := rfl
set_option maxRecDepth 100000 in
theorem t_123 : (x_mt : List xM)[123]? = some M_cX11_calm := rfl
set_option maxRecDepth 100000 in
theorem t_124 : (x_mt : List xM)[124]? = some M_cX11_steps := rfl
set_option maxRecDepth 100000 in
theorem t_125 : (x_mt : List xM)[125]? = some M_cX11_pace := rfl
set_option maxRecDepth 100000 in
theorem t_126 : (x_mt : List xM)[126]? = some M_cX11_aware := rfl
set_option maxRecDepth 100000 in
theorem t_127 : (x_mt : List xM)[127]? = some M_cX11_hits := rfl
set_option maxRecDepth 100000 in
theorem t_128 : (x_mt : List xM)[128]? = some M_cX11_hit := rfl
set_option maxRecDepth 100000 in
theorem t_129 : (x_mt : List xM)[129]? = some M_cX11_twice := rfl
set_option maxRecDepth 100000 in
theorem t_130 : (x_mt : List xM)[130]? = some M_cX11_where := rfl
set_option maxRecDepth 100000 in
theorem t_131 : (x_mt : List xM)[131]? = some M_cX11_missed := rfl
set_option maxRecDepth 100000 in
theorem t_132 : (x_mt : List xM)[132]? = some M_cX11_walked := rfl
set_option maxRecDepth 100000 in
theorem t_133 : (x_mt : List xM)[133]? = some M_cX11_best := rfl
set_option maxRecDepth 100000 in
theorem t_134 : (x_mt : List xM)[134]? = some M_cX11_ahead := rfl
set_option maxRecDepth 100000 in
theorem t_135 : (x_mt : List xM)[135]? = some M_cX11_learns := rfl
set_option maxRecDepth 100000 in
theorem t_136 : (x_mt : List xM)[136]? = some M_cX11_enough := rfl
set_option maxRecDepth 100000 in
theorem t_137 : (x_mt : List xM)[137]? = some M_cX11_waits := rfl
set_option maxRecDepth 100000 in
theorem t_138 : (x_mt : List xM)[138]? = some M_cX11_slack := rfl
set_option maxRecDepth 100000 in
theorem t_139 : (x_mt : List xM)[139]? = some M_cX11_lucky := rfl
set_option maxRecDepth 100000 in
theorem t_140 : (x_mt : List xM)[140]? = some M_cX11_mean := rfl
set_option maxRecDepth 100000 in
theorem t_141 : (x_mt : List xM)[141]? = some M_cX11_middle := rfl
set_option maxRecDepth 100000 in
theorem t_142 : (x_mt : List xM)[142]? = some M_cX11_reach := rfl
set_option maxRecDepth 100000 in
theorem t_143 : (x_mt : List xM)[143]? = some M_cX11_post := rfl
set_option maxRecDepth 100000 in
theorem t_144 : (x_mt : List xM)[144]? = some M_cX11_rows := rfl
set_option maxRecDepth 100000 in
theorem t_145 : (x_mt : List xM)[145]? = some M_cX11_ends := rfl
set_option maxRecDepth 100000 in
theorem t_146 : (x_mt : List xM)[146]? = some M_cX11_fair := rfl
set_option maxRecDepth 100000 in
theorem t_147 : (x_mt : List xM)[147]? = some M_cX11_breaks := rfl
set_option maxRecDepth 100000 in
theorem t_148 : (x_mt : List xM)[148]? = some M_cX11_period := rfl
set_option maxRecDepth 100000 in
theorem t_149 : (x_mt : List xM)[149]? = some M_cX11_periods := rfl
set_option maxRecDepth 100000 in
theorem t_150 : (x_mt : List xM)[150]? = some M_cX11_luck := rfl
set_option maxRecDepth 100000 in
theorem t_151 : (x_mt : List xM)[151]? = some M_cX11_fits := rfl
set_option maxRecDepth 100000 in
theorem t_152 : (x_mt : List xM)[152]? = some M_cX11_place := rfl
set_option maxRecDepth 100000 in
theorem t_153 : (x_mt : List xM)[153]? = some M_cX11_next := rfl
set_option maxRecDepth 100000 in
theorem t_154 : (x_mt : List xM)[154]? = some M_cX11_needed := rfl
set_option maxRecDepth 100000 in
theorem t_155 : (x_mt : List xM)[155]? = some M_cX11_known := rfl
set_option maxRecDepth 100000 in
theorem t_156 : (x_mt : List xM)[156]? = some M_cX11_rash := rfl
set_option maxRecDepth 100000 in
theorem t_157 : (x_mt : List xM)[157]? = some M_cX11_look := rfl
set_option maxRecDepth 100000 in
theorem t_158 : (x_mt : List xM)[158]? = some M_cX11_line := rfl
set_option maxRecDepth 100000 in
theorem t_159 : (x_mt : List xM)[159]? = some M_cX11_two := rfl
set_option maxRecDepth 100000 in
theorem t_160 : (x_mt : List xM)[160]? = some M_cX11_tickets := rfl
set_option maxRecDepth 100000 in
theorem t_161 : (x_mt : List xM)[161]? = some M_cX11_prize := rfl
set_option maxRecDepth 100000 in
theorem t_162 : (x_mt : List xM)[162]? = some M_cX11_counted := rfl
set_option maxRecDepth 100000 in
theorem t_163 : (x_mt : List xM)[163]? = some M_cX11_scored := rfl
set_option maxRecDepth 100000 in
theorem t_164 : (x_mt : List xM)[164]? = some M_cX11_early := rfl
set_option maxRecDepth 100000 in
theorem t_165 : (x_mt : List xM)[165]? = some M_cX11_often := rfl
set_option maxRecDepth 100000 in
theorem t_166 : (x_mt : List xM)[166]? = some M_cX11_balance := rfl
set_option maxRecDepth 100000 in
theorem t_167 : (x_mt : List xM)[167]? = some M_cX11_path := rfl
set_option maxRecDepth 100000 in
theorem t_168 : (x_mt : List xM)[168]? = some M_cX11_better := rfl
set_option maxRecDepth 100000 in
theorem t_169 : (x_mt : List xM)[169]? = some M_cX11_swap := rfl
set_option maxRecDepth 100000 in
theorem t_170 : (x_mt : List xM)[170]? = some M_cX11_paint := rfl
set_option maxRecDepth 100000 in
theorem t_171 : (x_mt : List xM)[171]? = some M_cX11_turn := rfl
set_option maxRecDepth 100000 in
theorem t_172 : (x_mt : List xM)[172]? = some M_cX11_shut := rfl
set_option maxRecDepth 100000 in
theorem t_173 : (x_mt : List xM)[173]? = some M_cX11_train := rfl
set_option maxRecDepth 100000 in
theorem t_174 : (x_mt : List xM)[174]? = some M_cX11_drawn := rfl
set_option maxRecDepth 100000 in
theorem t_175 : (x_mt : List xM)[175]? = some M_cX11_night := rfl
set_option maxRecDepth 100000 in
theorem t_176 : (x_mt : List xM)[176]? = some M_cX11_years := rfl
set_option maxRecDepth 100000 in
theorem t_177 : (x_mt : List xM)[177]? = some M_cX11_image := rfl
set_option maxRecDepth 100000 in
theorem t_178 : (x_mt : List xM)[178]? = some M_cX11_back := rfl
set_option maxRecDepth 100000 in
theorem t_179 : (x_mt : List xM)[179]? = some M_cX11_row := rfl
set_option maxRecDepth 100000 in
theorem t_180 : (x_mt : List xM)[180]? = some M_cX11_write := rfl
set_option maxRecDepth 100000 in
theorem t_181 : (x_mt : List xM)[181]? = some M_cX11_paste := rfl
set_option maxRecDepth 100000 in
theorem t_182 : (x_mt : List xM)[182]? = some M_cX11_isSlot := rfl
set_option maxRecDepth 100000 in
theorem t_183 : (x_mt : List xM)[183]? = some M_cX11_isLaw := rfl
set_option maxRecDepth 100000 in
theorem t_184 : (x_mt : List xM)[184]? = some M_cX11_isSeed := rfl
set_option maxRecDepth 100000 in
theorem t_185 : (x_mt : List xM)[185]? = some M_cX11_rowsKept := rfl
set_option maxRecDepth 100000 in
theorem t_186 : (x_mt : List xM)[186]? = some M_cX11_makeReady := rfl
set_option maxRecDepth 100000 in
theorem t_187 : (x_mt : List xM)[187]? = some M_cX11_runOf := rfl
set_option maxRecDepth 100000 in
theorem t_188 : (x_mt : List xM)[188]? = some M_cX11_hitsKnowing := rfl
set_option maxRecDepth 100000 in
theorem t_189 : (x_mt : List xM)[189]? = some M_cX11_hitsLagging := rfl
set_option maxRecDepth 100000 in
theorem t_190 : (x_mt : List xM)[190]? = some M_cX11_lookPoints := rfl
set_option maxRecDepth 100000 in
theorem t_191 : (x_mt : List xM)[191]? = some M_cX11_ticketsOfRun := rfl
set_option maxRecDepth 100000 in
theorem t_192 : (x_mt : List xM)[192]? = some M_cX11_countLots := rfl
set_option maxRecDepth 100000 in
theorem t_193 : (x_mt : List xM)[193]? = some M_cX11_whyUnheard := rfl
set_option maxRecDepth 100000 in
theorem t_194 : (x_mt : List xM)[194]? = some M_cX11_whyNoBlows := rfl
set_option maxRecDepth 100000 in
theorem t_196 : (x_mt : List xM)[196]? = some M_cX12_in := rfl
set_option maxRecDepth 100000 in
theorem t_197 : (x_mt : List xM)[197]? = some M_cX12_image := rfl
set_option maxRecDepth 100000 in
theorem t_198 : (x_mt : List xM)[198]? = some M_cX12_back := rfl
set_option maxRecDepth 100000 in
theorem t_199 : (x_mt : List xM)[199]? = some M_cX12_isBoard := rfl
set_option maxRecDepth 100000 in
theorem t_200 : (x_mt : List xM)[200]? = some M_cX12_holes := rfl
set_option maxRecDepth 100000 in
theorem t_201 : (x_mt : List xM)[201]? = some M_cX12_isHole := rfl
set_option maxRecDepth 100000 in
theorem t_202 : (x_mt : List xM)[202]? = some M_cX12_isShut := rfl
set_option maxRecDepth 100000 in
theorem t_203 : (x_mt : List xM)[203]? = some M_cX12_isTick := rfl
set_option maxRecDepth 100000 in
theorem t_204 : (x_mt : List xM)[204]? = some M_cX12_isComing := rfl
set_option maxRecDepth 100000 in
theorem t_205 : (x_mt : List xM)[205]? = some M_cX12_isPlayer := rfl
set_option maxRecDepth 100000 in
theorem t_206 : (x_mt : List xM)[206]? = some M_cX12_ofComing := rfl
set_option maxRecDepth 100000 in
theorem t_207 : (x_mt : List xM)[207]? = some M_cX12_of := rfl
set_option maxRecDepth 100000 in
theorem t_208 : (x_mt : List xM)[208]? = some M_cX12_feed := rfl
set_option maxRecDepth 100000 in
theorem t_209 : (x_mt : List xM)[209]? = some M_cX12_end := rfl
set_option maxRecDepth 100000 in
theorem t_210 : (x_mt : List xM)[210]? = some M_cX12_see := rfl
set_option maxRecDepth 100000 in
theorem t_211 : (x_mt : List xM)[211]? = some M_cX12_advance := rfl
set_option maxRecDepth 100000 in
theorem t_212 : (x_mt : List xM)[212]? = some M_cX12_good := rfl
set_option maxRecDepth 100000 in
theorem t_213 : (x_mt : List xM)[213]? = some M_cX12_errs := rfl
set_option maxRecDepth 100000 in
theorem t_214 : (x_mt : List xM)[214]? = some M_cX12_is := rfl
set_option maxRecDepth 100000 in
theorem t_215 : (x_mt : List xM)[215]? = some M_cX12_takes := rfl
set_option maxRecDepth 100000 in
theorem t_216 : (x_mt : List xM)[216]? = some M_cX12_needs := rfl
set_option maxRecDepth 100000 in
theorem t_217 : (x_mt : List xM)[217]? = some M_cX12_number := rfl
set_option maxRecDepth 100000 in
theorem t_218 : (x_mt : List xM)[218]? = some M_cX12_told := rfl
set_option maxRecDepth 100000 in
theorem t_219 : (x_mt : List xM)[219]? = some M_cX12_fault := rfl
set_option maxRecDepth 100000 in
theorem t_220 : (x_mt : List xM)[220]? = some M_cX12_freshHoles := rfl
set_option maxRecDepth 100000 in
theorem t_221 : (x_mt : List xM)[221]? = some M_cX12_readFirst := rfl
set_option maxRecDepth 100000 in
theorem t_222 : (x_mt : List xM)[222]? = some M_cX12_freshStay := rfl
set_option maxRecDepth 100000 in
theorem t_223 : (x_mt : List xM)[223]? = some M_cX12_readStay := rfl
set_option maxRecDepth 100000 in
theorem t_224 : (x_mt : List xM)[224]? = some M_cX12_isNextHole := rfl
set_option maxRecDepth 100000 in
theorem t_225 : (x_mt : List xM)[225]? = some M_cX12_isFreshComing := rfl
set_option maxRecDepth 100000 in
theorem t_226 : (x_mt : List xM)[226]? = some M_cX12_readShut := rfl
set_option maxRecDepth 100000 in
theorem t_227 : (x_mt : List xM)[227]? = some M_cX12_readHole := rfl
set_option maxRecDepth 100000 in
theorem t_228 : (x_mt : List xM)[228]? = some M_cX12_readComing := rfl
set_option maxRecDepth 100000 in
theorem t_229 : (x_mt : List xM)[229]? = some M_cX12_readPlayer := rfl
set_option maxRecDepth 100000 in
theorem t_230 : (x_mt : List xM)[230]? = some M_cX12_readNext := rfl
set_option maxRecDepth 100000 in
theorem t_231 : (x_mt : List xM)[231]? = some M_cX12_readLine := rfl
set_option maxRecDepth 100000 in
theorem t_232 : (x_mt : List xM)[232]? = some M_cX12_board := rfl
set_option maxRecDepth 100000 in
theorem t_233 : (x_mt : List xM)[233]? = some M_cX12_stayIn := rfl
set_option maxRecDepth 100000 in
theorem t_234 : (x_mt : List xM)[234]? = some M_cX12_nextTick := rfl
set_option maxRecDepth 100000 in
theorem t_235 : (x_mt : List xM)[235]? = some M_cX12_mayCome := rfl
set_option maxRecDepth 100000 in
theorem t_236 : (x_mt : List xM)[236]? = some M_cX12_come := rfl
set_option maxRecDepth 100000 in
theorem t_237 : (x_mt : List xM)[237]? = some M_cX12_lay := rfl
set_option maxRecDepth 100000 in
theorem t_238 : (x_mt : List xM)[238]? = some M_cX12_inGame := rfl
set_option maxRecDepth 100000 in
theorem t_239 : (x_mt : List xM)[239]? = some M_cX12_drum := rfl
set_option maxRecDepth 100000 in
theorem t_240 : (x_mt : List xM)[240]? = some M_cX12_player := rfl
set_option maxRecDepth 100000 in
theorem t_241 : (x_mt : List xM)[241]? = some M_cX12_stay := rfl
set_option maxRecDepth 100000 in
theorem t_242 : (x_mt : List xM)[242]? = some M_cX12_comings := rfl
set_option maxRecDepth 100000 in
theorem t_243 : (x_mt : List xM)[243]? = some M_cX12_isInGame := rfl
set_option maxRecDepth 100000 in
theorem t_244 : (x_mt : List xM)[244]? = some M_cX12_comes := rfl
set_option maxRecDepth 100000 in
theorem t_245 : (x_mt : List xM)[245]? = some M_cX12_upIn := rfl
set_option maxRecDepth 100000 in
theorem t_246 : (x_mt : List xM)[246]? = some M_cX12_up := rfl
set_option maxRecDepth 100000 in
theorem t_247 : (x_mt : List xM)[247]? = some M_cX12_calm := rfl
set_option maxRecDepth 100000 in
theorem t_248 : (x_mt : List xM)[248]? = some M_cX12_stepsOf := rfl
set_option maxRecDepth 100000 in
theorem t_249 : (x_mt : List xM)[249]? = some M_cX12_steps := rfl
set_option maxRecDepth 100000 in
theorem t_250 : (x_mt : List xM)[250]? = some M_cX12_paceIn := rfl
set_option maxRecDepth 100000 in
theorem t_251 : (x_mt : List xM)[251]? = some M_cX12_pace := rfl
set_option maxRecDepth 100000 in
theorem t_252 : (x_mt : List xM)[252]? = some M_cX12_asTold := rfl
set_option maxRecDepth 100000 in
theorem t_253 : (x_mt : List xM)[253]? = some M_cX12_awareOf := rfl
set_option maxRecDepth 100000 in
theorem t_254 : (x_mt : List xM)[254]? = some M_cX12_aware := rfl
set_option maxRecDepth 100000 in
theorem t_255 : (x_mt : List xM)[255]? = some M_cX12_goes := rfl
set_option maxRecDepth 100000 in
theorem t_256 : (x_mt : List xM)[256]? = some M_cX12_isHis := rfl
set_option maxRecDepth 100000 in
theorem t_257 : (x_mt : List xM)[257]? = some M_cX12_goesFor := rfl
set_option maxRecDepth 100000 in
theorem t_258 : (x_mt : List xM)[258]? = some M_cX12_run := rfl
set_option maxRecDepth 100000 in
theorem t_259 : (x_mt : List xM)[259]? = some M_cX12_runAsTold := rfl
set_option maxRecDepth 100000 in
theorem t_260 : (x_mt : List xM)[260]? = some M_cX12_hits := rfl
set_option maxRecDepth 100000 in
theorem t_261 : (x_mt : List xM)[261]? = some M_cX12_hit := rfl
set_option maxRecDepth 100000 in
theorem t_262 : (x_mt : List xM)[262]? = some M_cX12_twice := rfl
set_option maxRecDepth 100000 in
theorem t_263 : (x_mt : List xM)[263]? = some M_cX12_where := rfl
set_option maxRecDepth 100000 in
theorem t_264 : (x_mt : List xM)[264]? = some M_cX12_missed := rfl
set_option maxRecDepth 100000 in
theorem t_265 : (x_mt : List xM)[265]? = some M_cX12_walked := rfl
set_option maxRecDepth 100000 in
theorem t_266 : (x_mt : List xM)[266]? = some M_cX12_cell := rfl
set_option maxRecDepth 100000 in
theorem t_267 : (x_mt : List xM)[267]? = some M_cX12_sooner := rfl
set_option maxRecDepth 100000 in
theorem t_268 : (x_mt : List xM)[268]? = some M_cX12_behind := rfl
set_option maxRecDepth 100000 in
theorem t_269 : (x_mt : List xM)[269]? = some M_cX12_mayHit := rfl
set_option maxRecDepth 100000 in
theorem t_270 : (x_mt : List xM)[270]? = some M_cX12_bestOf := rfl
set_option maxRecDepth 100000 in
theorem t_271 : (x_mt : List xM)[271]? = some M_cX12_best := rfl
set_option maxRecDepth 100000 in
theorem t_272 : (x_mt : List xM)[272]? = some M_cX12_ahead := rfl
set_option maxRecDepth 100000 in
theorem t_273 : (x_mt : List xM)[273]? = some M_cX12_learnsBy := rfl
set_option maxRecDepth 100000 in
theorem t_274 : (x_mt : List xM)[274]? = some M_cX12_learns := rfl
set_option maxRecDepth 100000 in
theorem t_275 : (x_mt : List xM)[275]? = some M_cX12_enough := rfl
set_option maxRecDepth 100000 in
theorem t_276 : (x_mt : List xM)[276]? = some M_cX12_waitingAt := rfl
set_option maxRecDepth 100000 in
theorem t_277 : (x_mt : List xM)[277]? = some M_cX12_waits := rfl
set_option maxRecDepth 100000 in
theorem t_278 : (x_mt : List xM)[278]? = some M_cX12_openHoles := rfl
set_option maxRecDepth 100000 in
theorem t_279 : (x_mt : List xM)[279]? = some M_cX12_stepsToAll := rfl
set_option maxRecDepth 100000 in
theorem t_280 : (x_mt : List xM)[280]? = some M_cX12_divisor := rfl
set_option maxRecDepth 100000 in
theorem t_281 : (x_mt : List xM)[281]? = some M_cX12_mean := rfl
set_option maxRecDepth 100000 in
theorem t_282 : (x_mt : List xM)[282]? = some M_cX12_middle := rfl
set_option maxRecDepth 100000 in
theorem t_283 : (x_mt : List xM)[283]? = some M_cX12_reachOf := rfl
set_option maxRecDepth 100000 in
theorem t_284 : (x_mt : List xM)[284]? = some M_cX12_reach := rfl
set_option maxRecDepth 100000 in
theorem t_285 : (x_mt : List xM)[285]? = some M_cX12_bits := rfl
set_option maxRecDepth 100000 in
theorem t_286 : (x_mt : List xM)[286]? = some M_cX12_post := rfl
set_option maxRecDepth 100000 in
theorem t_287 : (x_mt : List xM)[287]? = some M_cX12_lagging := rfl
set_option maxRecDepth 100000 in
theorem t_288 : (x_mt : List xM)[288]? = some M_cX12_slack := rfl
set_option maxRecDepth 100000 in
theorem t_289 : (x_mt : List xM)[289]? = some M_cX12_isLaw := rfl
set_option maxRecDepth 100000 in
theorem t_290 : (x_mt : List xM)[290]? = some M_cX12_lets := rfl
set_option maxRecDepth 100000 in
theorem t_291 : (x_mt : List xM)[291]? = some M_cX12_fillRows := rfl
set_option maxRecDepth 100000 in
theorem t_292 : (x_mt : List xM)[292]? = some M_cX12_endingIn := rfl
set_option maxRecDepth 100000 in
theorem t_293 : (x_mt : List xM)[293]? = some M_cX12_rows := rfl
set_option maxRecDepth 100000 in
theorem t_294 : (x_mt : List xM)[294]? = some M_cX12_ends := rfl
set_option maxRecDepth 100000 in
theorem t_295 : (x_mt : List xM)[295]? = some M_cX12_fair := rfl
set_option maxRecDepth 100000 in
theorem t_296 : (x_mt : List xM)[296]? = some M_cX12_holeAt := rfl
set_option maxRecDepth 100000 in
theorem t_297 : (x_mt : List xM)[297]? = some M_cX12_breaks := rfl
set_option maxRecDepth 100000 in
theorem t_298 : (x_mt : List xM)[298]? = some M_cX12_numberAt := rfl
set_option maxRecDepth 100000 in
theorem t_299 : (x_mt : List xM)[299]? = some M_cX12_asksHeard := rfl
set_option maxRecDepth 100000 in
theorem t_300 : (x_mt : List xM)[300]? = some M_cX12_isPeriod := rfl
set_option maxRecDepth 100000 in
theorem t_301 : (x_mt : List xM)[301]? = some M_cX12_leastPeriod := rfl
set_option maxRecDepth 100000 in
theorem t_302 : (x_mt : List xM)[302]? = some M_cX12_period := rfl
set_option maxRecDepth 100000 in
theorem t_303 : (x_mt : List xM)[303]? = some M_cX12_periods := rfl
set_option maxRecDepth 100000 in
theorem t_304 : (x_mt : List xM)[304]? = some M_cX12_luck := rfl
set_option maxRecDepth 100000 in
theorem t_305 : (x_mt : List xM)[305]? = some M_cX12_fitsFrom := rfl
set_option maxRecDepth 100000 in
theorem t_306 : (x_mt : List xM)[306]? = some M_cX12_fits := rfl
set_option maxRecDepth 100000 in
theorem t_307 : (x_mt : List xM)[307]? = some M_cX12_place := rfl
set_option maxRecDepth 100000 in
theorem t_308 : (x_mt : List xM)[308]? = some M_cX12_next := rfl
set_option maxRecDepth 100000 in
theorem t_309 : (x_mt : List xM)[309]? = some M_cX12_goesAlike := rfl
set_option maxRecDepth 100000 in
theorem t_310 : (x_mt : List xM)[310]? = some M_cX12_neededFrom := rfl
set_option maxRecDepth 100000 in
theorem t_311 : (x_mt : List xM)[311]? = some M_cX12_needed := rfl
set_option maxRecDepth 100000 in
theorem t_312 : (x_mt : List xM)[312]? = some M_cX12_known := rfl
set_option maxRecDepth 100000 in
theorem t_313 : (x_mt : List xM)[313]? = some M_cX12_rashOf := rfl
set_option maxRecDepth 100000 in
theorem t_314 : (x_mt : List xM)[314]? = some M_cX12_rash := rfl
set_option maxRecDepth 100000 in
theorem t_315 : (x_mt : List xM)[315]? = some M_cX12_lookOf := rfl
set_option maxRecDepth 100000 in
theorem t_316 : (x_mt : List xM)[316]? = some M_cX12_look := rfl
set_option maxRecDepth 100000 in
theorem t_317 : (x_mt : List xM)[317]? = some M_cX12_line := rfl
set_option maxRecDepth 100000 in
theorem t_318 : (x_mt : List xM)[318]? = some M_cX12_hitsOn := rfl
set_option maxRecDepth 100000 in
theorem t_319 : (x_mt : List xM)[319]? = some M_cX12_two := rfl
set_option maxRecDepth 100000 in
theorem t_320 : (x_mt : List xM)[320]? = some M_cX12_ticketsOf := rfl
set_option maxRecDepth 100000 in
theorem t_321 : (x_mt : List xM)[321]? = some M_cX12_tickets := rfl
set_option maxRecDepth 100000 in
theorem t_322 : (x_mt : List xM)[322]? = some M_cX12_prize := rfl
set_option maxRecDepth 100000 in
theorem t_323 : (x_mt : List xM)[323]? = some M_cX12_asksBlows := rfl
set_option maxRecDepth 100000 in
theorem t_324 : (x_mt : List xM)[324]? = some M_cX12_strike := rfl
set_option maxRecDepth 100000 in
theorem t_325 : (x_mt : List xM)[325]? = some M_cX12_layBlows := rfl
set_option maxRecDepth 100000 in
theorem t_326 : (x_mt : List xM)[326]? = some M_cX12_counted := rfl
set_option maxRecDepth 100000 in
theorem t_327 : (x_mt : List xM)[327]? = some M_cX12_scored := rfl
set_option maxRecDepth 100000 in
theorem t_328 : (x_mt : List xM)[328]? = some M_cX12_early := rfl
set_option maxRecDepth 100000 in
theorem t_329 : (x_mt : List xM)[329]? = some M_cX12_oftenOf := rfl
set_option maxRecDepth 100000 in
theorem t_330 : (x_mt : List xM)[330]? = some M_cX12_often := rfl
set_option maxRecDepth 100000 in
theorem t_331 : (x_mt : List xM)[331]? = some M_cX12_balance := rfl
set_option maxRecDepth 100000 in
theorem t_332 : (x_mt : List xM)[332]? = some M_cX12_pathOf := rfl
set_option maxRecDepth 100000 in
theorem t_333 : (x_mt : List xM)[333]? = some M_cX12_path := rfl
set_option maxRecDepth 100000 in
theorem t_334 : (x_mt : List xM)[334]? = some M_cX12_trade := rfl
set_option maxRecDepth 100000 in
theorem t_335 : (x_mt : List xM)[335]? = some M_cX12_better := rfl
set_option maxRecDepth 100000 in
theorem t_336 : (x_mt : List xM)[336]? = some M_cX12_swap := rfl
set_option maxRecDepth 100000 in
theorem t_337 : (x_mt : List xM)[337]? = some M_cX12_paint := rfl
set_option maxRecDepth 100000 in
theorem t_338 : (x_mt : List xM)[338]? = some M_cX12_turn := rfl
set_option maxRecDepth 100000 in
theorem t_339 : (x_mt : List xM)[339]? = some M_cX12_lucky := rfl
set_option maxRecDepth 100000 in
theorem t_340 : (x_mt : List xM)[340]? = some M_cX12_shut := rfl
set_option maxRecDepth 100000 in
theorem t_341 : (x_mt : List xM)[341]? = some M_cX12_train := rfl
set_option maxRecDepth 100000 in
theorem t_342 : (x_mt : List xM)[342]? = some M_cX12_draw := rfl
set_option maxRecDepth 100000 in
theorem t_343 : (x_mt : List xM)[343]? = some M_cX12_holeByLot := rfl
set_option maxRecDepth 100000 in
theorem t_344 : (x_mt : List xM)[344]? = some M_cX12_layNight := rfl
set_option maxRecDepth 100000 in
theorem t_345 : (x_mt : List xM)[345]? = some M_cX12_isSeed := rfl
set_option maxRecDepth 100000 in
theorem t_346 : (x_mt : List xM)[346]? = some M_cX12_drawn := rfl
set_option maxRecDepth 100000 in
theorem t_347 : (x_mt : List xM)[347]? = some M_cX12_nightOf := rfl
set_option maxRecDepth 100000 in
theorem t_348 : (x_mt : List xM)[348]? = some M_cX12_night := rfl
set_option maxRecDepth 100000 in
theorem t_349 : (x_mt : List xM)[349]? = some M_cX12_years := rfl
set_option maxRecDepth 100000 in
theorem t_350 : (x_mt : List xM)[350]? = some M_cX12_count := rfl
set_option maxRecDepth 100000 in
theorem t_351 : (x_mt : List xM)[351]? = some M_cX12_isSlot := rfl
set_option maxRecDepth 100000 in
theorem t_352 : (x_mt : List xM)[352]? = some M_cX12_cut := rfl
set_option maxRecDepth 100000 in
theorem t_353 : (x_mt : List xM)[353]? = some M_cX12_row := rfl
set_option maxRecDepth 100000 in
theorem t_354 : (x_mt : List xM)[354]? = some M_cX12_write := rfl
set_option maxRecDepth 100000 in
theorem t_355 : (x_mt : List xM)[355]? = some M_cX12_paste := rfl
set_option maxRecDepth 100000 in
theorem t_356 : (x_mt : List xM)[356]? = some M_cJ6_bitCount_0f7a4 := rfl
set_option maxRecDepth 100000 in
theorem t_357 : (x_mt : List xM)[357]? = some M_cJ9_floorMod_7cf53 := rfl
