/-! ===== numbers: nI k is k, nP k is k - 1 ===== -/
def nP (k : Nat) : Int32 := nI k - 1
theorem y_lit (n : Nat) : (OfNat.ofNat n : Int32) = nI (OfNat.ofNat n) := Eq.trans rfl (Eq.refl _)
theorem y_n1 : -(nI 1) = nP 0 := by decide
theorem y_m1 : (-1 : Int32) = nP 0 := by decide
theorem y_nP (k : Nat) : nI k - nI 1 = nP k := Eq.trans rfl (Eq.refl _)
theorem y_nPs (k : Nat) : nP (k + 1) = nI k := nI_pred k
theorem y_nPt {k : Nat} (h : k < 2 ^ 31) : (nP k).toInt = (k : Int) - 1 := by
  unfold nP
  rw [j_sbI (by rw [nI_toInt h, show (1 : Int32).toInt = 1 from by decide]; omega) (by rw [nI_toInt h, show (1 : Int32).toInt = 1 from by decide]; omega), nI_toInt h]
  rfl
theorem y_lt {a b : Nat} (ha : a < 2 ^ 31) (hb : b < 2 ^ 31) : nI a < nI b ↔ a < b := nI_ltI ha hb
theorem y_le {a b : Nat} (ha : a < 2 ^ 31) (hb : b < 2 ^ 31) : nI a ≤ nI b ↔ a ≤ b := nI_leI ha hb
theorem y_eq {a b : Nat} (ha : a < 2 ^ 31) (hb : b < 2 ^ 31) : nI a = nI b ↔ a = b := nI_eq ha hb
theorem y_ltP {a b : Nat} (ha : a < 2 ^ 31) (hb : b < 2 ^ 31) : nP a < nI b ↔ a < b + 1 := by
  rw [j_ltI, y_nPt ha, nI_toInt hb]; omega
theorem y_ltQ {a b : Nat} (ha : a < 2 ^ 31) (hb : b < 2 ^ 31) : nI a < nP b ↔ a + 1 < b := by
  rw [j_ltI, y_nPt hb, nI_toInt ha]; omega
theorem y_ltPP {a b : Nat} (ha : a < 2 ^ 31) (hb : b < 2 ^ 31) : nP a < nP b ↔ a < b := by
  rw [j_ltI, y_nPt ha, y_nPt hb]; omega
theorem y_eqP {a b : Nat} (ha : a < 2 ^ 31) (hb : b < 2 ^ 31) : nP a = nI b ↔ a = b + 1 := by
  rw [j_eqI, y_nPt ha, nI_toInt hb]; omega
theorem y_eqQ {a b : Nat} (ha : a < 2 ^ 31) (hb : b < 2 ^ 31) : nI a = nP b ↔ a + 1 = b := by
  rw [j_eqI, y_nPt hb, nI_toInt ha]; omega
theorem y_eqPP {a b : Nat} (ha : a < 2 ^ 31) (hb : b < 2 ^ 31) : nP a = nP b ↔ a = b := by
  rw [j_eqI, y_nPt ha, y_nPt hb]; omega
/-- of any int -/
theorem y_ltr {x : Int32} {n : Nat} (h : n < 2 ^ 31) : x < nI n ↔ x.toInt < n := by rw [j_ltI, nI_toInt h]
theorem y_ltl {x : Int32} {n : Nat} (h : n < 2 ^ 31) : nI n < x ↔ (n : Int) < x.toInt := by rw [j_ltI, nI_toInt h]
theorem y_ltlP {x : Int32} {n : Nat} (h : n < 2 ^ 31) : nP n < x ↔ (n : Int) - 1 < x.toInt := by rw [j_ltI, y_nPt h]
theorem y_ltrP {x : Int32} {n : Nat} (h : n < 2 ^ 31) : x < nP n ↔ x.toInt < (n : Int) - 1 := by rw [j_ltI, y_nPt h]
theorem y_eqr {x : Int32} {n : Nat} (h : n < 2 ^ 31) : x = nI n ↔ x.toInt = n := by rw [j_eqI, nI_toInt h]
theorem y_of (x : Int32) (n : Nat) (h : 0 ≤ x.toInt) (h2 : x.toInt < n) : ∃ k : Nat, k < n ∧ x = nI k := by
  refine ⟨x.toInt.toNat, by omega, ?_⟩
  have := Int32.toInt_lt x
  rw [j_eqI, nI_toInt (by omega)]; omega
/-- a bit, or a choice -/
theorem y_i0 {p : Prop} [Decidable p] : ((if p then nI 1 else nI 0) = nI 0) ↔ ¬ p := by
  by_cases h : p
  · rw [if_pos h]; exact ⟨fun z => absurd z (by decide), fun z => absurd h z⟩
  · rw [if_neg h]; exact ⟨fun _ => h, fun _ => rfl⟩
theorem y_i1 {p : Prop} [Decidable p] : ((if p then nI 1 else nI 0) = nI 1) ↔ p := by
  by_cases h : p
  · rw [if_pos h]; exact ⟨fun _ => h, fun _ => rfl⟩
  · rw [if_neg h]; exact ⟨fun z => absurd z (by decide), fun z => absurd z h⟩
theorem y_bo {β : Type} {p : Prop} [Decidable p] {o : Option β} : j_bo (if p then nI 1 else nI 0) o = o := by
  unfold j_bo
  by_cases h : p
  · rw [if_pos h]; exact if_pos (Or.inr rfl)
  · rw [if_neg h]; exact if_pos (Or.inl rfl)
theorem y_bo1 {β : Type} {o : Option β} : j_bo (nI 1) o = o := if_pos (Or.inr rfl)
theorem y_bo0 {β : Type} {o : Option β} : j_bo (nI 0) o = o := if_pos (Or.inl rfl)
theorem y_ix {α : Type} {k n : Nat} {o : Option α} (h : k < n) (hn : n < 2 ^ 31) : j_ix (nI k) n o = o := j_ixn h hn
theorem y_l (x : Int32) : x.toInt64.toInt = x.toInt := j_l64 x
theorem y_lit64 {n : Nat} (h : (OfNat.ofNat n : Nat) < 2 ^ 31) : (OfNat.ofNat n : Int64) = (nI (OfNat.ofNat n)).toInt64 := by
  rw [nI_l h]; rfl
theorem y_in {x y z : Int32} : f_X12_in x.toInt64 y.toInt64 z.toInt64 = if ¬ x < y ∧ ¬ z < x then nI 1 else nI 0 := by
  unfold f_X12_in
  simp only [j_ltI, Int64.lt_iff_toInt_lt, j_l64]
  rfl
theorem y_pos {m n : Nat} (h : m < n) : ∃ k, n = k + 1 := ⟨n - 1, by omega⟩
theorem y_F {m : Nat} (h : m < 5000) : m < j_F := h
/-- cells that stay -/
def y_fr (lo hi : Nat) (σ σ' : j_G) : Prop := ∀ c, c < lo ∨ hi < c → σ'.1 c = σ.1 c ∧ σ'.2 c = σ.2 c
theorem y_fr.refl {lo hi : Nat} {σ : j_G} : y_fr lo hi σ σ := fun _ _ => ⟨rfl, rfl⟩
theorem y_fr.trans {lo hi : Nat} {σ σ' σ'' : j_G} (h1 : y_fr lo hi σ σ') (h2 : y_fr lo hi σ' σ'') : y_fr lo hi σ σ'' := fun c hc =>
  ⟨(h2 c hc).1.trans (h1 c hc).1, (h2 c hc).2.trans (h1 c hc).2⟩
theorem y_fr.wide {lo hi lo' hi' : Nat} {σ σ' : j_G} (h : y_fr lo hi σ σ') (h1 : lo' ≤ lo) (h2 : hi ≤ hi') : y_fr lo' hi' σ σ' := fun c hc => h c (by omega)
theorem y_fr.i {lo hi : Nat} {σ σ' : j_G} (h : y_fr lo hi σ σ') (c j : Nat) (hc : c < lo ∨ hi < c) : σ'.1 c j = σ.1 c j := by rw [(h c hc).1]
theorem y_fr.l {lo hi : Nat} {σ σ' : j_G} (h : y_fr lo hi σ σ') (c j : Nat) (hc : c < lo ∨ hi < c) : σ'.2 c j = σ.2 c j := by rw [(h c hc).2]
theorem y_fr.si {lo hi c j : Nat} {v : Int32} {σ σ' : j_G} (h : y_fr lo hi σ σ') (hc : lo ≤ c) (hd : c ≤ hi) : y_fr lo hi σ (j_si σ' c j v) := fun c' hc' =>
  ⟨(funext fun j' => j_r_ne (by omega)).trans (h c' hc').1, (h c' hc').2⟩
theorem y_fr.sl {lo hi c j : Nat} {v : Int64} {σ σ' : j_G} (h : y_fr lo hi σ σ') (hc : lo ≤ c) (hd : c ≤ hi) : y_fr lo hi σ (j_sl σ' c j v) := fun c' hc' =>
  ⟨(h c' hc').1, (funext fun j' => j_l_ne (by omega)).trans (h c' hc').2⟩
theorem y_fr.ci {lo hi a sp c dp n : Nat} {σ σ' : j_G} (h : y_fr lo hi σ σ') (hc : lo ≤ c) (hd : c ≤ hi) : y_fr lo hi σ (j_ci σ' a sp c dp n) := fun c' hc' =>
  ⟨(funext fun j' => j_c_ne (by omega)).trans (h c' hc').1, (h c' hc').2⟩
theorem y_fr.cl {lo hi a sp c dp n : Nat} {σ σ' : j_G} (h : y_fr lo hi σ σ') (hc : lo ≤ c) (hd : c ≤ hi) : y_fr lo hi σ (j_cl σ' a sp c dp n) := fun c' hc' =>
  ⟨(h c' hc').1, (funext fun j' => j_cl_ne (by omega)).trans (h c' hc').2⟩
/-- of the reference: fields f .. g of its object, cells lo .. hi -/
def y_fm (f g lo hi : Nat) (σ σ' : j_G) : Prop := (∀ j, j < f ∨ g < j → σ'.1 75 j = σ.1 75 j) ∧ ∀ c, c ≠ 75 → c < lo ∨ hi < c → σ'.1 c = σ.1 c ∧ σ'.2 c = σ.2 c
theorem y_fm.refl {f g lo hi : Nat} {σ : j_G} : y_fm f g lo hi σ σ := ⟨fun _ _ => rfl, fun _ _ _ => ⟨rfl, rfl⟩⟩
theorem y_fm.trans {f g lo hi : Nat} {σ σ' σ'' : j_G} (h1 : y_fm f g lo hi σ σ') (h2 : y_fm f g lo hi σ' σ'') : y_fm f g lo hi σ σ'' :=
  ⟨fun j hj => (h2.1 j hj).trans (h1.1 j hj), fun c hn hc => ⟨(h2.2 c hn hc).1.trans (h1.2 c hn hc).1, (h2.2 c hn hc).2.trans (h1.2 c hn hc).2⟩⟩
theorem y_fm.wide {f g lo hi f' g' lo' hi' : Nat} {σ σ' : j_G} (h : y_fm f g lo hi σ σ') (h1 : f' ≤ f) (h2 : g ≤ g') (h3 : lo' ≤ lo) (h4 : hi ≤ hi') : y_fm f' g' lo' hi' σ σ' :=
  ⟨fun j hj => h.1 j (by omega), fun c hn hc => h.2 c hn (by omega)⟩
theorem y_fm.o {f g lo hi : Nat} {σ σ' : j_G} (h : y_fm f g lo hi σ σ') (j : Nat) (hc : j < f ∨ g < j) : σ'.1 75 j = σ.1 75 j := h.1 j hc
theorem y_fm.i {f g lo hi : Nat} {σ σ' : j_G} (h : y_fm f g lo hi σ σ') (c j : Nat) (hn : c ≠ 75) (hc : c < lo ∨ hi < c) : σ'.1 c j = σ.1 c j := by rw [(h.2 c hn hc).1]
theorem y_fm.l {f g lo hi : Nat} {σ σ' : j_G} (h : y_fm f g lo hi σ σ') (c j : Nat) (hn : c ≠ 75) (hc : c < lo ∨ hi < c) : σ'.2 c j = σ.2 c j := by rw [(h.2 c hn hc).2]
theorem y_fm.so {f g lo hi j : Nat} {v : Int32} {σ σ' : j_G} (h : y_fm f g lo hi σ σ') (hc : f ≤ j) (hd : j ≤ g) : y_fm f g lo hi σ (j_si σ' 75 j v) :=
  ⟨fun j' hj => (j_r_nj (by omega)).trans (h.1 j' hj), fun c' hn hc' => ⟨(funext fun j' => j_r_ne (by omega)).trans (h.2 c' hn hc').1, (h.2 c' hn hc').2⟩⟩
theorem y_fm.si {f g lo hi c j : Nat} {v : Int32} {σ σ' : j_G} (h : y_fm f g lo hi σ σ') (hn : c ≠ 75) (hc : lo ≤ c) (hd : c ≤ hi) : y_fm f g lo hi σ (j_si σ' c j v) :=
  ⟨fun j' hj => (j_r_ne (by omega)).trans (h.1 j' hj), fun c' hn hc' => ⟨(funext fun j' => j_r_ne (by omega)).trans (h.2 c' hn hc').1, (h.2 c' hn hc').2⟩⟩
theorem y_fm.sl {f g lo hi c j : Nat} {v : Int64} {σ σ' : j_G} (h : y_fm f g lo hi σ σ') (hn : c ≠ 75) (hc : lo ≤ c) (hd : c ≤ hi) : y_fm f g lo hi σ (j_sl σ' c j v) :=
  ⟨h.1, fun c' hn hc' => ⟨(h.2 c' hn hc').1, (funext fun j' => j_l_ne (by omega)).trans (h.2 c' hn hc').2⟩⟩
theorem y_fm.slo {f g lo hi j : Nat} {v : Int64} {σ σ' : j_G} (h : y_fm f g lo hi σ σ') : y_fm f g lo hi σ (j_sl σ' 75 j v) :=
  ⟨h.1, fun c' hn hc' => ⟨(h.2 c' hn hc').1, (funext fun j' => j_l_ne (by omega)).trans (h.2 c' hn hc').2⟩⟩
