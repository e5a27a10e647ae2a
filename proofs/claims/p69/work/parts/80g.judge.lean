/-! ===== the words and shapes ===== -/
def y_L (k : Nat) : List Int32 := x_sbyt.getD k []
def y_fw : Nat → Nat
  | 0 => 8 | 1 => 16 | 2 => 17 | 3 => 13 | 4 => 14 | 5 => 15 | 6 => 18 | _ => 19
theorem y_strs : ∀ k, k < 27 → x_sbyt[k]? = some (y_L k) ∧ (y_L k).length < 100 ∧ ∀ i, i < (y_L k).length → 0 ≤ ((y_L k).getD i 0).toInt ∧ ((y_L k).getD i 0).toInt < 128 := by decide +kernel
theorem y_strK {k : Nat} (hk : k < 27) : y_str (2000000 + k) (y_L k) := by
  obtain ⟨h1, h2, h3⟩ := y_strs k hk
  refine ⟨by unfold x_str; omega, ?_, h2, fun i hi => ?_⟩
  · rw [show 2000000 + k - x_str = k by unfold x_str; omega]; exact h1
  · obtain ⟨g1, g2⟩ := h3 i hi
    obtain ⟨c, hc, e⟩ := y_of _ 128 g1 g2
    exact ⟨c, hc, e⟩
theorem y_ne : ∀ k, k < 27 → y_L k ≠ [] := by decide +kernel
theorem y_first : ∀ k, k < 8 → f_X7_shapeOf (nI k) = 2000000 + k ∧ y_fw k < 27 ∧ 0 + (y_L (y_fw k)).length < (y_L k).length ∧ (y_L k).getD (0 + (y_L (y_fw k)).length) 0 = 32 ∧ (∀ j, j < (y_L (y_fw k)).length → (y_L k).getD (0 + j) 0 = (y_L (y_fw k)).getD j 0 ∧ (y_L k).getD (0 + j) 0 ≠ 32) ∧ (y_L k).getD 0 0 ≠ 35 ∧ (y_L k).getD 0 0 ≠ 59 := by decide +kernel
theorem y_dist : ∀ j, j < 27 → ∀ k, k < 27 → (j ≠ k ∧ 8 ≤ j ∧ 8 ≤ k) → ¬ ((y_L j).length = (y_L k).length ∧ ∀ i, i < (y_L j).length → (y_L j).getD i 0 = (y_L k).getD i 0) := by decide +kernel
def y_it : Nat → List (Option (List Int32))
  | 0 => [some (y_L 9), none, some (y_L 10), none, some (y_L 11), none, some (y_L 12), none, some []]
  | 1 => [none, some (y_L 20), none, some []]
  | 2 => [none, some []]
  | 3 => [none, some []]
  | 4 => [none, some []]
  | 5 => [none, none, some []]
  | 6 => [some (y_L 21), none, some (y_L 22), none, some (y_L 23), none, some (y_L 24), none, some (y_L 25), none, some []]
  | _ => [none, some (y_L 26), none, some []]
theorem y_fits : ∀ k, k < 8 → y_fit (y_L k) ((y_L (y_fw k)).length + 1) 0 (y_it k) = true ∧ (y_it k).length < 100 ∧ 1 + (y_it k).length < (y_L k).length := by decide +kernel
/-! ===== the kind of a line ===== -/
section K
variable {B : Nat → Int32} {n : Nat}
theorem y_sp_dist {p j k : Nat} (hj : j < 27) (hk : k < 27) (hj8 : 8 ≤ j) (hk8 : 8 ≤ k) (h : y_sp (y_L k) B n p = true) (hne : j ≠ k) : ¬ y_sp (y_L j) B n p = true := by
  intro z
  obtain ⟨_, a2, a3⟩ := y_spP.mp h
  obtain ⟨_, b2, b3⟩ := y_spP.mp z
  exact y_dist j hj k hk ⟨hne, hj8, hk8⟩ ⟨by omega, fun i hi => by rw [← b3 i hi, ← a3 i (by omega)]⟩
theorem y_fw_inj : ∀ j, j < 8 → ∀ k, k < 8 → y_fw j = y_fw k → j = k := by decide
theorem y_fw_lt : ∀ j, j < 8 → 8 ≤ y_fw j ∧ y_fw j < 27 := by decide
/-- the kind: 8 if none -/
def y_kl (B : Nat → Int32) (n p : Nat) : Nat → Nat → Nat
  | 0, k => k
  | m + 1, k => if y_sp (y_L (y_fw k)) B n p = true then k else y_kl B n p m (k + 1)
def y_kn (B : Nat → Int32) (n p : Nat) : Nat := y_kl B n p 8 0
theorem y_kl_sp {p : Nat} : ∀ m k, k + m = 8 → (y_kl B n p m k = 8 ∧ ∀ j, k ≤ j → j < 8 → ¬ y_sp (y_L (y_fw j)) B n p = true) ∨ (y_kl B n p m k < 8 ∧ y_sp (y_L (y_fw (y_kl B n p m k))) B n p = true) := by
  intro m
  induction m with
  | zero => intro k h; left; exact ⟨by unfold y_kl; omega, fun j a c => by omega⟩
  | succ m ih =>
    intro k h
    unfold y_kl
    by_cases c : y_sp (y_L (y_fw k)) B n p = true
    · rw [if_pos c]; right; exact ⟨by omega, c⟩
    · rw [if_neg c]
      rcases ih (k + 1) (by omega) with ⟨a1, a2⟩ | a
      · left
        refine ⟨a1, fun j b1 b2 => ?_⟩
        by_cases e : j = k
        · subst e; exact c
        · exact a2 j (by omega) b2
      · right; exact a
theorem y_kn_sp {p : Nat} : (y_kn B n p = 8 ∧ ∀ j, j < 8 → ¬ y_sp (y_L (y_fw j)) B n p = true) ∨ (y_kn B n p < 8 ∧ y_sp (y_L (y_fw (y_kn B n p))) B n p = true) := by
  rcases y_kl_sp (B := B) (n := n) (p := p) 8 0 (by omega) with ⟨a, c⟩ | a
  · exact Or.inl ⟨a, fun j hj => c j (by omega) hj⟩
  · exact Or.inr a
theorem y_kn_iff {p k : Nat} (hk : k < 8) : y_sp (y_L (y_fw k)) B n p = true ↔ y_kn B n p = k := by
  rcases y_kn_sp (B := B) (n := n) (p := p) with ⟨a, c⟩ | ⟨a, c⟩
  · exact ⟨fun z => absurd z (c k hk), fun z => by omega⟩
  · constructor
    · intro z
      by_cases e : y_kn B n p = k
      · exact e
      · exact absurd c (y_sp_dist (y_fw_lt _ a).2 (y_fw_lt k hk).2 (y_fw_lt _ a).1 (y_fw_lt k hk).1 z (fun w => e (y_fw_inj _ a _ hk w)))
    · intro z; rw [← z]; exact c
theorem yc_kol {σ : j_G} (ht : y_ct σ B n) {p : Nat} (hp : p ≤ n) (hc : y_ck σ B n p) : ∀ m k f, k + m = 8 → m < f → p_X7_kindOfLine_2 σ f (nI k) = some (if y_kl B n p m k = 8 then nP 0 else if (y_kl B n p m k = 0 ↔ σ.1 11 1 = nI 0) then nI (y_kl B n p m k) else nP 0) := by
  intro m
  induction m with
  | zero =>
    intro k f h hf
    obtain ⟨f, rfl⟩ := y_pos hf
    unfold p_X7_kindOfLine_2 y_kl
    rw [if_neg (show ¬ nI k < (8 : Int32) by rw [show (8 : Int32) = nI 8 from rfl, y_lt (by omega) (by omega)]; omega), if_pos (by omega : k = 8)]; rfl
  | succ m ih =>
    intro k f h hf
    obtain ⟨f, rfl⟩ := y_pos hf
    obtain ⟨q1, q2, q3, q4, q5, q6⟩ := y_first k (by omega)
    have st := yc_stW (L := y_L (y_fw k)) (y_strK (k := k) (by omega)) ht hp hc (i := 0) q3 q4 q5 q6
    unfold p_X7_kindOfLine_2 y_kl
    rw [if_pos (show nI k < (8 : Int32) by rw [show (8 : Int32) = nI 8 from rfl, y_lt (by omega) (by omega)]; omega), q1, show (0 : Int32) = nI 0 from rfl, st, j_b1_s]
    simp only [j_lt]
    by_cases c : y_sp (y_L (y_fw k)) B n p = true
    · rw [if_pos c, if_pos c, if_pos (show ¬ nI 1 = nI 0 by decide), if_neg (show ¬ k = 8 by omega)]
      by_cases c0 : k = 0
      · subst c0
        rw [if_pos rfl]
        by_cases z : σ.1 11 1 = nI 0
        · rw [if_pos z, if_pos rfl, if_pos ⟨fun _ => z, fun _ => rfl⟩]
        · rw [if_neg z, if_neg (show ¬ (1 : Int32) = nI 0 by decide), if_neg (fun w => z (w.mp rfl))]; rfl
      · rw [if_neg (show ¬ nI k = nI 0 by rw [y_eq (by omega) (by omega)]; exact c0)]
        by_cases z : σ.1 11 1 = nI 0
        · rw [if_pos z, if_neg (show ¬ nI 0 = (1 : Int32) by decide), if_neg (fun w => c0 (w.mpr z))]; rfl
        · rw [if_neg z, if_pos rfl, if_pos ⟨fun w => absurd w c0, fun w => absurd w z⟩]
    · rw [if_neg c, if_neg c, if_neg (show ¬ ¬ nI 0 = nI 0 from fun z => z rfl)]
      have e : nI k + 1 = nI (k + 1) := by simp (disch := omega) only [y_lit, nI_add]
      rw [e]
      exact ih (k + 1) f (by omega) (by omega)
/-! ===== the judges ===== -/
def y_mv (σ : j_G) : j_G := (fun c => if c < 10 then σ.1 (c + 10) else σ.1 c, σ.2)
abbrev y_T (σ : j_G) (b : Nat → Nat) : Prop := y_cb σ 11 12 13 14 15 16 17 18 b
theorem y_T.mv {σ : j_G} {b : Nat → Nat} (h : y_T σ b) : y_N (y_mv σ) b := h
theorem y_T.fc {σ σ' : j_G} {b : Nat → Nat} (h : y_T σ b) (hf : y_fc σ σ') : y_T σ' b := by
  unfold y_T y_cb at *
  rw [hf.1 11 (by omega) (by omega), hf.1 12 (by omega) (by omega), hf.1 13 (by omega) (by omega), hf.1 14 (by omega) (by omega), hf.1 15 (by omega) (by omega), hf.1 16 (by omega) (by omega), hf.1 17 (by omega) (by omega), hf.1 18 (by omega) (by omega)]
  exact h
def y_qo (b : Nat → Nat) (v : Nat) : Nat := if v < y_ho b ∧ y_sh b v = 0 then 0 else 2
def y_hs (b : Nat → Nat) (v : Nat) : Nat → Nat → Bool
  | 0, _ => false
  | m + 1, k => if b (12 + 2 * k) = v then true else y_hs b v m (k + 1)
def y_q0 (vs : List Nat) (v : Nat) : Nat := if vs.length = 0 then y_jr 1 5 v else if vs.length = 1 then y_jr 1 4 v else if vs.length = 2 then y_jr 1 201 v else y_jr 0 10 v
def y_q1 (b : Nat → Nat) (vs : List Nat) (v : Nat) : Nat := if vs.length = 0 then y_jr 1 41 v else if ¬ v < b 2 then 2 else if 6 ≤ b 4 ∧ y_hs b v (b 4) 0 = false then 3 else 0
def y_q2 (b : Nat → Nat) (_ : List Nat) (v : Nat) : Nat := if y_qo b v = 0 ∧ y_oft b v = 0 then 0 else 2
def y_q5 (b : Nat → Nat) (vs : List Nat) (v : Nat) : Nat := if y_qo b v = 0 ∧ (vs.length = 0 ∨ v ≠ vs.getD 0 0) then 0 else 2
def y_q6 (b : Nat → Nat) (vs : List Nat) (v : Nat) : Nat := if vs.length = 0 then y_jr 1 10 v else if vs.length = 1 then y_jr 0 21 v else if vs.length = 2 then y_jr 0 100 v else if vs.length = 3 then y_jr 0 10 v else y_jr 0 (y_ho b) v
def y_q7 (vs : List Nat) (v : Nat) : Nat := if vs.length = 0 then y_jr 1 100 v else y_jr 1 501 v
def y_qk (b : Nat → Nat) : Nat → List Nat → Nat → Nat
  | 0 => y_q0
  | 1 => y_q1 b
  | 2 => y_q2 b
  | 3 => fun _ v => y_qo b v
  | 4 => fun _ v => y_qo b v
  | 5 => y_q5 b
  | 6 => y_q6 b
  | _ => y_q7
theorem yj_w {σ : j_G} {v lo hi : Nat} (h : σ.1 10 8 = nI v) (hv : v ≤ 1000000) (hlo : lo < 1000) (hh : hi < 1000) : f_X7_within (nI lo) (nI hi) σ = nI (y_jr lo (hi + 1) v) := by
  unfold f_X7_within y_jr
  rw [h]
  by_cases c : lo ≤ v ∧ v < hi + 1
  · rw [if_pos c, if_pos (show ¬ nI v < nI lo ∧ ¬ nI hi < nI v by rw [y_lt (by omega) (by omega), y_lt (by omega) (by omega)]; omega)]; rfl
  · rw [if_neg c, if_neg (show ¬ (¬ nI v < nI lo ∧ ¬ nI hi < nI v) by rw [y_lt (by omega) (by omega), y_lt (by omega) (by omega)]; omega)]; rfl
theorem yj_o {σ : j_G} {b : Nat → Nat} {v : Nat} (hW : y_W b) (hT : y_T σ b) (h : σ.1 10 8 = nI v) (hv : v ≤ 1000000) : f_X7_isOpen σ = if y_qo b v = 0 then nI 1 else nI 0 := by
  have ho := hW.ho
  have s2 : y_sh b v < 2 := Nat.mod_lt _ (by omega)
  unfold f_X7_isOpen y_qo
  rw [h, show f_X2_isHole 11 (nI v) σ = f_X2_isHole 1 (nI v) (y_mv σ) from rfl, show f_X2_isShut 11 (nI v) σ = f_X2_isShut 1 (nI v) (y_mv σ) from rfl, yc_isHole hT.mv hW]
  by_cases c : v < y_ho b
  · rw [if_pos ((y_rn (by omega)).mpr c), yc_isShut hT.mv hW (by omega)]
    by_cases d : y_sh b v = 1
    · rw [if_pos d, if_neg (show ¬ (¬ nI 1 = (0 : Int32) ∧ nI 1 = (0 : Int32)) from fun z => z.1 z.2), if_neg (show ¬ (v < y_ho b ∧ y_sh b v = 0) by omega), if_neg (by omega)]; rfl
    · rw [if_neg d, if_pos (show (¬ nI 1 = (0 : Int32) ∧ nI 0 = (0 : Int32)) from ⟨by decide, rfl⟩), if_pos (show (v < y_ho b ∧ y_sh b v = 0) by omega), if_pos rfl]; rfl
  · rw [if_neg (fun z => c ((y_rn (by omega)).mp z)), if_neg (fun z => z.1 rfl), show (if v < y_ho b ∧ y_sh b v = 0 then 0 else 2) = 2 from if_neg (fun z => c z.1), if_neg (by omega)]; rfl
theorem yj_oft {a0 a1 a2 c0 c1 c2 : Nat} {l1 : Int32} {σ σ' : j_G} (h0 : σ.1 a0 = σ'.1 c0) (h1 : σ.1 a1 = σ'.1 c1) (h2 : σ.1 a2 = σ'.1 c2) : ∀ f x y, p_X3_oftenAt_4 a0 a1 a2 l1 σ f x y = p_X3_oftenAt_4 c0 c1 c2 l1 σ' f x y := by
  intro f
  induction f with
  | zero => intro x y; rfl
  | succ f ih =>
    intro x y
    unfold p_X3_oftenAt_4
    rw [h0, h1, h2]
    simp only [ih]
theorem yj_hsf {σ : j_G} {b : Nat → Nat} {v : Nat} (hW : y_W b) (hT : y_T σ b) (hv : v ≤ 1000000) : ∀ m k f, k + m = b 4 → m < f → p_X2_hasStayFrom_2 (nI v) σ f (nI k) = some (if y_hs b v m k = true then nI 1 else nI 0) := by
  have b4 := hW.b4
  have b2 := hW.b2
  intro m
  induction m with
  | zero =>
    intro k f h hf
    obtain ⟨f, rfl⟩ := y_pos hf
    unfold p_X2_hasStayFrom_2 y_hs
    rw [hT.f10, if_neg (show ¬ nI k < nI (b 4) by rw [y_lt (by omega) (by omega)]; omega), if_neg (by decide)]; rfl
  | succ m ih =>
    intro k f h hf
    obtain ⟨f, rfl⟩ := y_pos hf
    have st := hW.st (k := k) (by omega)
    unfold p_X2_hasStayFrom_2 y_hs
    rw [hT.f10, if_pos (show nI k < nI (b 4) by rw [y_lt (by omega) (by omega)]; omega), y_ix (by omega) (by omega), nI_clamp (by omega), hT.s1 (by omega)]
    by_cases c : b (12 + 2 * k) = v
    · rw [if_pos (show nI (b (12 + 2 * k)) = nI v by rw [c]), if_pos c, if_pos rfl]; rfl
    · rw [if_neg (show ¬ nI (b (12 + 2 * k)) = nI v by rw [y_eq (by omega) (by omega)]; exact c), if_neg c, show nI k + 1 = nI (k + 1) by simp (disch := omega) only [y_lit, nI_add]]
      exact ih (k + 1) f (by omega) (by omega)
end K
