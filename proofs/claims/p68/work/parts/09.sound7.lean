/-! ===== what is made only grows; the walk ===== -/
def x_ge (k z : Nat) (o : xC ⊕ ((Nat × List Value × List Value) ⊕ Option Value)) : Prop := match o with
  | .inl c' => k ≤ c'.2.2.2.2.1 ∧ z ≤ c'.2.2.2.2.2
  | .inr _ => True
section XG
variable {pc : Nat} {L : xL} {st : List Value} {h h1 : xH} {k z k1 z1 : Nat} {ins : Instr} {a b : Nat} {o : xC ⊕ ((Nat × List Value × List Value) ⊕ Option Value)}
theorem x_ge_go {pc' : Nat} {L' : xL} {st' : List Value} (hi : x_go pc' L' st' h1 k1 z1 = some o) (hk : k ≤ k1 := by omega) (hz : z ≤ z1 := by omega) : x_ge k z o := by
  have := x_go_of hi
  subst this
  exact ⟨hk, hz⟩
theorem x_ge_i1 {f : Int32 → List Value → xO} (hi : x_i1 st f = some o) (hf : ∀ x r, f x r = some o → x_ge k z o) : x_ge k z o := by obtain ⟨x, r, -, hj⟩ := x_i1_of hi; exact hf _ _ hj
theorem x_ge_i2 {f : Int32 → Int32 → List Value → xO} (hi : x_i2 st f = some o) (hf : ∀ x y r, f x y r = some o → x_ge k z o) : x_ge k z o := by obtain ⟨x, y, r, -, hj⟩ := x_i2_of hi; exact hf _ _ _ hj
theorem x_ge_l1 {f : Int64 → List Value → xO} (hi : x_l1 st f = some o) (hf : ∀ x r, f x r = some o → x_ge k z o) : x_ge k z o := by obtain ⟨x, r, -, hj⟩ := x_l1_of hi; exact hf _ _ hj
theorem x_ge_l2 {f : Int64 → Int64 → List Value → xO} (hi : x_l2 st f = some o) (hf : ∀ x y r, f x y r = some o → x_ge k z o) : x_ge k z o := by obtain ⟨x, y, r, -, hj⟩ := x_l2_of hi; exact hf _ _ _ hj
theorem x_ge_li {f : Int64 → Int32 → List Value → xO} (hi : x_li st f = some o) (hf : ∀ x y r, f x y r = some o → x_ge k z o) : x_ge k z o := by obtain ⟨x, y, r, -, hj⟩ := x_li_of hi; exact hf _ _ _ hj
theorem x_ge_a1 {f : Nat → List Value → xO} (hi : x_a1 st f = some o) (hf : ∀ x r, f x r = some o → x_ge k z o) : x_ge k z o := by obtain ⟨x, r, -, hj⟩ := x_a1_of hi; exact hf _ _ hj
theorem x_ge_ai {f : Nat → Int32 → List Value → xO} (hi : x_ai st f = some o) (hf : ∀ x i r, f x i r = some o → x_ge k z o) : x_ge k z o := by obtain ⟨x, i, r, -, hj⟩ := x_ai_of hi; exact hf _ _ _ hj
theorem x_ge_aii {f : Nat → Int32 → Int32 → List Value → xO} (hi : x_aii st f = some o) (hf : ∀ q i x r, f q i x r = some o → x_ge k z o) : x_ge k z o := by obtain ⟨q, i, x, r, -, hj⟩ := x_aii_of hi; exact hf _ _ _ _ hj
theorem x_ge_ail {f : Nat → Int32 → Int64 → List Value → xO} (hi : x_ail st f = some o) (hf : ∀ q i x r, f q i x r = some o → x_ge k z o) : x_ge k z o := by obtain ⟨q, i, x, r, -, hj⟩ := x_ail_of hi; exact hf _ _ _ _ hj
theorem x_ge_aiq {f : Nat → Int32 → Nat → List Value → xO} (hi : x_aiq st f = some o) (hf : ∀ q i x r, f q i x r = some o → x_ge k z o) : x_ge k z o := by obtain ⟨q, i, x, r, -, hj⟩ := x_aiq_of hi; exact hf _ _ _ _ hj
theorem x_ge_av {f : Nat → Value → List Value → xO} (hi : x_av st f = some o) (hf : ∀ q v r, f q v r = some o → x_ge k z o) : x_ge k z o := by obtain ⟨q, v, r, -, hj⟩ := x_av_of hi; exact hf _ _ _ hj
theorem x_ge_v1 {f : Value → List Value → xO} (hi : x_v1 st f = some o) (hf : ∀ v r, f v r = some o → x_ge k z o) : x_ge k z o := by obtain ⟨v, r, -, hj⟩ := x_v1_of hi; exact hf _ _ hj
theorem x_ge_v2 {f : Value → Value → List Value → xO} (hi : x_v2 st f = some o) (hf : ∀ v w r, f v w r = some o → x_ge k z o) : x_ge k z o := by obtain ⟨v, w, r, -, hj⟩ := x_v2_of hi; exact hf _ _ _ hj
theorem x_ge_cp {f : Nat → Int32 → Nat → Int32 → Int32 → List Value → xO} (hi : x_cp st f = some o) (hf : ∀ a0 sp a1 dp n r, f a0 sp a1 dp n r = some o → x_ge k z o) : x_ge k z o := by obtain ⟨a0, sp, a1, dp, n, r, -, hj⟩ := x_cp_of hi; exact hf _ _ _ _ _ _ hj
theorem x_ge_br {off : Int} {f : Nat → xO} (hi : x_br pc off f = some o) (hf : ∀ t, f t = some o → x_ge k z o) : x_ge k z o := by obtain ⟨t, -, hj⟩ := x_br_of hi; exact hf _ hj
theorem x_ge_ob {q : Nat} {f : Nat → List Value → xO} (hi : x_ob h q f = some o) (hf : ∀ c fs, f c fs = some o → x_ge k z o) : x_ge k z o := by obtain ⟨c, fs, -, hj⟩ := x_ob_of hi; exact hf _ _ hj
theorem x_ge_ari {t q : Nat} {f : Nat → (Nat → Int32) → xO} (hi : x_ari t h q f = some o) (hf : ∀ n g, f n g = some o → x_ge k z o) : x_ge k z o := by obtain ⟨n, g, -, hj⟩ := x_ari_of hi; exact hf _ _ hj
theorem x_ge_arl {q : Nat} {f : Nat → (Nat → Int64) → xO} (hi : x_arl h q f = some o) (hf : ∀ n g, f n g = some o → x_ge k z o) : x_ge k z o := by obtain ⟨n, g, -, hj⟩ := x_arl_of hi; exact hf _ _ hj
theorem x_ge_arq {q : Nat} {f : Nat → Nat → (Nat → Option Nat) → xO} (hi : x_arq h q f = some o) (hf : ∀ t n g, f t n g = some o → x_ge k z o) : x_ge k z o := by obtain ⟨t, n, g, -, hj⟩ := x_arq_of hi; exact hf _ _ _ hj
theorem x_ge_ar {q : Nat} {f : Nat → xO} (hi : x_ar h q f = some o) (hf : ∀ n, f n = some o → x_ge k z o) : x_ge k z o := by obtain ⟨t, n, y, -, hj⟩ := x_ar_of hi; exact hf _ hj
theorem x_ge_in {i : Int32} {n : Nat} {u : xO} (hi : x_in i n u = some o) (hf : u = some o → x_ge k z o) : x_ge k z o := hf (x_in_of hi).2
theorem x_ge_bif {c : Bool} {u u' : xO} (hi : (bif c then u else u') = some o) (hf : u = some o → x_ge k z o) (hf' : u' = some o → x_ge k z o) : x_ge k z o := by
  cases c with
  | true => exact hf hi
  | false => exact hf' hi
theorem x_ge_ite {c : Prop} [Decidable c] {u u' : xO} (hi : (if c then u else u') = some o) (hf : u = some o → x_ge k z o) (hf' : u' = some o → x_ge k z o) : x_ge k z o := by
  split at hi
  · exact hf hi
  · exact hf' hi
theorem x_ge_none (hi : (none : xO) = some o) : x_ge k z o := by cases hi
theorem x_ge_cond {op : ClassFile.Cond} {x y : Int32} {u u' : xO} (hi : x_cond op x y u u' = some o) (hf : u = some o → x_ge k z o) (hf' : u' = some o → x_ge k z o) : x_ge k z o := by
  unfold x_cond at hi
  split at hi <;> exact x_ge_ite hi hf hf'
set_option maxHeartbeats 4000000 in
theorem x_ge1 (hi : x_ins1 ins pc a L st h k z = some o) : x_ge k z o := by
  unfold x_ins1 at hi
  split at hi
  all_goals first
    | exact x_ge_go hi
    | exact x_ge_none hi
    | exact x_ge_bif hi (fun hj => x_ge_go hj) (fun hj => x_ge_go hj)
    | exact x_ge_i1 hi fun _ _ hj => x_ge_go hj
    | exact x_ge_i2 hi fun _ _ _ hj => x_ge_go hj
    | exact x_ge_l1 hi fun _ _ hj => x_ge_go hj
    | exact x_ge_l2 hi fun _ _ _ hj => x_ge_go hj
    | exact x_ge_li hi fun _ _ _ hj => x_ge_go hj
    | exact x_ge_a1 hi fun _ _ hj => x_ge_go hj
    | exact x_ge_i2 hi fun _ _ _ hj => x_ge_ite hj x_ge_none fun hj => x_ge_go hj
    | exact x_ge_l2 hi fun _ _ _ hj => x_ge_ite hj x_ge_none fun hj => x_ge_go hj
    | exact x_ge_v1 hi fun _ _ hj => x_ge_bif hj (fun hj => x_ge_go hj) x_ge_none
    | exact x_ge_v2 hi fun _ _ _ hj => x_ge_bif hj (fun hj => x_ge_go hj) x_ge_none
    | exact x_ge_br hi fun _ hj => x_ge_go hj
    | exact x_ge_i1 hi fun _ _ hj => x_ge_br hj fun _ hj => x_ge_cond hj (fun hj => x_ge_go hj) (fun hj => x_ge_go hj)
    | exact x_ge_i2 hi fun _ _ _ hj => x_ge_br hj fun _ hj => x_ge_cond hj (fun hj => x_ge_go hj) (fun hj => x_ge_go hj)
    | exact x_ge_i1 hi fun _ _ hj => x_ge_ite hj (fun hj => x_ge_br hj fun _ hj => x_ge_go hj) x_ge_none
    | exact x_ge_i1 hi fun _ _ hj => x_ge_ite hj (fun hj => x_ge_br hj fun _ hj => x_ge_go hj) (fun hj => by
        split at hj
        · exact x_ge_br hj fun _ hj => x_ge_go hj
        · exact x_ge_none hj)
    | (split at hi
       · exact x_ge_go hi
       · exact x_ge_none hi)
set_option maxHeartbeats 4000000 in
theorem x_ge2 {S : Option xS} (hi : x_ins2 S ins pc a b L st h k z = some o) : x_ge k z o := by
  unfold x_ins2 at hi
  split at hi
  · exact x_ge_a1 hi fun _ _ hj => x_ge_ob hj fun _ _ hj => x_ge_bif hj (fun hj => by
      split at hj
      · exact x_ge_go hj
      · exact x_ge_none hj) x_ge_none
  · exact x_ge_av hi fun _ _ _ hj => x_ge_ob hj fun _ _ hj => x_ge_bif hj (fun hj => x_ge_go hj) x_ge_none
  · exact x_ge_ai hi fun _ _ _ hj => x_ge_bif hj (fun hj => by
      split at hj
      · exact x_ge_in hj fun hj => x_ge_go hj
      · exact x_ge_none hj) (fun hj => x_ge_ari hj fun _ _ hj => x_ge_in hj fun hj => x_ge_go hj)
  · exact x_ge_aii hi fun _ _ _ _ hj => x_ge_ari hj fun _ _ hj => x_ge_in hj fun hj => x_ge_go hj
  · refine x_ge_ai hi fun _ _ _ hj => ?_
    split at hj
    · exact x_ge_in hj fun hj => x_ge_go hj
    · exact x_ge_in hj fun hj => x_ge_go hj
    · exact x_ge_none hj
  · refine x_ge_aii hi fun _ _ _ _ hj => ?_
    split at hj
    · exact x_ge_in hj fun hj => x_ge_go hj
    · exact x_ge_in hj fun hj => x_ge_go hj
    · exact x_ge_none hj
  · exact x_ge_ai hi fun _ _ _ hj => x_ge_arl hj fun _ _ hj => x_ge_in hj fun hj => x_ge_go hj
  · exact x_ge_ail hi fun _ _ _ _ hj => x_ge_arl hj fun _ _ hj => x_ge_in hj fun hj => x_ge_go hj
  · exact x_ge_ai hi fun _ _ _ hj => x_ge_arq hj fun _ _ _ hj => x_ge_bif hj (fun hj => x_ge_in hj fun hj => x_ge_go hj) x_ge_none
  · exact x_ge_aiq hi fun _ _ _ _ hj => x_ge_arq hj fun _ _ _ hj => x_ge_ob hj fun _ _ hj => x_ge_bif hj (fun hj => x_ge_in hj fun hj => x_ge_go hj) x_ge_none
  · exact x_ge_a1 hi fun _ _ hj => x_ge_bif hj (fun hj => by
      split at hj
      · exact x_ge_go hj
      · exact x_ge_none hj) (fun hj => x_ge_ar hj fun _ hj => x_ge_go hj)
  · refine x_ge_i1 hi fun _ _ hj => x_ge_ite hj x_ge_none fun hj => ?_
    split at hj <;> first | exact x_ge_go hj | exact x_ge_none hj
  · exact x_ge_i1 hi fun _ _ hj => x_ge_ite hj x_ge_none fun hj => x_ge_go hj
  · exact x_ge_ite hi x_ge_none fun hj => x_ge_go hj
  · exact x_ge_none hi
theorem x_ge_cal {sb : Bool} {n : Nat} (hi : x_cal sb a n st = some o) : x_ge k z o := by
  obtain ⟨vs, rest, -, -, ⟨-, ho, -⟩ | ⟨-, q, ho, -⟩⟩ := x_cal_of hi <;> (rw [ho]; exact trivial)
set_option maxHeartbeats 4000000 in
theorem x_ge3 (hi : x_ins3 ins pc a b L st h k z = some o) : x_ge k z o := by
  unfold x_ins3 at hi
  split at hi
  · exact x_ge_bif hi (fun hj => x_ge_a1 hj fun _ _ hj => x_ge_bif hj (fun hj => x_ge_go hj) x_ge_none) (fun hj => x_ge_cal hj)
  · exact x_ge_bif hi (fun hj => x_ge_a1 hj fun _ _ hj => x_ge_bif hj (fun hj => by
        split at hj
        · exact x_ge_go hj
        · exact x_ge_none hj) x_ge_none) (fun hj => x_ge_bif hj (fun hj => x_ge_ai hj fun _ _ _ hj => x_ge_bif hj (fun hj => by
        split at hj
        · exact x_ge_in hj fun hj => x_ge_go hj
        · exact x_ge_none hj) x_ge_none) (fun hj => x_ge_cal hj))
  · exact x_ge_bif hi (fun hj => x_ge_i2 hj fun _ _ _ hj => x_ge_bif hj (fun hj => x_ge_go hj) x_ge_none) (fun hj =>
      x_ge_bif hj (fun hj => x_ge_i2 hj fun _ _ _ hj => x_ge_bif hj (fun hj => x_ge_go hj) x_ge_none) (fun hj =>
      x_ge_bif hj (fun hj => x_ge_i1 hj fun _ _ hj => x_ge_bif hj (fun hj => x_ge_go hj) x_ge_none) (fun hj =>
      x_ge_bif hj (fun hj => x_ge_cp hj fun _ _ _ _ _ _ hj => x_ge_bif hj (fun hj => x_ge_ari hj fun _ _ hj => x_ge_ari hj fun _ _ hj => x_ge_ite hj x_ge_none fun hj => x_ge_go hj) x_ge_none) (fun hj =>
      x_ge_bif hj (fun hj => x_ge_cp hj fun _ _ _ _ _ _ hj => x_ge_bif hj (fun hj => x_ge_arl hj fun _ _ hj => x_ge_arl hj fun _ _ hj => x_ge_ite hj x_ge_none fun hj => x_ge_go hj) x_ge_none) (fun hj => x_ge_cal hj)))))
  · exact x_ge_none hi
end XG
theorem x_ge_step {M : xM} {S : Option xS} {c : xC} {o} (hi : x_step M S c = some o) : x_ge c.2.2.2.2.1 c.2.2.2.2.2 o := by
  unfold x_step at hi
  split at hi
  · cases hi
  · split at hi
    · exact x_ge1 hi
    · exact x_ge2 hi
    · exact x_ge3 hi
    · split at hi
      · have := Option.some.inj hi
        rw [← this]; exact trivial
      · cases hi
theorem x_mono {mt : List xM} : ∀ (n d : Nat) (M : xM) (S : Option xS) (c0 : xC) (v : Option Value) (h' : xH) (k' z' : Nat), x_run mt S n d M c0 = some (v, h', k', z') → c0.2.2.2.2.1 ≤ k' ∧ c0.2.2.2.2.2 ≤ z' := by
  intro n
  induction n with
  | zero => intro d M S c0 v h' k' z' hr; cases hr
  | succ n ih =>
    intro d M S c0 v h' k' z' hr
    unfold x_run at hr
    cases hs : x_step M S c0 with
    | none => rw [hs] at hr; cases hr
    | some o =>
      rw [hs] at hr
      have hg := x_ge_step hs
      obtain c' | q | u := o
      · have := ih d M S c' v h' k' z' hr
        exact ⟨Nat.le_trans hg.1 this.1, Nat.le_trans hg.2 this.2⟩
      · cases d with
        | zero => cases hr
        | succ d' =>
          dsimp only at hr
          cases hM : mt[q.1]? with
          | none => rw [hM] at hr; cases hr
          | some M' =>
            rw [hM] at hr
            dsimp only at hr
            cases hb : (Nat.ble (x_cat q.2.1) M'.2.2.2.1 && x_rcv M' q.2.1 c0.2.2.2.1) with
            | false => rw [hb] at hr; cases hr
            | true =>
              rw [hb] at hr
              dsimp only [cond] at hr
              split at hr
              · rename_i r hr1
                have := ih _ M S _ v h' k' z' hr
                exact ⟨Nat.le_trans (Nat.le_add_right _ _) this.1, Nat.le_trans (Nat.le_add_right _ _) this.2⟩
              · cases hr
      · cases hr
        exact ⟨Nat.le_refl _, Nat.le_refl _⟩

theorem x_GoodIn {M : xM} (hM : Cond.code (x_nm M) (x_cc M) (x_ml M) (x_rt M) ∈ x_bw) : GoodIn x_bw (x_ws M) := by
  intro w hw
  have h : w ∈ x_bw := by
    rcases List.mem_cons.mp hw with rfl | h
    · exact hM
    · exact h
  exact ⟨h, good_of_word (x_bw_good w h)⟩
set_option maxHeartbeats 4000000 in
theorem x_walk {mt : List xM} (hC : x_okC) (hmt : ∀ (i : Nat) (M : xM), mt[i]? = some M → x_okM mt M) : ∀ (n d : Nat) (M : xM) (S : Option xS) (c0 : xC) (v : Option Value) (h' : xH) (k' z' : Nat), (∀ q ∈ x_rws M, ∀ r ∈ q.2, x_okR mt M r) → x_run mt S n d M c0 = some (v, h', k', z') → x_Wk mt d M S c0 v h' k' z' := by
  intro n
  induction n with
  | zero => intro d M S c0 v h' k' z' hM hr; cases hr
  | succ n ih =>
    intro d M S c0 v h' k' z' hM hr
    have hmo := x_mono (n + 1) d M S c0 v h' k' z' hr
    refine ⟨hmo.1, hmo.2, ?_⟩
    intro p l e R s m args below meth c Q base ad D H locs ls hx hb hml hmn X hSc hR hkR hzR hl hend
    obtain ⟨pc, L, st, h, k, z⟩ := c0
    dsimp only at hmo X hl ⊢
    unfold x_run at hr
    cases hs : x_step M S (pc, L, st, h, k, z) with
    | none => rw [hs] at hr; cases hr
    | some o =>
      rw [hs] at hr
      have hmls : c.maxLocals = ls.size := hml.trans hl.1.symm
      unfold x_step at hs
      dsimp only at hs
      cases hrow : x_row (x_rws M) pc with
      | none => rw [show x_row M.2.2.2.2.2.2.2 pc = none from hrow] at hs; cases hs
      | some r =>
        rw [show x_row M.2.2.2.2.2.2.2 pc = some r from hrow] at hs
        obtain ⟨⟨q, hq, hrq⟩, hpc⟩ := x_row_mem hrow
        obtain ⟨hd, hlen, hg⟩ := hM q hq r hrq
        rw [hpc] at hd
        obtain ⟨rpc, ins, len, a, b, w⟩ := r
        dsimp only at hs hd hlen hg
        cases hgr : x_grp ins with
        | zero =>
          rw [hgr] at hs hg
          cases hv : x_ret M.2.2.2.2.1 ins st with
          | none => rw [hv] at hs; cases hs
          | some u =>
            rw [hv] at hs
            cases hs
            cases hr
            have hl1 : len = 1 := by
              unfold x_ret at hv
              split at hv <;> first | exact hlen | cases hv
            subst hl1
            exact hend H locs ls pc ins st hd hv X
        | succ g =>
          rw [hgr] at hs hg
          cases g with
          | zero =>
            obtain ⟨pc', L', st', rfl, kk⟩ := x_s1 (p := p) (l := l) (e := e) (R := R) (below := below) (meth := meth) (H := H) (locs := locs) (cells := k) (slots := z) (Q := Q) hx hb X.1 X.2.1 hd hlen hg hSc.2.2.2.2 hs hl
            exact kk fun ls' hl' => (ih d M S _ v h' k' z' hM hr).2.2 hx hb hml hmn X hSc hR hkR hzR hl' hend
          | succ g =>
            cases g with
            | zero =>
              obtain ⟨pc', st', h1, k1, z1, rfl, hk1, hz1, kk⟩ := x_s2 (p := p) (l := l) (e := e) (R := R) (below := below) (meth := meth) (Q := Q) (ls := ls) hC hx hb hmn X hSc hd hlen hg hs
              have hm2 := x_mono n d M S _ v h' k' z' hr
              exact kk (Nat.le_trans hm2.1 hkR) (Nat.le_trans hm2.2 hzR) fun H1 locs1 X1 => (ih d M S _ v h' k' z' hM hr).2.2 hx hb hml hmn X1 hSc hR hkR hzR hl hend
            | succ g =>
              cases g with
              | zero =>
                rcases x_s3 (p := p) (l := l) (e := e) (R := R) (below := below) (meth := meth) (Q := Q) (ls := ls) hx hb hmls X hSc.2 hR hd hlen hg hs (Nat.le_trans hmo.1 hkR) (Nat.le_trans hmo.2 hzR) with ⟨pc', st', h1, k1, z1, rfl, hk1, hz1, kk⟩ | ⟨i, vs, rest, h8, hvl, hcall⟩
                · have hm2 := x_mono n d M S _ v h' k' z' hr
                  exact kk (Nat.le_trans hm2.1 hkR) (Nat.le_trans hm2.2 hzR) fun H1 locs1 X1 => (ih d M S _ v h' k' z' hM hr).2.2 hx hb hml hmn X1 hSc hR hkR hzR hl hend
                · have hres : ∃ vs' : List Value, o = .inr (.inl (a, vs', rest)) := by
                    rcases hcall with ⟨-, -, ho, -⟩ | ⟨q, sp, -, -, ho, -⟩
                    · exact ⟨_, ho⟩
                    · exact ⟨_, ho⟩
                  obtain ⟨vs', ho⟩ := hres
                  subst ho
                  cases d with
                  | zero => cases hr
                  | succ d' =>
                    dsimp only at hr
                    cases hMM : mt[a]? with
                    | none => rw [hMM] at hr; cases hr
                    | some M' =>
                      rw [hMM] at hr
                      dsimp only at hr
                      cases hbb : (Nat.ble (x_cat vs') M'.2.2.2.1 && x_rcv M' vs' h) with
                      | false => rw [hbb] at hr; cases hr
                      | true =>
                        rw [hbb] at hr
                        dsimp only [cond] at hr
                        have hbb := Bool.and_eq_true_iff.mp hbb
                        have hcat := Nat.le_of_ble_eq_true hbb.1
                        cases hr1 : x_run mt none n d' M' (0, lv_args 0 vs', [], h, 0, 0) with
                        | none => rw [hr1] at hr; cases hr
                        | some rr =>
                          obtain ⟨v1, h1, mc, ms⟩ := rr
                          rw [hr1] at hr
                          dsimp only at hr
                          have okM' := hmt a M' hMM
                          have hm2 := x_mono n (d' + 1) M S _ v h' k' z' hr
                          dsimp only at hm2
                          have wk1 := ih d' M' none _ v1 h1 mc ms okM'.2.2.2.2.2.2.2.2.2 hr1
                          have met := x_met (l := l) (base := base) (ad := ad) (D := D) okM' wk1 hcat
                          have after : ∀ (H1 : Heap) (locs1 : List Loc), x_At s m args (x_own M) D base ad h1 H1 locs1 → W p l e R s m args below meth c H1 locs1 (k + mc) (z + ms) Q (F0 m (pc + 3) ls ((v1.map (x_cv ad)).toList ++ rest.map (x_cv ad))) := by
                            intro H1 locs1 X1
                            have := (ih (d' + 1) M S _ v h' k' z' hM hr).2.2 hx hb hml hmn X1 hSc hR hkR hzR hl hend
                            dsimp only at this
                            cases v1 with
                            | none => exact this
                            | some u => exact this
                          obtain ⟨o1, o2, o3, o4, o5, o6, o7, o8, o9, -⟩ := okM'
                          have hG := x_GoodIn o5
                          obtain ⟨hown, hts, hK, hbase, w, hS⟩ := id X
                          have hroom : (x_room d' mc ms).frames + 1 ≤ R.frames ∧ 8 + (x_ml M' + 11) + (x_room d' mc ms).locals ≤ R.locals := by
                            have q1 := hR.1
                            have q2 := hR.2
                            constructor
                            · show d' + 5 + 1 ≤ _; omega
                            · show 8 + (x_ml M' + 11) + 37 * (d' + 5) ≤ _; omega
                          have hcells : k + mc ≤ R.cells ∧ z + ms ≤ R.slots := ⟨Nat.le_trans hm2.1 hkR, Nat.le_trans hm2.2 hzR⟩
                          have hpre : ∀ U : State, U.heap = H → s.WarmedH U.vm → x_Pc base ad D vs' h (vs'.map (x_cv ad)).toArray U := x_jpre X hSc.2
                          rcases hcall with ⟨hdi, ⟨M2, e2, hlk, hsta, hsp, hsn, hpar⟩, ho, hst⟩ | ⟨q, sp, hdi, ⟨M2, e2, hlk, hsta, hsp, hsn, hpar⟩, ho, hst⟩
                          · rw [hMM] at e2
                            cases e2
                            cases ho
                            have cb := callB_of (R := R) (s := s) (args := args) (own := x_own M) (index := i) (y := x_nm M') (bytes := x_cc M') (maxL := x_ml M') (ret := x_rt M') (ws := x_ws M') (rm := x_room d' mc ms) (mc := mc) (ms := ms) b hts hG rfl rfl rfl (hts _ o6) (hts _ hlk) ⟨o3.1, o3.2, hpar⟩ hroom
                            rw [hst, List.map_append, List.map_reverse]
                            refine x_cont X (va_runS (As := vs.map (x_cv ad)) (rest := rest.map (x_cv ad)) ⟨hx, hb, hml, hown, hts⟩ met ⟨cb, hts _ (o7 hsta)⟩ ⟨x_Pc_blind, hpre⟩ rfl (by rw [List.length_map]; exact hvl) hl.1 rfl (lv_room (by rw [x_cat_map]; exact h8)) hdi hcells) after
                          · rw [hMM] at e2
                            cases e2
                            cases ho
                            have cb := callB_of (R := R) (s := s) (args := args) (own := x_own M) (index := i) (y := x_nm M') (bytes := x_cc M') (maxL := x_ml M') (ret := x_rt M') (ws := x_ws M') (rm := x_room d' mc ms) (mc := mc) (ms := ms) b hts hG rfl rfl rfl (hts _ o6) (hts _ hlk) ⟨o3.1, o3.2, hpar⟩ hroom
                            rw [hst, List.map_append, List.map_reverse]
                            obtain ⟨o8a, T, N, hcl⟩ := o8 hsta
                            rcases hdi with ⟨rfl, hdi⟩ | ⟨rfl, hdi⟩
                            · have hrc : ∃ cell : Cell, H[ad q]? = some cell ∧ cell.vm.isStatics = false ∧ s.vm.findClass (x_nm M').cls = some cell.cls := by
                                have hrv := hbb.2
                                unfold x_rcv at hrv
                                rw [show M'.2.2.2.2.2.1 = false from hsta] at hrv
                                dsimp only [Bool.false_or] at hrv
                                split at hrv
                                · rename_i ci fs hq
                                  have hci := Nat.eq_of_beq_eq_true hrv
                                  subst hci
                                  obtain ⟨-, -, -, cs, hP, -⟩ := w
                                  rw [o2]
                                  exact va_recv hK hP hcl (x_cw_get hq)
                                · cases hrv
                              have hini := hsn rfl
                              · refine x_cont X (va_runV (As := vs.map (x_cv ad)) (rest := rest.map (x_cv ad)) ⟨hx, hb, hml, hown, hts⟩ met ⟨cb, hts _ o8a, hts _ (o9 hsta hini)⟩ ⟨x_Pc_blind, hrc, hpre⟩ rfl (by rw [List.length_map]; exact hvl) hl.1 rfl (lv_room (by rw [x_cat_map]; exact h8)) hdi hcells) after
                            · obtain ⟨hin, hrt⟩ := hsp rfl
                              have cb' : CallB R s args (x_own M) i (x_nm M') (x_cc M') (x_ml M') none (x_ws M') (x_room d' mc ms) mc ms b := by rw [← hrt]; exact cb
                              refine x_cont X (va_runI (As := vs.map (x_cv ad)) (rest := rest.map (x_cv ad)) ⟨hx, hb, hml, hown, hts⟩ met ⟨cb', hin, hts _ o8a⟩ ⟨x_Pc_blind, hpre⟩ rfl (by rw [List.length_map]; exact hvl) hl.1 rfl (lv_room (by rw [x_cat_map]; exact h8)) hdi hcells) after
              | succ g =>
                cases hv : x_ret M.2.2.2.2.1 ins st with
                | none => rw [hv] at hs; cases hs
                | some u =>
                  rw [hv] at hs
                  cases hs
                  cases hr
                  have hl1 : len = 1 := by
                    unfold x_ret at hv
                    split at hv <;> first | exact hlen | cases hv
                  subst hl1
                  exact hend H locs ls pc ins st hd hv X
