/-! ===== the judges of the eight kinds ===== -/
section K
variable {σ : j_G} {b : Nat → Nat}
theorem y_jr2 {lo h v : Nat} (z : y_jr lo h v ≠ 0) : y_jr lo h v = 2 := by
  unfold y_jr at *
  by_cases c : lo ≤ v ∧ v < h
  · rw [if_pos c] at z; omega
  · exact if_neg c
theorem y_qo2 {v : Nat} (z : y_qo b v ≠ 0) : y_qo b v = 2 := by
  unfold y_qo at *
  by_cases c : v < y_ho b ∧ y_sh b v = 0
  · rw [if_pos c] at z; omega
  · exact if_neg c
theorem y_qo_le {v : Nat} : y_qo b v ≤ 3 := by unfold y_qo; split <;> omega
theorem y_jd0 : y_jd y_q0 (nI 0) σ := by
  intro σ' vs v fr hv vl vals h5
  refine ⟨?_, by unfold y_q0; (repeat' split) <;> exact y_jr_le⟩
  unfold f_X7_judge f_X7_fitsBoard
  rw [if_pos (show nI 0 = (0 : Int32) from rfl)]
  have key : ∀ lo hi, lo < 1000 → hi < 1000 → (if (if f_X7_within (nI lo) (nI hi) σ' = 0 then (1 : Int32) else 0) = 0 then some (2 : Int32) else some 0) = some (nI (y_jr lo (hi + 1) v)) := by
    intro lo hi a c
    rw [yj_w hv vl a c]
    have := y_jr_le (lo := lo) (h := hi + 1) (v := v)
    by_cases z : y_jr lo (hi + 1) v = 0
    · rw [z, if_pos (show nI 0 = (0 : Int32) from rfl), if_neg (by decide)]; rfl
    · rw [if_neg (show ¬ nI (y_jr lo (hi + 1) v) = (0 : Int32) by rw [show (0 : Int32) = nI 0 from rfl, y_eq (by omega) (by omega)]; exact z), if_pos rfl]
      have : y_jr lo (hi + 1) v = 2 := y_jr2 z
      rw [this]; rfl
  have fl : ∀ x : Int32, (if ¬ x = 0 then some (0 : Int32) else some 2) = if x = 0 then some 2 else some 0 := by
    intro x
    by_cases z : x = 0
    · rw [if_neg (fun w => w z), if_pos z]
    · rw [if_pos z, if_neg z]
  rw [fl]
  unfold y_q0
  by_cases c0 : vs.length = 0
  · rw [c0, if_pos (show nI 0 = (0 : Int32) from rfl), if_pos rfl]; exact key 1 4 (by omega) (by omega)
  · rw [if_neg (show ¬ nI vs.length = (0 : Int32) by rw [show (0 : Int32) = nI 0 from rfl, y_eq (by omega) (by omega)]; exact c0), if_neg c0]
    by_cases c1 : vs.length = 1
    · rw [c1, if_pos (show nI 1 = (1 : Int32) from rfl), if_pos rfl]; exact key 1 3 (by omega) (by omega)
    · rw [if_neg (show ¬ nI vs.length = (1 : Int32) by rw [show (1 : Int32) = nI 1 from rfl, y_eq (by omega) (by omega)]; exact c1), if_neg c1]
      by_cases c2 : vs.length = 2
      · rw [c2, if_pos (show nI 2 = (2 : Int32) from rfl), if_pos rfl]; exact key 1 200 (by omega) (by omega)
      · rw [if_neg (show ¬ nI vs.length = (2 : Int32) by rw [show (2 : Int32) = nI 2 from rfl, y_eq (by omega) (by omega)]; exact c2), if_neg c2]; exact key 0 9 (by omega) (by omega)
theorem y_jd1 (hW : y_W b) (hT : y_T σ b) : y_jd (y_q1 b) (nI 1) σ := by
  intro σ' vs v fr hv vl vals h5
  have hT' := hT.fc fr
  have b4 := hW.b4
  have b2 := hW.b2
  refine ⟨?_, by unfold y_q1; split; exact y_jr_le; (repeat' split) <;> omega⟩
  unfold f_X7_judge
  rw [if_neg (show ¬ nI 1 = (0 : Int32) by decide), if_pos (show nI 1 = (1 : Int32) from rfl)]
  unfold y_q1
  by_cases c0 : vs.length = 0
  · rw [c0, if_pos (show nI 0 = (0 : Int32) from rfl), if_pos rfl]
    rw [show (1 : Int32) = nI 1 from rfl, show (40 : Int32) = nI 40 from rfl, yj_w hv vl (by omega) (by omega)]
  · rw [if_neg (show ¬ nI vs.length = (0 : Int32) by rw [show (0 : Int32) = nI 0 from rfl, y_eq (by omega) (by omega)]; exact c0), if_neg c0]
    unfold f_X7_judgeFrom
    rw [hv, show f_X2_isTick 11 (nI v) σ' = f_X2_isTick 1 (nI v) (y_mv σ') from rfl, yc_isTick hT'.mv hW, hT'.f10]
    by_cases c1 : v < b 2
    · rw [if_pos ((y_rn (by omega)).mpr c1), if_neg (show ¬ nI 1 = (0 : Int32) by decide), if_neg (show ¬ ¬ v < b 2 from fun z => z c1)]
      have hh := yj_hsf hW hT' vl (b 4) 0 j_F (by omega) (y_F (by omega))
      have h2 : f_X2_hasStayFrom (nI v) σ' = some (if y_hs b v (b 4) 0 = true then nI 1 else nI 0) := by
        unfold f_X2_hasStayFrom; rw [show (0 : Int32) = nI 0 from rfl, hh]
      by_cases c2 : 6 ≤ b 4
      · rw [if_pos (show ¬ nI (b 4) < (6 : Int32) by rw [show (6 : Int32) = nI 6 from rfl, y_lt (by omega) (by omega)]; omega), h2, j_b1_s]
        cases c3 : y_hs b v (b 4) 0 with
        | false => rw [if_neg (show ¬ (false = true) by decide), if_pos (show nI 0 = (0 : Int32) from rfl), if_pos ⟨c2, rfl⟩]; rfl
        | true => rw [if_pos rfl, if_neg (show ¬ nI 1 = (0 : Int32) by decide), if_neg (fun z => by cases z.2)]; rfl
      · rw [if_neg (show ¬ ¬ nI (b 4) < (6 : Int32) by rw [show (6 : Int32) = nI 6 from rfl, y_lt (by omega) (by omega)]; omega), if_neg (fun z => c2 z.1)]; rfl
    · rw [if_neg (fun z => c1 ((y_rn (by omega)).mp z)), if_pos (show nI 0 = (0 : Int32) from rfl), if_pos c1]; rfl
theorem yj_open (hW : y_W b) (hT : y_T σ b) {v : Nat} (h : σ.1 10 8 = nI v) (hv : v ≤ 1000000) {o : Option Int32} : (if ¬ f_X7_isOpen σ = 0 then o else some 2) = if y_qo b v = 0 then o else some (nI 2) := by
  rw [yj_o hW hT h hv]
  by_cases c : y_qo b v = 0
  · rw [if_pos c, if_pos (show ¬ nI 1 = (0 : Int32) by decide), if_pos c]
  · rw [if_neg c, if_neg (show ¬ ¬ nI 0 = (0 : Int32) from fun z => z rfl), if_neg c]; rfl
theorem y_jd2 (hW : y_W b) (hT : y_T σ b) : y_jd (y_q2 b) (nI 2) σ := by
  intro σ' vs v fr hv vl vals h5
  have hT' := hT.fc fr
  have b5 := hW.b5
  have ho := hW.ho
  refine ⟨?_, by unfold y_q2; (repeat' split) <;> omega⟩
  unfold f_X7_judge
  rw [if_neg (show ¬ nI 2 = (0 : Int32) by decide), if_neg (show ¬ nI 2 = (1 : Int32) by decide), if_pos (show nI 2 = (2 : Int32) from rfl), yj_open hW hT' hv vl]
  unfold y_q2
  by_cases c : y_qo b v = 0
  · have vh : v < y_ho b := by
      unfold y_qo at c
      by_cases d : v < y_ho b ∧ y_sh b v = 0
      · exact d.1
      · rw [if_neg d] at c; omega
    have e : f_X3_oftenAt 15 16 17 (nI v) σ' = some (nI (y_oft b v)) := by
      rw [← yc_oft hT'.mv hW (x := v) (by omega)]
      unfold f_X3_oftenAt
      rw [yj_oft (a0 := 15) (a1 := 16) (a2 := 17) (c0 := 5) (c1 := 6) (c2 := 7) (σ' := y_mv σ') rfl rfl rfl]
    have ol := y_oft_le b v
    rw [if_pos c, hv, e, j_b1_s]
    by_cases d : y_oft b v = 0
    · rw [d, if_pos (show nI 0 = (0 : Int32) from rfl), if_pos ⟨c, rfl⟩]; rfl
    · rw [if_neg (show ¬ nI (y_oft b v) = (0 : Int32) by rw [show (0 : Int32) = nI 0 from rfl, y_eq (by omega) (by omega)]; exact d), if_neg (fun z => d z.2)]; rfl
  · rw [if_neg c, if_neg (fun z => c z.1)]
theorem y_jd3 (hW : y_W b) (hT : y_T σ b) : y_jd (fun _ v => y_qo b v) (nI 3) σ := by
  intro σ' vs v fr hv vl vals h5
  have hT' := hT.fc fr
  refine ⟨?_, y_qo_le⟩
  unfold f_X7_judge
  rw [if_neg (show ¬ nI 3 = (0 : Int32) by decide), if_neg (show ¬ nI 3 = (1 : Int32) by decide), if_neg (show ¬ nI 3 = (2 : Int32) by decide), if_pos (show nI 3 = (3 : Int32) from rfl), yj_open hW hT' hv vl]
  show _ = some (nI (y_qo b v))
  by_cases c : y_qo b v = 0
  · rw [if_pos c, c]; rfl
  · have : y_qo b v = 2 := y_qo2 c
    rw [if_neg c, this]
theorem y_jd4 (hW : y_W b) (hT : y_T σ b) : y_jd (fun _ v => y_qo b v) (nI 4) σ := by
  intro σ' vs v fr hv vl vals h5
  have hT' := hT.fc fr
  refine ⟨?_, y_qo_le⟩
  unfold f_X7_judge
  rw [if_neg (show ¬ nI 4 = (0 : Int32) by decide), if_neg (show ¬ nI 4 = (1 : Int32) by decide), if_neg (show ¬ nI 4 = (2 : Int32) by decide), if_neg (show ¬ nI 4 = (3 : Int32) by decide), if_pos (show nI 4 = (4 : Int32) from rfl), yj_open hW hT' hv vl]
  show _ = some (nI (y_qo b v))
  by_cases c : y_qo b v = 0
  · rw [if_pos c, c]; rfl
  · have : y_qo b v = 2 := y_qo2 c
    rw [if_neg c, this]
theorem y_jd5 (hW : y_W b) (hT : y_T σ b) : y_jd (y_q5 b) (nI 5) σ := by
  intro σ' vs v fr hv vl vals h5
  have hT' := hT.fc fr
  refine ⟨?_, by unfold y_q5; (repeat' split) <;> omega⟩
  unfold f_X7_judge
  rw [if_neg (show ¬ nI 5 = (0 : Int32) by decide), if_neg (show ¬ nI 5 = (1 : Int32) by decide), if_neg (show ¬ nI 5 = (2 : Int32) by decide), if_neg (show ¬ nI 5 = (3 : Int32) by decide), if_neg (show ¬ nI 5 = (4 : Int32) by decide), if_pos (show nI 5 = (5 : Int32) from rfl), yj_open hW hT' hv vl]
  unfold y_q5
  by_cases c : y_qo b v = 0
  · rw [if_pos c]
    by_cases d : vs.length = 0
    · rw [d, if_neg (show ¬ ¬ nI 0 = (0 : Int32) from fun z => z rfl), if_pos ⟨c, Or.inl rfl⟩]; rfl
    · obtain ⟨v0, v1⟩ := vals 0 (by omega)
      rw [if_pos (show ¬ nI vs.length = (0 : Int32) by rw [show (0 : Int32) = nI 0 from rfl, y_eq (by omega) (by omega)]; exact d), show (0 : Int32) = nI 0 from rfl, y_ix (by omega) (by omega), nI_clamp (by omega), hv, v0]
      by_cases e : v = vs.getD 0 0
      · rw [if_neg (fun z => z (by rw [e])), if_neg (fun z => z.2.elim d (fun w => w e))]; rfl
      · rw [if_pos (show ¬ nI v = nI (vs.getD 0 0) by rw [y_eq (by omega) (by omega)]; exact e), if_pos ⟨c, Or.inr e⟩]
  · rw [if_neg c, if_neg (fun z => c z.1)]
theorem y_jd6 (hW : y_W b) (hT : y_T σ b) : y_jd (y_q6 b) (nI 6) σ := by
  intro σ' vs v fr hv vl vals h5
  have hT' := hT.fc fr
  have ho := hW.ho
  refine ⟨?_, by unfold y_q6; (repeat' split) <;> exact y_jr_le⟩
  unfold f_X7_judge
  rw [if_neg (show ¬ nI 6 = (0 : Int32) by decide), if_neg (show ¬ nI 6 = (1 : Int32) by decide), if_neg (show ¬ nI 6 = (2 : Int32) by decide), if_neg (show ¬ nI 6 = (3 : Int32) by decide), if_neg (show ¬ nI 6 = (4 : Int32) by decide), if_neg (show ¬ nI 6 = (5 : Int32) by decide), if_pos (show nI 6 = (6 : Int32) from rfl), hv]
  have key : ∀ lo hi (P : Prop) [Decidable P], (P ↔ lo ≤ v ∧ v < hi) → (if ¬ (if P then (1 : Int32) else 0) = 0 then some (0 : Int32) else some 2) = some (nI (y_jr lo hi v)) := by
    intro lo hi P _ h
    unfold y_jr
    by_cases c : P
    · rw [if_pos c, if_pos (h.mp c), if_pos (by decide)]; rfl
    · rw [if_neg c, if_neg (fun z => c (h.mpr z)), if_neg (fun z => z rfl)]; rfl
  unfold f_X2_isTrait y_q6
  by_cases c0 : vs.length = 0
  · rw [c0, if_pos (show nI 0 = (0 : Int32) from rfl), if_pos rfl]
    refine key 1 10 _ ?_
    rw [show (1 : Int32) = nI 1 from rfl, show (9 : Int32) = nI 9 from rfl, y_lt (by omega) (by omega), y_lt (by omega) (by omega)]; omega
  · rw [if_neg (show ¬ nI vs.length = (0 : Int32) by rw [show (0 : Int32) = nI 0 from rfl, y_eq (by omega) (by omega)]; exact c0), if_neg c0]
    by_cases c1 : vs.length = 1
    · rw [c1, if_pos (show nI 1 = (1 : Int32) from rfl), if_pos rfl]
      refine key 0 21 _ ?_
      rw [show (0 : Int32) = nI 0 from rfl, show (20 : Int32) = nI 20 from rfl, y_lt (by omega) (by omega), y_lt (by omega) (by omega)]; omega
    · rw [if_neg (show ¬ nI vs.length = (1 : Int32) by rw [show (1 : Int32) = nI 1 from rfl, y_eq (by omega) (by omega)]; exact c1), if_neg c1]
      by_cases c2 : vs.length = 2
      · rw [c2, if_pos (show nI 2 = (2 : Int32) from rfl), if_pos rfl]
        refine key 0 100 _ ?_
        rw [show (0 : Int32) = nI 0 from rfl, show (99 : Int32) = nI 99 from rfl, y_lt (by omega) (by omega), y_lt (by omega) (by omega)]; omega
      · rw [if_neg (show ¬ nI vs.length = (2 : Int32) by rw [show (2 : Int32) = nI 2 from rfl, y_eq (by omega) (by omega)]; exact c2), if_neg c2]
        by_cases c3 : vs.length = 3
        · rw [c3, if_pos (show nI 3 = (3 : Int32) from rfl), if_pos rfl]
          refine key 0 10 _ ?_
          rw [show (0 : Int32) = nI 0 from rfl, show (9 : Int32) = nI 9 from rfl, y_lt (by omega) (by omega), y_lt (by omega) (by omega)]; omega
        · have c4 : vs.length = 4 := by omega
          rw [if_neg (show ¬ nI vs.length = (3 : Int32) by rw [show (3 : Int32) = nI 3 from rfl, y_eq (by omega) (by omega)]; exact c3), if_neg c3, c4, if_pos (show nI 4 = (4 : Int32) from rfl), show f_X2_isHole 11 (nI v) σ' = f_X2_isHole 1 (nI v) (y_mv σ') from rfl, yc_isHole hT'.mv hW]
          refine key 0 (y_ho b) _ ?_
          rw [y_rn (by omega)]; omega
theorem y_jd7 : y_jd y_q7 (nI 7) σ := by
  intro σ' vs v fr hv vl vals h5
  refine ⟨?_, by unfold y_q7; (repeat' split) <;> exact y_jr_le⟩
  unfold f_X7_judge
  rw [if_neg (show ¬ nI 7 = (0 : Int32) by decide), if_neg (show ¬ nI 7 = (1 : Int32) by decide), if_neg (show ¬ nI 7 = (2 : Int32) by decide), if_neg (show ¬ nI 7 = (3 : Int32) by decide), if_neg (show ¬ nI 7 = (4 : Int32) by decide), if_neg (show ¬ nI 7 = (5 : Int32) by decide), if_neg (show ¬ nI 7 = (6 : Int32) by decide)]
  unfold y_q7
  by_cases c0 : vs.length = 0
  · rw [c0, if_pos (show nI 0 = (0 : Int32) from rfl), if_pos rfl, show (1 : Int32) = nI 1 from rfl, show (99 : Int32) = nI 99 from rfl, yj_w hv vl (by omega) (by omega)]
  · rw [if_neg (show ¬ nI vs.length = (0 : Int32) by rw [show (0 : Int32) = nI 0 from rfl, y_eq (by omega) (by omega)]; exact c0), if_neg c0, show (1 : Int32) = nI 1 from rfl, show (500 : Int32) = nI 500 from rfl, yj_w hv vl (by omega) (by omega)]
theorem y_jdk (hW : y_W b) (hT : y_T σ b) : ∀ k, k < 8 → y_jd (y_qk b k) (nI k) σ
  | 0, _ => y_jd0
  | 1, _ => y_jd1 hW hT
  | 2, _ => y_jd2 hW hT
  | 3, _ => y_jd3 hW hT
  | 4, _ => y_jd4 hW hT
  | 5, _ => y_jd5 hW hT
  | 6, _ => y_jd6 hW hT
  | 7, _ => y_jd7
  | _ + 8, h => absurd h (by omega)
end K
