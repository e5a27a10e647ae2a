/-! ===== the words of the tables ===== -/
theorem x_tb {ts : List Cond} (h : ∀ w ∈ ts, w ∈ lw_tbl) {i : Nat} {w : Cond} (e : ts[i]? = some w) : w ∈ lw_tbl := h w (List.mem_of_getElem? e)
theorem x_tbl {w : Cond} (h : w ∈ tables_1) : w ∈ lw_tbl := List.mem_append_right _ h
theorem x_t0 {i : Nat} {w : Cond} (e : (k2_sels lw_privs)[i]? = some w) : w ∈ lw_tbl := List.mem_append_left _ (List.mem_of_getElem? e)
theorem x_t1 {i : Nat} {w : Cond} (e : tables_1_1[i]? = some w) : w ∈ lw_tbl := x_tbl (List.mem_append_left _ (List.mem_of_getElem? e))
theorem x_t2 {i : Nat} {w : Cond} (e : tables_1_2[i]? = some w) : w ∈ lw_tbl := x_tbl (List.mem_append_right _ (List.mem_append_left _ (List.mem_of_getElem? e)))
theorem x_t3 {i : Nat} {w : Cond} (e : tables_1_3[i]? = some w) : w ∈ lw_tbl := x_tbl (List.mem_append_right _ (List.mem_append_right _ (List.mem_append_left _ (List.mem_of_getElem? e))))
theorem x_t4 {i : Nat} {w : Cond} (e : tables_1_4[i]? = some w) : w ∈ lw_tbl := x_tbl (List.mem_append_right _ (List.mem_append_right _ (List.mem_append_right _ (List.mem_append_left _ (List.mem_of_getElem? e)))))
theorem x_t5 {i : Nat} {w : Cond} (e : tables_1_5[i]? = some w) : w ∈ lw_tbl := x_tbl (List.mem_append_right _ (List.mem_append_right _ (List.mem_append_right _ (List.mem_append_right _ (List.mem_append_left _ (List.mem_of_getElem? e))))))
theorem x_t6 {i : Nat} {w : Cond} (e : tables_1_6[i]? = some w) : w ∈ lw_tbl := x_tbl (List.mem_append_right _ (List.mem_append_right _ (List.mem_append_right _ (List.mem_append_right _ (List.mem_append_right _ (List.mem_append_left _ (List.mem_of_getElem? e)))))))
theorem x_t7 {i : Nat} {w : Cond} (e : tables_1_7[i]? = some w) : w ∈ lw_tbl := x_tbl (List.mem_append_right _ (List.mem_append_right _ (List.mem_append_right _ (List.mem_append_right _ (List.mem_append_right _ (List.mem_append_right _ (List.mem_append_left _ (List.mem_of_getElem? e))))))))
theorem x_t8 {i : Nat} {w : Cond} (e : tables_1_8[i]? = some w) : w ∈ lw_tbl := x_tbl (List.mem_append_right _ (List.mem_append_right _ (List.mem_append_right _ (List.mem_append_right _ (List.mem_append_right _ (List.mem_append_right _ (List.mem_append_right _ (List.mem_append_left _ (List.mem_of_getElem? e)))))))))
theorem x_t9 {i : Nat} {w : Cond} (e : tables_1_9[i]? = some w) : w ∈ lw_tbl := x_tbl (List.mem_append_right _ (List.mem_append_right _ (List.mem_append_right _ (List.mem_append_right _ (List.mem_append_right _ (List.mem_append_right _ (List.mem_append_right _ (List.mem_append_right _ (List.mem_of_getElem? e)))))))))
theorem x_oi1 : Cond.instanceMethod Lib.objectInit ∈ x_bw := (x_bw_in (x_t1 (i := 27) rfl) rfl)
theorem x_oi2 : Cond.code Lib.objectInit ⟨#[0xb1]⟩ 1 none ∈ x_bw := (x_bw_in (x_t1 (i := 28) (by decide +kernel)) rfl)
theorem x_mmax : Cond.static Lib.Math.max.name ∈ x_bw ∧ Cond.initialized "java/lang/Math" ∈ x_bw ∧ Cond.code Lib.Math.max.name Lib.Math.max.code 2 (some .int) ∈ x_bw := ⟨(x_bw_in (x_t4 (i := 72) rfl) rfl), (x_bw_in (x_t1 (i := 14) rfl) rfl), (x_bw_in (x_t4 (i := 73) (by decide +kernel)) rfl)⟩
theorem x_mmin : Cond.static Lib.Math.min.name ∈ x_bw ∧ Cond.initialized "java/lang/Math" ∈ x_bw ∧ Cond.code Lib.Math.min.name Lib.Math.min.code 2 (some .int) ∈ x_bw := ⟨(x_bw_in (x_t2 (i := 217) rfl) rfl), (x_bw_in (x_t1 (i := 14) rfl) rfl), (x_bw_in (x_t2 (i := 218) (by decide +kernel)) rfl)⟩
theorem x_mabs : Cond.static Lib.Math.abs.name ∈ x_bw ∧ Cond.initialized "java/lang/Math" ∈ x_bw ∧ Cond.code Lib.Math.abs.name Lib.Math.abs.code 1 (some .int) ∈ x_bw := ⟨(x_bw_in (x_t4 (i := 13) rfl) rfl), (x_bw_in (x_t1 (i := 14) rfl) rfl), (x_bw_in (x_t4 (i := 14) (by decide +kernel)) rfl)⟩
theorem x_ac : Cond.native arraycopyName ∈ x_bw ∧ Cond.static arraycopyName ∈ x_bw ∧ Cond.initialized "java/lang/System" ∈ x_bw := ⟨(x_bw_in (x_t3 (i := 140) rfl) rfl), (x_bw_in (x_t3 (i := 139) rfl) rfl), (x_bw_in (x_t1 (i := 19) rfl) rfl)⟩
theorem x_ao_in : ∀ C ∈ x_ao, Cond.arrayOver (.object C) ∈ lw_tbl := (List.forall_mem_cons.mpr ⟨x_t1 (i := 138) rfl, (List.forall_mem_cons.mpr ⟨x_t2 (i := 113) rfl, (fun _ h => absurd h List.not_mem_nil)⟩)⟩)
theorem x_al {α : Type} {P : α → Prop} {a : α} {l : List α} (h : P a) (t : ∀ r ∈ l, P r) : ∀ r ∈ a :: l, P r := List.forall_mem_cons.mpr ⟨h, t⟩
theorem x_an {α : Type} {P : α → Prop} : ∀ r ∈ ([] : List α), P r := fun _ h => absurd h List.not_mem_nil
theorem x_JW_ok : x_JW := (x_al (x_bw_in (x_t3 (i := 9) (by decide +kernel)) rfl) (x_al (x_bw_in (x_t3 (i := 7) rfl) rfl) (x_al (x_bw_in (x_t3 (i := 8) rfl) rfl) (x_al (x_bw_in (x_t3 (i := 6) rfl) rfl) (x_al (x_bw_in (x_t3 (i := 19) (by decide +kernel)) rfl) (x_al (x_bw_in (x_t3 (i := 17) rfl) rfl) (x_al (x_bw_in (x_t3 (i := 18) rfl) rfl) (x_al (x_bw_in (x_t3 (i := 16) rfl) rfl) (x_al (x_bw_in (x_t3 (i := 5) (by decide +kernel)) rfl) (x_al (x_bw_in (x_t3 (i := 3) rfl) rfl) (x_al (x_bw_in (x_t3 (i := 4) rfl) rfl) (x_al (x_bw_in (x_t3 (i := 15) (by decide +kernel)) rfl) (x_al (x_bw_in (x_t3 (i := 13) rfl) rfl) (x_al (x_bw_in (x_t3 (i := 14) rfl) rfl) (x_al (x_bw_in (x_t3 (i := 25) (by decide +kernel)) rfl) (x_al (x_bw_in (x_t3 (i := 24) rfl) rfl) (x_al (x_bw_in (x_t3 (i := 23) rfl) rfl) (x_al (x_bw_in (x_t3 (i := 22) (by decide +kernel)) rfl) (x_al (x_bw_in (x_t3 (i := 21) rfl) rfl) (x_al (x_bw_in (x_t3 (i := 20) rfl) rfl) (x_al (x_bw_in (x_t3 (i := 30) (by decide +kernel)) rfl) (x_al (x_bw_in (x_t3 (i := 29) rfl) rfl) (x_al (x_bw_in (x_t3 (i := 28) rfl) rfl) (x_al (x_bw_in (x_t1 (i := 15) rfl) rfl) (x_al (x_bw_in (x_t1 (i := 16) rfl) rfl) (x_al (x_bw_in (x_t1 (i := 17) rfl) rfl) (x_al (x_bw_in (x_t9 (i := 179) rfl) rfl) (x_al (x_bw_in (x_t9 (i := 180) rfl) rfl) (x_al (x_bw_in (x_t3 (i := 10) rfl) rfl) (x_al (x_bw_in (x_t3 (i := 26) rfl) rfl) x_an))))))))))))))))))))))))))))))
theorem x_lit_in : ∀ q ∈ x_lit, Cond.stringRef q.1 q.2.1 q.2.2 ∈ lw_tbl := (x_al (x_t2 (i := 230) rfl) (x_al (x_t2 (i := 231) rfl) (x_al (x_t2 (i := 232) rfl) (x_al (x_t2 (i := 233) rfl) (x_al (x_t2 (i := 234) rfl) (x_al (x_t2 (i := 235) rfl) (x_al (x_t2 (i := 236) rfl) (x_al (x_t2 (i := 237) rfl) (x_al (x_t7 (i := 34) rfl) (x_al (x_t7 (i := 53) rfl) (x_al (x_t7 (i := 62) rfl) (x_al (x_t7 (i := 63) rfl) (x_al (x_t7 (i := 64) rfl) (x_al (x_t7 (i := 69) rfl) (x_al (x_t7 (i := 70) rfl) (x_al (x_t7 (i := 71) rfl) (x_al (x_t7 (i := 72) rfl) (x_al (x_t7 (i := 73) rfl) (x_al (x_t7 (i := 74) rfl) (x_al (x_t7 (i := 75) rfl) (x_al (x_t7 (i := 80) rfl) (x_al (x_t7 (i := 113) rfl) (x_al (x_t7 (i := 114) rfl) (x_al (x_t7 (i := 115) rfl) (x_al (x_t7 (i := 116) rfl) (x_al (x_t7 (i := 117) rfl) (x_al (x_t7 (i := 118) rfl) x_an)))))))))))))))))))))))))))
theorem x_ly1 : Cond.laysStatic "java/lang/String" "COMPACT_STRINGS" "Z" ∈ lw_tbl := x_t3 (i := 11) rfl
theorem x_ly2 : Cond.initialized "java/lang/String" ∈ lw_tbl := x_t1 (i := 15) rfl
theorem x_ly3 : Cond.laysStatic "jdk/internal/util/Preconditions" "SIOOBE_FORMATTER" "Ljava/util/function/BiFunction;" ∈ lw_tbl := x_t3 (i := 27) rfl
theorem x_ly4 : Cond.initialized "jdk/internal/util/Preconditions" ∈ lw_tbl := x_t1 (i := 17) rfl
theorem x_ll : x_lit.length = x_sbyt.length := rfl
set_option maxRecDepth 20000 in
theorem x_C0 : (∀ w ∈ u_ws RX0 TX0 1, w ∈ x_bw) ∧ Cond.instantiable RX0 1 ∈ x_bw ∧ Cond.initialized RX0 ∈ x_bw := by
  refine ⟨fun w hw => ?_, (x_bw_in (x_t2 (i := 67) rfl) rfl), (x_bw_in (x_t1 (i := 9) rfl) rfl)⟩
  obtain ⟨k, hk, rfl⟩ := List.mem_map.mp hw
  have hk := List.mem_range.mp hk
  match k, hk with
  | 0, _ => exact (x_bw_in (x_t2 (i := 73) rfl) rfl)
  | k + 1, h => exact absurd h (by omega)
set_option maxRecDepth 20000 in
theorem x_C1 : (∀ w ∈ u_ws RX1 TX1 4, w ∈ x_bw) ∧ Cond.instantiable RX1 4 ∈ x_bw ∧ Cond.initialized RX1 ∈ x_bw := by
  refine ⟨fun w hw => ?_, (x_bw_in (x_t2 (i := 91) rfl) rfl), (x_bw_in (x_t1 (i := 11) rfl) rfl)⟩
  obtain ⟨k, hk, rfl⟩ := List.mem_map.mp hw
  have hk := List.mem_range.mp hk
  match k, hk with
  | 0, _ => exact (x_bw_in (x_t2 (i := 103) rfl) rfl)
  | 1, _ => exact (x_bw_in (x_t2 (i := 105) rfl) rfl)
  | 2, _ => exact (x_bw_in (x_t2 (i := 107) rfl) rfl)
  | 3, _ => exact (x_bw_in (x_t2 (i := 109) rfl) rfl)
  | k + 4, h => exact absurd h (by omega)
set_option maxRecDepth 20000 in
theorem x_C2 : (∀ w ∈ u_ws RX2 TX2 15, w ∈ x_bw) ∧ Cond.instantiable RX2 15 ∈ x_bw ∧ Cond.initialized RX2 ∈ x_bw := by
  refine ⟨fun w hw => ?_, (x_bw_in (x_t1 (i := 30) rfl) rfl), (x_bw_in (x_t1 (i := 2) rfl) rfl)⟩
  obtain ⟨k, hk, rfl⟩ := List.mem_map.mp hw
  have hk := List.mem_range.mp hk
  match k, hk with
  | 0, _ => exact (x_bw_in (x_t1 (i := 107) rfl) rfl)
  | 1, _ => exact (x_bw_in (x_t1 (i := 109) rfl) rfl)
  | 2, _ => exact (x_bw_in (x_t1 (i := 111) rfl) rfl)
  | 3, _ => exact (x_bw_in (x_t1 (i := 113) rfl) rfl)
  | 4, _ => exact (x_bw_in (x_t1 (i := 115) rfl) rfl)
  | 5, _ => exact (x_bw_in (x_t1 (i := 117) rfl) rfl)
  | 6, _ => exact (x_bw_in (x_t1 (i := 119) rfl) rfl)
  | 7, _ => exact (x_bw_in (x_t1 (i := 121) rfl) rfl)
  | 8, _ => exact (x_bw_in (x_t1 (i := 123) rfl) rfl)
  | 9, _ => exact (x_bw_in (x_t1 (i := 125) rfl) rfl)
  | 10, _ => exact (x_bw_in (x_t1 (i := 127) rfl) rfl)
  | 11, _ => exact (x_bw_in (x_t1 (i := 129) rfl) rfl)
  | 12, _ => exact (x_bw_in (x_t1 (i := 131) rfl) rfl)
  | 13, _ => exact (x_bw_in (x_t1 (i := 133) rfl) rfl)
  | 14, _ => exact (x_bw_in (x_t1 (i := 135) rfl) rfl)
  | k + 15, h => exact absurd h (by omega)
set_option maxRecDepth 20000 in
theorem x_C3 : (∀ w ∈ u_ws RX3 TX3 5, w ∈ x_bw) ∧ Cond.instantiable RX3 5 ∈ x_bw ∧ Cond.initialized RX3 ∈ x_bw := by
  refine ⟨fun w hw => ?_, (x_bw_in (x_t1 (i := 36) rfl) rfl), (x_bw_in (x_t1 (i := 3) rfl) rfl)⟩
  obtain ⟨k, hk, rfl⟩ := List.mem_map.mp hw
  have hk := List.mem_range.mp hk
  match k, hk with
  | 0, _ => exact (x_bw_in (x_t1 (i := 57) rfl) rfl)
  | 1, _ => exact (x_bw_in (x_t1 (i := 59) rfl) rfl)
  | 2, _ => exact (x_bw_in (x_t1 (i := 61) rfl) rfl)
  | 3, _ => exact (x_bw_in (x_t1 (i := 63) rfl) rfl)
  | 4, _ => exact (x_bw_in (x_t1 (i := 65) rfl) rfl)
  | k + 5, h => exact absurd h (by omega)
set_option maxRecDepth 20000 in
theorem x_C4 : (∀ w ∈ u_ws RX4 TX4 7, w ∈ x_bw) ∧ Cond.instantiable RX4 7 ∈ x_bw ∧ Cond.initialized RX4 ∈ x_bw := by
  refine ⟨fun w hw => ?_, (x_bw_in (x_t1 (i := 196) rfl) rfl), (x_bw_in (x_t1 (i := 6) rfl) rfl)⟩
  obtain ⟨k, hk, rfl⟩ := List.mem_map.mp hw
  have hk := List.mem_range.mp hk
  match k, hk with
  | 0, _ => exact (x_bw_in (x_t1 (i := 226) rfl) rfl)
  | 1, _ => exact (x_bw_in (x_t1 (i := 228) rfl) rfl)
  | 2, _ => exact (x_bw_in (x_t1 (i := 230) rfl) rfl)
  | 3, _ => exact (x_bw_in (x_t1 (i := 232) rfl) rfl)
  | 4, _ => exact (x_bw_in (x_t1 (i := 234) rfl) rfl)
  | 5, _ => exact (x_bw_in (x_t1 (i := 236) rfl) rfl)
  | 6, _ => exact (x_bw_in (x_t1 (i := 238) rfl) rfl)
  | k + 7, h => exact absurd h (by omega)
set_option maxRecDepth 20000 in
theorem x_C5 : (∀ w ∈ u_ws RX5 TX5 2, w ∈ x_bw) ∧ Cond.instantiable RX5 2 ∈ x_bw ∧ Cond.initialized RX5 ∈ x_bw := by
  refine ⟨fun w hw => ?_, (x_bw_in (x_t2 (i := 77) rfl) rfl), (x_bw_in (x_t1 (i := 10) rfl) rfl)⟩
  obtain ⟨k, hk, rfl⟩ := List.mem_map.mp hw
  have hk := List.mem_range.mp hk
  match k, hk with
  | 0, _ => exact (x_bw_in (x_t2 (i := 84) rfl) rfl)
  | 1, _ => exact (x_bw_in (x_t2 (i := 86) rfl) rfl)
  | k + 2, h => exact absurd h (by omega)
set_option maxRecDepth 20000 in
theorem x_C6 : (∀ w ∈ u_ws RX6 TX6 5, w ∈ x_bw) ∧ Cond.instantiable RX6 5 ∈ x_bw ∧ Cond.initialized RX6 ∈ x_bw := by
  refine ⟨fun w hw => ?_, (x_bw_in (x_t2 (i := 2) rfl) rfl), (x_bw_in (x_t1 (i := 7) rfl) rfl)⟩
  obtain ⟨k, hk, rfl⟩ := List.mem_map.mp hw
  have hk := List.mem_range.mp hk
  match k, hk with
  | 0, _ => exact (x_bw_in (x_t2 (i := 17) rfl) rfl)
  | 1, _ => exact (x_bw_in (x_t2 (i := 19) rfl) rfl)
  | 2, _ => exact (x_bw_in (x_t2 (i := 21) rfl) rfl)
  | 3, _ => exact (x_bw_in (x_t2 (i := 23) rfl) rfl)
  | 4, _ => exact (x_bw_in (x_t2 (i := 25) rfl) rfl)
  | k + 5, h => exact absurd h (by omega)
set_option maxRecDepth 20000 in
theorem x_C7 : (∀ w ∈ u_ws RX7 TX7 9, w ∈ x_bw) ∧ Cond.instantiable RX7 9 ∈ x_bw ∧ Cond.initialized RX7 ∈ x_bw := by
  refine ⟨fun w hw => ?_, (x_bw_in (x_t1 (i := 140) rfl) rfl), (x_bw_in (x_t1 (i := 4) rfl) rfl)⟩
  obtain ⟨k, hk, rfl⟩ := List.mem_map.mp hw
  have hk := List.mem_range.mp hk
  match k, hk with
  | 0, _ => exact (x_bw_in (x_t1 (i := 176) rfl) rfl)
  | 1, _ => exact (x_bw_in (x_t1 (i := 178) rfl) rfl)
  | 2, _ => exact (x_bw_in (x_t1 (i := 180) rfl) rfl)
  | 3, _ => exact (x_bw_in (x_t1 (i := 182) rfl) rfl)
  | 4, _ => exact (x_bw_in (x_t1 (i := 184) rfl) rfl)
  | 5, _ => exact (x_bw_in (x_t1 (i := 186) rfl) rfl)
  | 6, _ => exact (x_bw_in (x_t1 (i := 188) rfl) rfl)
  | 7, _ => exact (x_bw_in (x_t1 (i := 190) rfl) rfl)
  | 8, _ => exact (x_bw_in (x_t1 (i := 192) rfl) rfl)
  | k + 9, h => exact absurd h (by omega)
set_option maxRecDepth 20000 in
theorem x_C8 : (∀ w ∈ u_ws RX8 TX8 3, w ∈ x_bw) ∧ Cond.instantiable RX8 3 ∈ x_bw ∧ Cond.initialized RX8 ∈ x_bw := by
  refine ⟨fun w hw => ?_, (x_bw_in (x_t2 (i := 114) rfl) rfl), (x_bw_in (x_t1 (i := 12) rfl) rfl)⟩
  obtain ⟨k, hk, rfl⟩ := List.mem_map.mp hw
  have hk := List.mem_range.mp hk
  match k, hk with
  | 0, _ => exact (x_bw_in (x_t2 (i := 129) rfl) rfl)
  | 1, _ => exact (x_bw_in (x_t2 (i := 131) rfl) rfl)
  | 2, _ => exact (x_bw_in (x_t2 (i := 133) rfl) rfl)
  | k + 3, h => exact absurd h (by omega)
set_option maxRecDepth 20000 in
theorem x_C9 : (∀ w ∈ u_ws RX9 TX9 9, w ∈ x_bw) ∧ Cond.instantiable RX9 9 ∈ x_bw ∧ Cond.initialized RX9 ∈ x_bw := by
  refine ⟨fun w hw => ?_, (x_bw_in (x_t2 (i := 29) rfl) rfl), (x_bw_in (x_t1 (i := 8) rfl) rfl)⟩
  obtain ⟨k, hk, rfl⟩ := List.mem_map.mp hw
  have hk := List.mem_range.mp hk
  match k, hk with
  | 0, _ => exact (x_bw_in (x_t2 (i := 47) rfl) rfl)
  | 1, _ => exact (x_bw_in (x_t2 (i := 49) rfl) rfl)
  | 2, _ => exact (x_bw_in (x_t2 (i := 51) rfl) rfl)
  | 3, _ => exact (x_bw_in (x_t2 (i := 53) rfl) rfl)
  | 4, _ => exact (x_bw_in (x_t2 (i := 55) rfl) rfl)
  | 5, _ => exact (x_bw_in (x_t2 (i := 57) rfl) rfl)
  | 6, _ => exact (x_bw_in (x_t2 (i := 59) rfl) rfl)
  | 7, _ => exact (x_bw_in (x_t2 (i := 61) rfl) rfl)
  | 8, _ => exact (x_bw_in (x_t2 (i := 63) rfl) rfl)
  | k + 9, h => exact absurd h (by omega)
set_option maxRecDepth 20000 in
theorem x_C10 : (∀ w ∈ u_ws RX10 TX10 2, w ∈ x_bw) ∧ Cond.instantiable RX10 2 ∈ x_bw ∧ Cond.initialized RX10 ∈ x_bw := by
  refine ⟨fun w hw => ?_, (x_bw_in (x_t1 (i := 148) rfl) rfl), (x_bw_in (x_t1 (i := 5) rfl) rfl)⟩
  obtain ⟨k, hk, rfl⟩ := List.mem_map.mp hw
  have hk := List.mem_range.mp hk
  match k, hk with
  | 0, _ => exact (x_bw_in (x_t1 (i := 157) rfl) rfl)
  | 1, _ => exact (x_bw_in (x_t1 (i := 159) rfl) rfl)
  | k + 2, h => exact absurd h (by omega)
set_option maxRecDepth 20000 in
theorem x_C11 : (∀ w ∈ u_ws RX11 TX11 11, w ∈ x_bw) ∧ Cond.instantiable RX11 11 ∈ x_bw ∧ Cond.initialized RX11 ∈ x_bw := by
  refine ⟨fun w hw => ?_, (x_bw_in (x_t1 (i := 22) rfl) rfl), (x_bw_in (x_t1 (i := 1) rfl) rfl)⟩
  obtain ⟨k, hk, rfl⟩ := List.mem_map.mp hw
  have hk := List.mem_range.mp hk
  match k, hk with
  | 0, _ => exact (x_bw_in (x_t2 (i := 147) rfl) rfl)
  | 1, _ => exact (x_bw_in (x_t2 (i := 149) rfl) rfl)
  | 2, _ => exact (x_bw_in (x_t2 (i := 151) rfl) rfl)
  | 3, _ => exact (x_bw_in (x_t2 (i := 153) rfl) rfl)
  | 4, _ => exact (x_bw_in (x_t2 (i := 155) rfl) rfl)
  | 5, _ => exact (x_bw_in (x_t2 (i := 157) rfl) rfl)
  | 6, _ => exact (x_bw_in (x_t2 (i := 159) rfl) rfl)
  | 7, _ => exact (x_bw_in (x_t2 (i := 161) rfl) rfl)
  | 8, _ => exact (x_bw_in (x_t2 (i := 163) rfl) rfl)
  | 9, _ => exact (x_bw_in (x_t2 (i := 165) rfl) rfl)
  | 10, _ => exact (x_bw_in (x_t2 (i := 167) rfl) rfl)
  | k + 11, h => exact absurd h (by omega)
set_option maxRecDepth 20000 in
theorem x_C12 : (∀ w ∈ u_ws RX12 TX12 47, w ∈ x_bw) ∧ Cond.instantiable RX12 47 ∈ x_bw ∧ Cond.initialized RX12 ∈ x_bw := by
  refine ⟨fun w hw => ?_, (x_bw_in (x_t6 (i := 73) rfl) rfl), (x_bw_in (x_t1 (i := 13) rfl) rfl)⟩
  obtain ⟨k, hk, rfl⟩ := List.mem_map.mp hw
  have hk := List.mem_range.mp hk
  match k, hk with
  | 0, _ => exact (x_bw_in (x_t6 (i := 124) rfl) rfl)
  | 1, _ => exact (x_bw_in (x_t6 (i := 126) rfl) rfl)
  | 2, _ => exact (x_bw_in (x_t6 (i := 128) rfl) rfl)
  | 3, _ => exact (x_bw_in (x_t6 (i := 130) rfl) rfl)
  | 4, _ => exact (x_bw_in (x_t6 (i := 132) rfl) rfl)
  | 5, _ => exact (x_bw_in (x_t6 (i := 134) rfl) rfl)
  | 6, _ => exact (x_bw_in (x_t6 (i := 136) rfl) rfl)
  | 7, _ => exact (x_bw_in (x_t6 (i := 138) rfl) rfl)
  | 8, _ => exact (x_bw_in (x_t6 (i := 140) rfl) rfl)
  | 9, _ => exact (x_bw_in (x_t6 (i := 142) rfl) rfl)
  | 10, _ => exact (x_bw_in (x_t6 (i := 144) rfl) rfl)
  | 11, _ => exact (x_bw_in (x_t6 (i := 146) rfl) rfl)
  | 12, _ => exact (x_bw_in (x_t6 (i := 148) rfl) rfl)
  | 13, _ => exact (x_bw_in (x_t6 (i := 150) rfl) rfl)
  | 14, _ => exact (x_bw_in (x_t6 (i := 152) rfl) rfl)
  | 15, _ => exact (x_bw_in (x_t6 (i := 154) rfl) rfl)
  | 16, _ => exact (x_bw_in (x_t6 (i := 156) rfl) rfl)
  | 17, _ => exact (x_bw_in (x_t6 (i := 158) rfl) rfl)
  | 18, _ => exact (x_bw_in (x_t6 (i := 160) rfl) rfl)
  | 19, _ => exact (x_bw_in (x_t6 (i := 162) rfl) rfl)
  | 20, _ => exact (x_bw_in (x_t6 (i := 164) rfl) rfl)
  | 21, _ => exact (x_bw_in (x_t6 (i := 166) rfl) rfl)
  | 22, _ => exact (x_bw_in (x_t6 (i := 168) rfl) rfl)
  | 23, _ => exact (x_bw_in (x_t6 (i := 170) rfl) rfl)
  | 24, _ => exact (x_bw_in (x_t6 (i := 172) rfl) rfl)
  | 25, _ => exact (x_bw_in (x_t6 (i := 174) rfl) rfl)
  | 26, _ => exact (x_bw_in (x_t6 (i := 176) rfl) rfl)
  | 27, _ => exact (x_bw_in (x_t6 (i := 178) rfl) rfl)
  | 28, _ => exact (x_bw_in (x_t6 (i := 180) rfl) rfl)
  | 29, _ => exact (x_bw_in (x_t6 (i := 182) rfl) rfl)
  | 30, _ => exact (x_bw_in (x_t6 (i := 184) rfl) rfl)
  | 31, _ => exact (x_bw_in (x_t6 (i := 186) rfl) rfl)
  | 32, _ => exact (x_bw_in (x_t6 (i := 188) rfl) rfl)
  | 33, _ => exact (x_bw_in (x_t6 (i := 190) rfl) rfl)
  | 34, _ => exact (x_bw_in (x_t6 (i := 192) rfl) rfl)
  | 35, _ => exact (x_bw_in (x_t6 (i := 194) rfl) rfl)
  | 36, _ => exact (x_bw_in (x_t6 (i := 196) rfl) rfl)
  | 37, _ => exact (x_bw_in (x_t6 (i := 198) rfl) rfl)
  | 38, _ => exact (x_bw_in (x_t6 (i := 200) rfl) rfl)
  | 39, _ => exact (x_bw_in (x_t6 (i := 202) rfl) rfl)
  | 40, _ => exact (x_bw_in (x_t6 (i := 204) rfl) rfl)
  | 41, _ => exact (x_bw_in (x_t6 (i := 206) rfl) rfl)
  | 42, _ => exact (x_bw_in (x_t6 (i := 208) rfl) rfl)
  | 43, _ => exact (x_bw_in (x_t6 (i := 210) rfl) rfl)
  | 44, _ => exact (x_bw_in (x_t6 (i := 212) rfl) rfl)
  | 45, _ => exact (x_bw_in (x_t6 (i := 214) rfl) rfl)
  | 46, _ => exact (x_bw_in (x_t6 (i := 216) rfl) rfl)
  | k + 47, h => exact absurd h (by omega)
theorem x_okC_ok : x_okC := by
  intro ci C T N h
  match ci, h with
  | 0, h => cases h; exact ⟨x_C0.1, tyX0_ok, nmX0, x_C0.2.1, x_C0.2.2⟩
  | 1, h => cases h; exact ⟨x_C1.1, tyX1_ok, nmX1, x_C1.2.1, x_C1.2.2⟩
  | 2, h => cases h; exact ⟨x_C2.1, tyX2_ok, nmX2, x_C2.2.1, x_C2.2.2⟩
  | 3, h => cases h; exact ⟨x_C3.1, tyX3_ok, nmX3, x_C3.2.1, x_C3.2.2⟩
  | 4, h => cases h; exact ⟨x_C4.1, tyX4_ok, nmX4, x_C4.2.1, x_C4.2.2⟩
  | 5, h => cases h; exact ⟨x_C5.1, tyX5_ok, nmX5, x_C5.2.1, x_C5.2.2⟩
  | 6, h => cases h; exact ⟨x_C6.1, tyX6_ok, nmX6, x_C6.2.1, x_C6.2.2⟩
  | 7, h => cases h; exact ⟨x_C7.1, tyX7_ok, nmX7, x_C7.2.1, x_C7.2.2⟩
  | 8, h => cases h; exact ⟨x_C8.1, tyX8_ok, nmX8, x_C8.2.1, x_C8.2.2⟩
  | 9, h => cases h; exact ⟨x_C9.1, tyX9_ok, nmX9, x_C9.2.1, x_C9.2.2⟩
  | 10, h => cases h; exact ⟨x_C10.1, tyX10_ok, nmX10, x_C10.2.1, x_C10.2.2⟩
  | 11, h => cases h; exact ⟨x_C11.1, tyX11_ok, nmX11, x_C11.2.1, x_C11.2.2⟩
  | 12, h => cases h; exact ⟨x_C12.1, tyX12_ok, nmX12, x_C12.2.1, x_C12.2.2⟩
  | k + 13, h => exact absurd h (by simp [vwCl])
/-! ===== what the rows are linked to ===== -/
theorem x_ab {a b : Nat} (h : Nat.blt a b = true) : a < b := Nat.le_of_ble_eq_true h
theorem x_g0 {M : xM} {l : List xM} : (M :: l)[0]? = some M := rfl
theorem x_g1 {a0 : xM} {l : List xM} {k : Nat} {M : xM} (h : l[k]? = some M) : (a0 :: l)[k + 1]? = some M := h
theorem x_g4 {a0 a1 a2 a3 : xM} {l : List xM} {k : Nat} {M : xM} (h : l[k]? = some M) : (a0 :: a1 :: a2 :: a3 :: l)[k + 4]? = some M := h
theorem x_g16 {a0 a1 a2 a3 a4 a5 a6 a7 a8 a9 a10 a11 a12 a13 a14 a15 : xM} {l : List xM} {k : Nat} {M : xM} (h : l[k]? = some M) : (a0 :: a1 :: a2 :: a3 :: a4 :: a5 :: a6 :: a7 :: a8 :: a9 :: a10 :: a11 :: a12 :: a13 :: a14 :: a15 :: l)[k + 16]? = some M := h
theorem xo_RX0_3 : Cond.methodLink RX0 3 Lib.objectInit ∈ x_bw := (x_bw_in (x_t2 (i := 71) rfl) rfl)
theorem xn_int : Cond.arrayClass (newarray.typeOf .int) ∈ x_bw := (x_bw_in (x_t1 (i := 68) rfl) rfl)
theorem xf_RX0_11 : ∃ (C : String) (T : u_T) (N : Nat), (vwCl : List vw_C)[0]? = some (C, T, N) ∧ 0 < N ∧ Cond.fieldLink RX0 11 (T 0).1 (T 0).2.1 (T 0).2.2.1 ∈ x_bw := ⟨RX0, TX0, 1, rfl, x_ab rfl, (x_bw_in (x_t2 (i := 72) rfl) rfl)⟩
theorem xp_RX0_11_cX0_init : ∃ (C : String) (T : u_T) (N : Nat), (vwCl : List vw_C)[0]? = some (C, T, N) ∧ 0 < N ∧ Cond.fieldLink RX0 11 (T 0).1 (T 0).2.1 (T 0).2.2.1 ∈ x_bw ∧ ((T 0).2.2.2 = true → (yX0_init).name = "<init>" ∧ (T 0).1 = RX0) := ⟨RX0, TX0, 1, rfl, x_ab rfl, (x_bw_in (x_t2 (i := 72) rfl) rfl), fun _ => ⟨rfl, rfl⟩⟩
theorem xc_RX0_15 : Cond.constant RX0 15 (Int32.ofNat 2147483647) ∈ x_bw := (x_bw_in (x_t4 (i := 132) (by decide +kernel)) rfl)
theorem xf_RX0_16 : ∃ (C : String) (T : u_T) (N : Nat), (vwCl : List vw_C)[6]? = some (C, T, N) ∧ 4 < N ∧ Cond.fieldLink RX0 16 (T 4).1 (T 4).2.1 (T 4).2.2.1 ∈ x_bw := ⟨RX6, TX6, 5, rfl, x_ab rfl, (x_bw_in (x_t2 (i := 13) rfl) rfl)⟩
theorem xD_0 : (parseMethodDescriptor "(III)V").map (fun d => d.parameters.length) = some 3 := by decide +kernel
theorem xk_RX0_22 : x_okK RX0 22 4 3 x_mt false false := ⟨M_cX0_keep, (x_g4 x_g0), (x_bw_in (x_t4 (i := 133) rfl) rfl), rfl, (fun h => by cases h), (fun _ => by decide +kernel), xD_0⟩
theorem xf_RX0_26 : ∃ (C : String) (T : u_T) (N : Nat), (vwCl : List vw_C)[4]? = some (C, T, N) ∧ 0 < N ∧ Cond.fieldLink RX0 26 (T 0).1 (T 0).2.1 (T 0).2.2.1 ∈ x_bw := ⟨RX4, TX4, 7, rfl, x_ab rfl, (x_bw_in (x_t1 (i := 204) rfl) rfl)⟩
theorem xf_RX0_31 : ∃ (C : String) (T : u_T) (N : Nat), (vwCl : List vw_C)[4]? = some (C, T, N) ∧ 3 < N ∧ Cond.fieldLink RX0 31 (T 3).1 (T 3).2.1 (T 3).2.2.1 ∈ x_bw := ⟨RX4, TX4, 7, rfl, x_ab rfl, (x_bw_in (x_t1 (i := 216) rfl) rfl)⟩
theorem xD_1 : (parseMethodDescriptor "(LMoleBoard$Board;LMoleBoard$Game;LMoleBoard$Player;II)I").map (fun d => d.parameters.length) = some 5 := by decide +kernel
theorem xk_RX0_34 : x_okK RX0 34 2 5 x_mt false false := ⟨M_cX0_goOn, (x_g1 (x_g1 x_g0)), (x_bw_in (x_t4 (i := 137) rfl) rfl), rfl, (fun h => by cases h), (fun _ => by decide +kernel), xD_1⟩
theorem xo_RX0_38 : Cond.methodLink RX0 38 Lib.Math.max.name ∈ x_bw := (x_bw_in (x_t4 (i := 148) rfl) rfl)
theorem xf_RX0_44 : ∃ (C : String) (T : u_T) (N : Nat), (vwCl : List vw_C)[4]? = some (C, T, N) ∧ 2 < N ∧ Cond.fieldLink RX0 44 (T 2).1 (T 2).2.1 (T 2).2.2.1 ∈ x_bw := ⟨RX4, TX4, 7, rfl, x_ab rfl, (x_bw_in (x_t1 (i := 211) rfl) rfl)⟩
theorem xD_2 : (parseMethodDescriptor "()I").map (fun d => d.parameters.length) = some 0 := by decide +kernel
theorem xk_RX0_47 : x_okK RX0 47 12 0 x_mt false false := ⟨M_cX2_holes, (x_g4 (x_g4 (x_g4 x_g0))), (x_bw_in (x_t4 (i := 141) rfl) rfl), rfl, (fun h => by cases h), (fun _ => by decide +kernel), xD_2⟩
theorem xD_3 : (parseMethodDescriptor "(II)I").map (fun d => d.parameters.length) = some 2 := by decide +kernel
theorem xk_RX0_53 : x_okK RX0 53 3 2 x_mt false false := ⟨M_cX0_freeAt, (x_g1 (x_g1 (x_g1 x_g0))), (x_bw_in (x_t4 (i := 142) rfl) rfl), rfl, (fun h => by cases h), (fun _ => by decide +kernel), xD_3⟩
theorem xf_RX0_56 : ∃ (C : String) (T : u_T) (N : Nat), (vwCl : List vw_C)[4]? = some (C, T, N) ∧ 1 < N ∧ Cond.fieldLink RX0 56 (T 1).1 (T 1).2.1 (T 1).2.2.1 ∈ x_bw := ⟨RX4, TX4, 7, rfl, x_ab rfl, (x_bw_in (x_t1 (i := 207) rfl) rfl)⟩
theorem xD_4 : (parseMethodDescriptor "(LMoleBoard$Board;III)I").map (fun d => d.parameters.length) = some 4 := by decide +kernel
theorem xk_RX0_59 : x_okK RX0 59 67 4 x_mt false false := ⟨M_cX6_there, (x_g16 (x_g16 (x_g16 (x_g16 (x_g1 (x_g1 (x_g1 x_g0))))))), (x_bw_in (x_t4 (i := 146) rfl) rfl), rfl, (fun h => by cases h), (fun _ => by decide +kernel), xD_4⟩
theorem xk_RX0_63 : x_okK RX0 63 52 2 x_mt false false := ⟨M_cX4_strike, (x_g16 (x_g16 (x_g16 (x_g4 x_g0)))), (x_bw_in (x_t4 (i := 147) rfl) rfl), rfl, (fun h => by cases h), (fun _ => by decide +kernel), xD_3⟩
theorem xo_RX1_3 : Cond.methodLink RX1 3 Lib.objectInit ∈ x_bw := (x_bw_in (x_t2 (i := 95) rfl) rfl)
theorem xf_RX1_9 : ∃ (C : String) (T : u_T) (N : Nat), (vwCl : List vw_C)[1]? = some (C, T, N) ∧ 3 < N ∧ Cond.fieldLink RX1 9 (T 3).1 (T 3).2.1 (T 3).2.2.1 ∈ x_bw := ⟨RX1, TX1, 4, rfl, x_ab rfl, (x_bw_in (x_t2 (i := 102) rfl) rfl)⟩
theorem xp_RX1_9_cX1_init : ∃ (C : String) (T : u_T) (N : Nat), (vwCl : List vw_C)[1]? = some (C, T, N) ∧ 3 < N ∧ Cond.fieldLink RX1 9 (T 3).1 (T 3).2.1 (T 3).2.2.1 ∈ x_bw ∧ ((T 3).2.2.2 = true → (yX1_init).name = "<init>" ∧ (T 3).1 = RX1) := ⟨RX1, TX1, 4, rfl, x_ab rfl, (x_bw_in (x_t2 (i := 102) rfl) rfl), fun _ => ⟨rfl, rfl⟩⟩
theorem xf_RX1_15 : ∃ (C : String) (T : u_T) (N : Nat), (vwCl : List vw_C)[1]? = some (C, T, N) ∧ 0 < N ∧ Cond.fieldLink RX1 15 (T 0).1 (T 0).2.1 (T 0).2.2.1 ∈ x_bw := ⟨RX1, TX1, 4, rfl, x_ab rfl, (x_bw_in (x_t2 (i := 96) rfl) rfl)⟩
theorem xp_RX1_15 : ∀ y : MethodName, ∃ (C : String) (T : u_T) (N : Nat), (vwCl : List vw_C)[1]? = some (C, T, N) ∧ 0 < N ∧ Cond.fieldLink RX1 15 (T 0).1 (T 0).2.1 (T 0).2.2.1 ∈ x_bw ∧ ((T 0).2.2.2 = true → (y : MethodName).name = "<init>" ∧ (T 0).1 = RX1) := fun y => ⟨RX1, TX1, 4, rfl, x_ab rfl, (x_bw_in (x_t2 (i := 96) rfl) rfl), fun h => by cases h⟩
theorem xf_RX1_19 : ∃ (C : String) (T : u_T) (N : Nat), (vwCl : List vw_C)[1]? = some (C, T, N) ∧ 1 < N ∧ Cond.fieldLink RX1 19 (T 1).1 (T 1).2.1 (T 1).2.2.1 ∈ x_bw := ⟨RX1, TX1, 4, rfl, x_ab rfl, (x_bw_in (x_t2 (i := 98) rfl) rfl)⟩
theorem xp_RX1_19 : ∀ y : MethodName, ∃ (C : String) (T : u_T) (N : Nat), (vwCl : List vw_C)[1]? = some (C, T, N) ∧ 1 < N ∧ Cond.fieldLink RX1 19 (T 1).1 (T 1).2.1 (T 1).2.2.1 ∈ x_bw ∧ ((T 1).2.2.2 = true → (y : MethodName).name = "<init>" ∧ (T 1).1 = RX1) := fun y => ⟨RX1, TX1, 4, rfl, x_ab rfl, (x_bw_in (x_t2 (i := 98) rfl) rfl), fun h => by cases h⟩
theorem xf_RX1_22 : ∃ (C : String) (T : u_T) (N : Nat), (vwCl : List vw_C)[1]? = some (C, T, N) ∧ 2 < N ∧ Cond.fieldLink RX1 22 (T 2).1 (T 2).2.1 (T 2).2.2.1 ∈ x_bw := ⟨RX1, TX1, 4, rfl, x_ab rfl, (x_bw_in (x_t2 (i := 100) rfl) rfl)⟩
theorem xp_RX1_22 : ∀ y : MethodName, ∃ (C : String) (T : u_T) (N : Nat), (vwCl : List vw_C)[1]? = some (C, T, N) ∧ 2 < N ∧ Cond.fieldLink RX1 22 (T 2).1 (T 2).2.1 (T 2).2.2.1 ∈ x_bw ∧ ((T 2).2.2.2 = true → (y : MethodName).name = "<init>" ∧ (T 2).1 = RX1) := fun y => ⟨RX1, TX1, 4, rfl, x_ab rfl, (x_bw_in (x_t2 (i := 100) rfl) rfl), fun h => by cases h⟩
theorem xf_RX1_25 : ∃ (C : String) (T : u_T) (N : Nat), (vwCl : List vw_C)[4]? = some (C, T, N) ∧ 0 < N ∧ Cond.fieldLink RX1 25 (T 0).1 (T 0).2.1 (T 0).2.2.1 ∈ x_bw := ⟨RX4, TX4, 7, rfl, x_ab rfl, (x_bw_in (x_t1 (i := 203) rfl) rfl)⟩
theorem xf_RX1_30 : ∃ (C : String) (T : u_T) (N : Nat), (vwCl : List vw_C)[8]? = some (C, T, N) ∧ 0 < N ∧ Cond.fieldLink RX1 30 (T 0).1 (T 0).2.1 (T 0).2.2.1 ∈ x_bw := ⟨RX8, TX8, 3, rfl, x_ab rfl, (x_bw_in (x_t2 (i := 120) rfl) rfl)⟩
theorem xf_RX1_33 : ∃ (C : String) (T : u_T) (N : Nat), (vwCl : List vw_C)[8]? = some (C, T, N) ∧ 2 < N ∧ Cond.fieldLink RX1 33 (T 2).1 (T 2).2.1 (T 2).2.2.1 ∈ x_bw := ⟨RX8, TX8, 3, rfl, x_ab rfl, (x_bw_in (x_t2 (i := 126) rfl) rfl)⟩
theorem xD_5 : (parseMethodDescriptor "(LMoleBoard$Game;III)V").map (fun d => d.parameters.length) = some 4 := by decide +kernel
theorem xk_RX1_37 : x_okK RX1 37 7 4 x_mt false false := ⟨M_cX1_judgeOne, (x_g4 (x_g1 (x_g1 (x_g1 x_g0)))), (x_bw_in (x_t5 (i := 179) rfl) rfl), rfl, (fun h => by cases h), (fun _ => by decide +kernel), xD_5⟩
theorem xD_6 : (parseMethodDescriptor "(I)I").map (fun d => d.parameters.length) = some 1 := by decide +kernel
theorem xk_RX1_41 : x_okK RX1 41 48 1 x_mt false false := ⟨M_cX4_upIn, (x_g16 (x_g16 (x_g16 x_g0))), (x_bw_in (x_t5 (i := 183) rfl) rfl), rfl, (fun h => by cases h), (fun _ => by decide +kernel), xD_6⟩
theorem xD_7 : (parseMethodDescriptor "(I)Z").map (fun d => d.parameters.length) = some 1 := by decide +kernel
theorem xk_RX1_45 : x_okK RX1 45 41 1 x_mt false false := ⟨M_cX4_has, (x_g16 (x_g16 (x_g4 (x_g4 (x_g1 x_g0))))), (x_bw_in (x_t5 (i := 184) rfl) rfl), rfl, (fun h => by cases h), (fun _ => by decide +kernel), xD_7⟩
theorem xk_RX1_49 : x_okK RX1 49 49 1 x_mt false false := ⟨M_cX4_holesOf, (x_g16 (x_g16 (x_g16 (x_g1 x_g0)))), (x_bw_in (x_t5 (i := 185) rfl) rfl), rfl, (fun h => by cases h), (fun _ => by decide +kernel), xD_6⟩
theorem xf_RX1_52 : ∃ (C : String) (T : u_T) (N : Nat), (vwCl : List vw_C)[4]? = some (C, T, N) ∧ 3 < N ∧ Cond.fieldLink RX1 52 (T 3).1 (T 3).2.1 (T 3).2.2.1 ∈ x_bw := ⟨RX4, TX4, 7, rfl, x_ab rfl, (x_bw_in (x_t1 (i := 217) rfl) rfl)⟩
theorem xf_RX1_55 : ∃ (C : String) (T : u_T) (N : Nat), (vwCl : List vw_C)[4]? = some (C, T, N) ∧ 4 < N ∧ Cond.fieldLink RX1 55 (T 4).1 (T 4).2.1 (T 4).2.2.1 ∈ x_bw := ⟨RX4, TX4, 7, rfl, x_ab rfl, (x_bw_in (x_t1 (i := 220) rfl) rfl)⟩
theorem xo_RX2_3 : Cond.methodLink RX2 3 Lib.objectInit ∈ x_bw := (x_bw_in (x_t1 (i := 34) rfl) rfl)
theorem xf_RX2_9 : ∃ (C : String) (T : u_T) (N : Nat), (vwCl : List vw_C)[2]? = some (C, T, N) ∧ 11 < N ∧ Cond.fieldLink RX2 9 (T 11).1 (T 11).2.1 (T 11).2.2.1 ∈ x_bw := ⟨RX2, TX2, 15, rfl, x_ab rfl, (x_bw_in (x_t1 (i := 100) rfl) rfl)⟩
theorem xp_RX2_9_cX2_init : ∃ (C : String) (T : u_T) (N : Nat), (vwCl : List vw_C)[2]? = some (C, T, N) ∧ 11 < N ∧ Cond.fieldLink RX2 9 (T 11).1 (T 11).2.1 (T 11).2.2.1 ∈ x_bw ∧ ((T 11).2.2.2 = true → (yX2_init).name = "<init>" ∧ (T 11).1 = RX2) := ⟨RX2, TX2, 15, rfl, x_ab rfl, (x_bw_in (x_t1 (i := 100) rfl) rfl), fun _ => ⟨rfl, rfl⟩⟩
theorem xf_RX2_15 : ∃ (C : String) (T : u_T) (N : Nat), (vwCl : List vw_C)[2]? = some (C, T, N) ∧ 12 < N ∧ Cond.fieldLink RX2 15 (T 12).1 (T 12).2.1 (T 12).2.2.1 ∈ x_bw := ⟨RX2, TX2, 15, rfl, x_ab rfl, (x_bw_in (x_t1 (i := 101) rfl) rfl)⟩
theorem xp_RX2_15_cX2_init : ∃ (C : String) (T : u_T) (N : Nat), (vwCl : List vw_C)[2]? = some (C, T, N) ∧ 12 < N ∧ Cond.fieldLink RX2 15 (T 12).1 (T 12).2.1 (T 12).2.2.1 ∈ x_bw ∧ ((T 12).2.2.2 = true → (yX2_init).name = "<init>" ∧ (T 12).1 = RX2) := ⟨RX2, TX2, 15, rfl, x_ab rfl, (x_bw_in (x_t1 (i := 101) rfl) rfl), fun _ => ⟨rfl, rfl⟩⟩
theorem xf_RX2_18 : ∃ (C : String) (T : u_T) (N : Nat), (vwCl : List vw_C)[2]? = some (C, T, N) ∧ 13 < N ∧ Cond.fieldLink RX2 18 (T 13).1 (T 13).2.1 (T 13).2.2.1 ∈ x_bw := ⟨RX2, TX2, 15, rfl, x_ab rfl, (x_bw_in (x_t1 (i := 102) rfl) rfl)⟩
theorem xp_RX2_18_cX2_init : ∃ (C : String) (T : u_T) (N : Nat), (vwCl : List vw_C)[2]? = some (C, T, N) ∧ 13 < N ∧ Cond.fieldLink RX2 18 (T 13).1 (T 13).2.1 (T 13).2.2.1 ∈ x_bw ∧ ((T 13).2.2.2 = true → (yX2_init).name = "<init>" ∧ (T 13).1 = RX2) := ⟨RX2, TX2, 15, rfl, x_ab rfl, (x_bw_in (x_t1 (i := 102) rfl) rfl), fun _ => ⟨rfl, rfl⟩⟩
theorem xw_RX2_21 : ∃ (C : String) (T : u_T), (vwCl : List vw_C)[3]? = some (C, T, 5) ∧ Cond.classLink RX2 21 C ∈ x_bw := ⟨RX3, TX3, rfl, (x_bw_in (x_t1 (i := 35) rfl) rfl)⟩
theorem xD_8 : (parseMethodDescriptor "()V").map (fun d => d.parameters.length) = some 0 := by decide +kernel
theorem xk_RX2_23 : x_okK RX2 23 28 0 x_mt true false := ⟨M_cX3_init, (x_g16 (x_g4 (x_g4 (x_g4 x_g0)))), (x_bw_in (x_t1 (i := 37) rfl) rfl), rfl, fun _ => ⟨rfl, rfl⟩, (fun h => by cases h), xD_8⟩
theorem xf_RX2_24 : ∃ (C : String) (T : u_T) (N : Nat), (vwCl : List vw_C)[2]? = some (C, T, N) ∧ 14 < N ∧ Cond.fieldLink RX2 24 (T 14).1 (T 14).2.1 (T 14).2.2.1 ∈ x_bw := ⟨RX2, TX2, 15, rfl, x_ab rfl, (x_bw_in (x_t1 (i := 103) rfl) rfl)⟩
theorem xp_RX2_24_cX2_init : ∃ (C : String) (T : u_T) (N : Nat), (vwCl : List vw_C)[2]? = some (C, T, N) ∧ 14 < N ∧ Cond.fieldLink RX2 24 (T 14).1 (T 14).2.1 (T 14).2.2.1 ∈ x_bw ∧ ((T 14).2.2.2 = true → (yX2_init).name = "<init>" ∧ (T 14).1 = RX2) := ⟨RX2, TX2, 15, rfl, x_ab rfl, (x_bw_in (x_t1 (i := 103) rfl) rfl), fun _ => ⟨rfl, rfl⟩⟩
theorem xf_RX2_28 : ∃ (C : String) (T : u_T) (N : Nat), (vwCl : List vw_C)[2]? = some (C, T, N) ∧ 1 < N ∧ Cond.fieldLink RX2 28 (T 1).1 (T 1).2.1 (T 1).2.2.1 ∈ x_bw := ⟨RX2, TX2, 15, rfl, x_ab rfl, (x_bw_in (x_t1 (i := 70) rfl) rfl)⟩
theorem xp_RX2_28 : ∀ y : MethodName, ∃ (C : String) (T : u_T) (N : Nat), (vwCl : List vw_C)[2]? = some (C, T, N) ∧ 1 < N ∧ Cond.fieldLink RX2 28 (T 1).1 (T 1).2.1 (T 1).2.2.1 ∈ x_bw ∧ ((T 1).2.2.2 = true → (y : MethodName).name = "<init>" ∧ (T 1).1 = RX2) := fun y => ⟨RX2, TX2, 15, rfl, x_ab rfl, (x_bw_in (x_t1 (i := 70) rfl) rfl), fun h => by cases h⟩
theorem xf_RX2_32 : ∃ (C : String) (T : u_T) (N : Nat), (vwCl : List vw_C)[2]? = some (C, T, N) ∧ 2 < N ∧ Cond.fieldLink RX2 32 (T 2).1 (T 2).2.1 (T 2).2.2.1 ∈ x_bw := ⟨RX2, TX2, 15, rfl, x_ab rfl, (x_bw_in (x_t1 (i := 73) rfl) rfl)⟩
theorem xp_RX2_32 : ∀ y : MethodName, ∃ (C : String) (T : u_T) (N : Nat), (vwCl : List vw_C)[2]? = some (C, T, N) ∧ 2 < N ∧ Cond.fieldLink RX2 32 (T 2).1 (T 2).2.1 (T 2).2.2.1 ∈ x_bw ∧ ((T 2).2.2.2 = true → (y : MethodName).name = "<init>" ∧ (T 2).1 = RX2) := fun y => ⟨RX2, TX2, 15, rfl, x_ab rfl, (x_bw_in (x_t1 (i := 73) rfl) rfl), fun h => by cases h⟩
theorem xf_RX2_35 : ∃ (C : String) (T : u_T) (N : Nat), (vwCl : List vw_C)[2]? = some (C, T, N) ∧ 3 < N ∧ Cond.fieldLink RX2 35 (T 3).1 (T 3).2.1 (T 3).2.2.1 ∈ x_bw := ⟨RX2, TX2, 15, rfl, x_ab rfl, (x_bw_in (x_t1 (i := 76) rfl) rfl)⟩
theorem xp_RX2_35 : ∀ y : MethodName, ∃ (C : String) (T : u_T) (N : Nat), (vwCl : List vw_C)[2]? = some (C, T, N) ∧ 3 < N ∧ Cond.fieldLink RX2 35 (T 3).1 (T 3).2.1 (T 3).2.2.1 ∈ x_bw ∧ ((T 3).2.2.2 = true → (y : MethodName).name = "<init>" ∧ (T 3).1 = RX2) := fun y => ⟨RX2, TX2, 15, rfl, x_ab rfl, (x_bw_in (x_t1 (i := 76) rfl) rfl), fun h => by cases h⟩
theorem xf_RX2_38 : ∃ (C : String) (T : u_T) (N : Nat), (vwCl : List vw_C)[2]? = some (C, T, N) ∧ 4 < N ∧ Cond.fieldLink RX2 38 (T 4).1 (T 4).2.1 (T 4).2.2.1 ∈ x_bw := ⟨RX2, TX2, 15, rfl, x_ab rfl, (x_bw_in (x_t1 (i := 79) rfl) rfl)⟩
theorem xp_RX2_38 : ∀ y : MethodName, ∃ (C : String) (T : u_T) (N : Nat), (vwCl : List vw_C)[2]? = some (C, T, N) ∧ 4 < N ∧ Cond.fieldLink RX2 38 (T 4).1 (T 4).2.1 (T 4).2.2.1 ∈ x_bw ∧ ((T 4).2.2.2 = true → (y : MethodName).name = "<init>" ∧ (T 4).1 = RX2) := fun y => ⟨RX2, TX2, 15, rfl, x_ab rfl, (x_bw_in (x_t1 (i := 79) rfl) rfl), fun h => by cases h⟩
theorem xf_RX2_41 : ∃ (C : String) (T : u_T) (N : Nat), (vwCl : List vw_C)[2]? = some (C, T, N) ∧ 5 < N ∧ Cond.fieldLink RX2 41 (T 5).1 (T 5).2.1 (T 5).2.2.1 ∈ x_bw := ⟨RX2, TX2, 15, rfl, x_ab rfl, (x_bw_in (x_t1 (i := 82) rfl) rfl)⟩
theorem xp_RX2_41 : ∀ y : MethodName, ∃ (C : String) (T : u_T) (N : Nat), (vwCl : List vw_C)[2]? = some (C, T, N) ∧ 5 < N ∧ Cond.fieldLink RX2 41 (T 5).1 (T 5).2.1 (T 5).2.2.1 ∈ x_bw ∧ ((T 5).2.2.2 = true → (y : MethodName).name = "<init>" ∧ (T 5).1 = RX2) := fun y => ⟨RX2, TX2, 15, rfl, x_ab rfl, (x_bw_in (x_t1 (i := 82) rfl) rfl), fun h => by cases h⟩
theorem xf_RX2_44 : ∃ (C : String) (T : u_T) (N : Nat), (vwCl : List vw_C)[2]? = some (C, T, N) ∧ 6 < N ∧ Cond.fieldLink RX2 44 (T 6).1 (T 6).2.1 (T 6).2.2.1 ∈ x_bw := ⟨RX2, TX2, 15, rfl, x_ab rfl, (x_bw_in (x_t1 (i := 86) rfl) rfl)⟩
theorem xp_RX2_44 : ∀ y : MethodName, ∃ (C : String) (T : u_T) (N : Nat), (vwCl : List vw_C)[2]? = some (C, T, N) ∧ 6 < N ∧ Cond.fieldLink RX2 44 (T 6).1 (T 6).2.1 (T 6).2.2.1 ∈ x_bw ∧ ((T 6).2.2.2 = true → (y : MethodName).name = "<init>" ∧ (T 6).1 = RX2) := fun y => ⟨RX2, TX2, 15, rfl, x_ab rfl, (x_bw_in (x_t1 (i := 86) rfl) rfl), fun h => by cases h⟩
theorem xf_RX2_47 : ∃ (C : String) (T : u_T) (N : Nat), (vwCl : List vw_C)[2]? = some (C, T, N) ∧ 7 < N ∧ Cond.fieldLink RX2 47 (T 7).1 (T 7).2.1 (T 7).2.2.1 ∈ x_bw := ⟨RX2, TX2, 15, rfl, x_ab rfl, (x_bw_in (x_t1 (i := 89) rfl) rfl)⟩
theorem xp_RX2_47 : ∀ y : MethodName, ∃ (C : String) (T : u_T) (N : Nat), (vwCl : List vw_C)[2]? = some (C, T, N) ∧ 7 < N ∧ Cond.fieldLink RX2 47 (T 7).1 (T 7).2.1 (T 7).2.2.1 ∈ x_bw ∧ ((T 7).2.2.2 = true → (y : MethodName).name = "<init>" ∧ (T 7).1 = RX2) := fun y => ⟨RX2, TX2, 15, rfl, x_ab rfl, (x_bw_in (x_t1 (i := 89) rfl) rfl), fun h => by cases h⟩
theorem xf_RX2_50 : ∃ (C : String) (T : u_T) (N : Nat), (vwCl : List vw_C)[2]? = some (C, T, N) ∧ 8 < N ∧ Cond.fieldLink RX2 50 (T 8).1 (T 8).2.1 (T 8).2.2.1 ∈ x_bw := ⟨RX2, TX2, 15, rfl, x_ab rfl, (x_bw_in (x_t1 (i := 92) rfl) rfl)⟩
theorem xp_RX2_50 : ∀ y : MethodName, ∃ (C : String) (T : u_T) (N : Nat), (vwCl : List vw_C)[2]? = some (C, T, N) ∧ 8 < N ∧ Cond.fieldLink RX2 50 (T 8).1 (T 8).2.1 (T 8).2.2.1 ∈ x_bw ∧ ((T 8).2.2.2 = true → (y : MethodName).name = "<init>" ∧ (T 8).1 = RX2) := fun y => ⟨RX2, TX2, 15, rfl, x_ab rfl, (x_bw_in (x_t1 (i := 92) rfl) rfl), fun h => by cases h⟩
theorem xf_RX2_53 : ∃ (C : String) (T : u_T) (N : Nat), (vwCl : List vw_C)[2]? = some (C, T, N) ∧ 9 < N ∧ Cond.fieldLink RX2 53 (T 9).1 (T 9).2.1 (T 9).2.2.1 ∈ x_bw := ⟨RX2, TX2, 15, rfl, x_ab rfl, (x_bw_in (x_t1 (i := 95) rfl) rfl)⟩
theorem xp_RX2_53 : ∀ y : MethodName, ∃ (C : String) (T : u_T) (N : Nat), (vwCl : List vw_C)[2]? = some (C, T, N) ∧ 9 < N ∧ Cond.fieldLink RX2 53 (T 9).1 (T 9).2.1 (T 9).2.2.1 ∈ x_bw ∧ ((T 9).2.2.2 = true → (y : MethodName).name = "<init>" ∧ (T 9).1 = RX2) := fun y => ⟨RX2, TX2, 15, rfl, x_ab rfl, (x_bw_in (x_t1 (i := 95) rfl) rfl), fun h => by cases h⟩
theorem xf_RX2_56 : ∃ (C : String) (T : u_T) (N : Nat), (vwCl : List vw_C)[2]? = some (C, T, N) ∧ 10 < N ∧ Cond.fieldLink RX2 56 (T 10).1 (T 10).2.1 (T 10).2.2.1 ∈ x_bw := ⟨RX2, TX2, 15, rfl, x_ab rfl, (x_bw_in (x_t1 (i := 98) rfl) rfl)⟩
theorem xp_RX2_56 : ∀ y : MethodName, ∃ (C : String) (T : u_T) (N : Nat), (vwCl : List vw_C)[2]? = some (C, T, N) ∧ 10 < N ∧ Cond.fieldLink RX2 56 (T 10).1 (T 10).2.1 (T 10).2.2.1 ∈ x_bw ∧ ((T 10).2.2.2 = true → (y : MethodName).name = "<init>" ∧ (T 10).1 = RX2) := fun y => ⟨RX2, TX2, 15, rfl, x_ab rfl, (x_bw_in (x_t1 (i := 98) rfl) rfl), fun h => by cases h⟩
theorem xk_RX2_59 : x_okK RX2 59 29 0 x_mt false false := ⟨M_cX3_empty, (x_g16 (x_g4 (x_g4 (x_g4 (x_g1 x_g0))))), (x_bw_in (x_t2 (i := 194) rfl) rfl), rfl, (fun h => by cases h), (fun _ => by decide +kernel), xD_8⟩
theorem xo_RX2_62 : Cond.methodLink RX2 62 arraycopyName ∈ x_bw := (x_bw_in (x_t3 (i := 138) rfl) rfl)
theorem xD_9 : (parseMethodDescriptor "(LMoleBoard$Drum;)V").map (fun d => d.parameters.length) = some 1 := by decide +kernel
theorem xk_RX2_68 : x_okK RX2 68 30 1 x_mt false false := ⟨M_cX3_copy, (x_g16 (x_g4 (x_g4 (x_g4 (x_g1 (x_g1 x_g0)))))), (x_bw_in (x_t3 (i := 141) rfl) rfl), rfl, (fun h => by cases h), (fun _ => by decide +kernel), xD_9⟩
theorem xk_RX2_72 : x_okK RX2 72 12 0 x_mt false false := ⟨M_cX2_holes, (x_g4 (x_g4 (x_g4 x_g0))), (x_bw_in (x_t3 (i := 97) rfl) rfl), rfl, (fun h => by cases h), (fun _ => by decide +kernel), xD_2⟩
theorem xk_RX2_76 : x_okK RX2 76 356 1 x_mt false true := ⟨M_cJ6_bitCount_0f7a4, (x_g16 (x_g16 (x_g16 (x_g16 (x_g16 (x_g16 (x_g16 (x_g16 (x_g16 (x_g16 (x_g16 (x_g16 (x_g16 (x_g16 (x_g16 (x_g16 (x_g16 (x_g16 (x_g16 (x_g16 (x_g16 (x_g16 (x_g4 x_g0))))))))))))))))))))))), (x_bw_in (x_t4 (i := 187) rfl) rfl), rfl, (fun h => by cases h), (fun _ => by decide +kernel), xD_6⟩
theorem xo_RX2_82 : Cond.methodLink RX2 82 Lib.Math.abs.name ∈ x_bw := (x_bw_in (x_t4 (i := 12) rfl) rfl)
theorem xk_RX2_87 : x_okK RX2 87 16 1 x_mt false false := ⟨M_cX2_isShut, (x_g16 x_g0), (x_bw_in (x_t4 (i := 192) rfl) rfl), rfl, (fun h => by cases h), (fun _ => by decide +kernel), xD_7⟩
theorem xk_RX2_91 : x_okK RX2 91 18 2 x_mt false false := ⟨M_cX2_apart, (x_g16 (x_g1 (x_g1 x_g0))), (x_bw_in (x_t4 (i := 193) rfl) rfl), rfl, (fun h => by cases h), (fun _ => by decide +kernel), xD_3⟩
theorem xf_RX2_95 : ∃ (C : String) (T : u_T) (N : Nat), (vwCl : List vw_C)[3]? = some (C, T, N) ∧ 0 < N ∧ Cond.fieldLink RX2 95 (T 0).1 (T 0).2.1 (T 0).2.2.1 ∈ x_bw := ⟨RX3, TX3, 5, rfl, x_ab rfl, (x_bw_in (x_t1 (i := 45) rfl) rfl)⟩
theorem xk_RX2_98 : x_okK RX2 98 35 1 x_mt false false := ⟨M_cX3_round, (x_g16 (x_g16 (x_g1 (x_g1 (x_g1 x_g0))))), (x_bw_in (x_t5 (i := 213) rfl) rfl), rfl, (fun h => by cases h), (fun _ => by decide +kernel), xD_6⟩
theorem xk_RX2_101 : x_okK RX2 101 13 1 x_mt false false := ⟨M_cX2_isHole, (x_g4 (x_g4 (x_g4 (x_g1 x_g0)))), (x_bw_in (x_t3 (i := 113) rfl) rfl), rfl, (fun h => by cases h), (fun _ => by decide +kernel), xD_7⟩
theorem xo_RX3_3 : Cond.methodLink RX3 3 Lib.objectInit ∈ x_bw := (x_bw_in (x_t1 (i := 40) rfl) rfl)
theorem xf_RX3_9 : ∃ (C : String) (T : u_T) (N : Nat), (vwCl : List vw_C)[3]? = some (C, T, N) ∧ 2 < N ∧ Cond.fieldLink RX3 9 (T 2).1 (T 2).2.1 (T 2).2.2.1 ∈ x_bw := ⟨RX3, TX3, 5, rfl, x_ab rfl, (x_bw_in (x_t1 (i := 48) rfl) rfl)⟩
theorem xp_RX3_9_cX3_init : ∃ (C : String) (T : u_T) (N : Nat), (vwCl : List vw_C)[3]? = some (C, T, N) ∧ 2 < N ∧ Cond.fieldLink RX3 9 (T 2).1 (T 2).2.1 (T 2).2.2.1 ∈ x_bw ∧ ((T 2).2.2.2 = true → (yX3_init).name = "<init>" ∧ (T 2).1 = RX3) := ⟨RX3, TX3, 5, rfl, x_ab rfl, (x_bw_in (x_t1 (i := 48) rfl) rfl), fun _ => ⟨rfl, rfl⟩⟩
theorem xf_RX3_15 : ∃ (C : String) (T : u_T) (N : Nat), (vwCl : List vw_C)[3]? = some (C, T, N) ∧ 3 < N ∧ Cond.fieldLink RX3 15 (T 3).1 (T 3).2.1 (T 3).2.2.1 ∈ x_bw := ⟨RX3, TX3, 5, rfl, x_ab rfl, (x_bw_in (x_t1 (i := 51) rfl) rfl)⟩
theorem xp_RX3_15_cX3_init : ∃ (C : String) (T : u_T) (N : Nat), (vwCl : List vw_C)[3]? = some (C, T, N) ∧ 3 < N ∧ Cond.fieldLink RX3 15 (T 3).1 (T 3).2.1 (T 3).2.2.1 ∈ x_bw ∧ ((T 3).2.2.2 = true → (yX3_init).name = "<init>" ∧ (T 3).1 = RX3) := ⟨RX3, TX3, 5, rfl, x_ab rfl, (x_bw_in (x_t1 (i := 51) rfl) rfl), fun _ => ⟨rfl, rfl⟩⟩
theorem xf_RX3_18 : ∃ (C : String) (T : u_T) (N : Nat), (vwCl : List vw_C)[3]? = some (C, T, N) ∧ 4 < N ∧ Cond.fieldLink RX3 18 (T 4).1 (T 4).2.1 (T 4).2.2.1 ∈ x_bw := ⟨RX3, TX3, 5, rfl, x_ab rfl, (x_bw_in (x_t1 (i := 54) rfl) rfl)⟩
theorem xp_RX3_18_cX3_init : ∃ (C : String) (T : u_T) (N : Nat), (vwCl : List vw_C)[3]? = some (C, T, N) ∧ 4 < N ∧ Cond.fieldLink RX3 18 (T 4).1 (T 4).2.1 (T 4).2.2.1 ∈ x_bw ∧ ((T 4).2.2.2 = true → (yX3_init).name = "<init>" ∧ (T 4).1 = RX3) := ⟨RX3, TX3, 5, rfl, x_ab rfl, (x_bw_in (x_t1 (i := 54) rfl) rfl), fun _ => ⟨rfl, rfl⟩⟩
theorem xf_RX3_21 : ∃ (C : String) (T : u_T) (N : Nat), (vwCl : List vw_C)[3]? = some (C, T, N) ∧ 0 < N ∧ Cond.fieldLink RX3 21 (T 0).1 (T 0).2.1 (T 0).2.2.1 ∈ x_bw := ⟨RX3, TX3, 5, rfl, x_ab rfl, (x_bw_in (x_t1 (i := 41) rfl) rfl)⟩
theorem xp_RX3_21 : ∀ y : MethodName, ∃ (C : String) (T : u_T) (N : Nat), (vwCl : List vw_C)[3]? = some (C, T, N) ∧ 0 < N ∧ Cond.fieldLink RX3 21 (T 0).1 (T 0).2.1 (T 0).2.2.1 ∈ x_bw ∧ ((T 0).2.2.2 = true → (y : MethodName).name = "<init>" ∧ (T 0).1 = RX3) := fun y => ⟨RX3, TX3, 5, rfl, x_ab rfl, (x_bw_in (x_t1 (i := 41) rfl) rfl), fun h => by cases h⟩
theorem xf_RX3_25 : ∃ (C : String) (T : u_T) (N : Nat), (vwCl : List vw_C)[3]? = some (C, T, N) ∧ 1 < N ∧ Cond.fieldLink RX3 25 (T 1).1 (T 1).2.1 (T 1).2.2.1 ∈ x_bw := ⟨RX3, TX3, 5, rfl, x_ab rfl, (x_bw_in (x_t1 (i := 46) rfl) rfl)⟩
theorem xp_RX3_25 : ∀ y : MethodName, ∃ (C : String) (T : u_T) (N : Nat), (vwCl : List vw_C)[3]? = some (C, T, N) ∧ 1 < N ∧ Cond.fieldLink RX3 25 (T 1).1 (T 1).2.1 (T 1).2.2.1 ∈ x_bw ∧ ((T 1).2.2.2 = true → (y : MethodName).name = "<init>" ∧ (T 1).1 = RX3) := fun y => ⟨RX3, TX3, 5, rfl, x_ab rfl, (x_bw_in (x_t1 (i := 46) rfl) rfl), fun h => by cases h⟩
theorem xo_RX3_28 : Cond.methodLink RX3 28 arraycopyName ∈ x_bw := (x_bw_in (x_t3 (i := 145) rfl) rfl)
theorem xk_RX3_34 : x_okK RX3 34 31 1 x_mt false false := ⟨M_cX3_has, (x_g16 (x_g4 (x_g4 (x_g4 (x_g1 (x_g1 (x_g1 x_g0))))))), (x_bw_in (x_t5 (i := 222) rfl) rfl), rfl, (fun h => by cases h), (fun _ => by decide +kernel), xD_7⟩
theorem xD_10 : (parseMethodDescriptor "([III)V").map (fun d => d.parameters.length) = some 3 := by decide +kernel
theorem xk_RX3_38 : x_okK RX3 38 34 3 x_mt false true := ⟨M_cX3_exchangeIn, (x_g16 (x_g16 (x_g1 (x_g1 x_g0)))), (x_bw_in (x_t5 (i := 223) rfl) rfl), rfl, (fun h => by cases h), (fun _ => by decide +kernel), xD_10⟩
theorem xk_RX3_42 : x_okK RX3 42 357 2 x_mt false true := ⟨M_cJ9_floorMod_7cf53, (x_g16 (x_g16 (x_g16 (x_g16 (x_g16 (x_g16 (x_g16 (x_g16 (x_g16 (x_g16 (x_g16 (x_g16 (x_g16 (x_g16 (x_g16 (x_g16 (x_g16 (x_g16 (x_g16 (x_g16 (x_g16 (x_g16 (x_g4 (x_g1 x_g0)))))))))))))))))))))))), (x_bw_in (x_t5 (i := 46) rfl) rfl), rfl, (fun h => by cases h), (fun _ => by decide +kernel), xD_3⟩
theorem xf_RX3_48 : ∃ (C : String) (T : u_T) (N : Nat), (vwCl : List vw_C)[8]? = some (C, T, N) ∧ 0 < N ∧ Cond.fieldLink RX3 48 (T 0).1 (T 0).2.1 (T 0).2.2.1 ∈ x_bw := ⟨RX8, TX8, 3, rfl, x_ab rfl, (x_bw_in (x_t2 (i := 121) rfl) rfl)⟩
theorem xf_RX3_51 : ∃ (C : String) (T : u_T) (N : Nat), (vwCl : List vw_C)[8]? = some (C, T, N) ∧ 2 < N ∧ Cond.fieldLink RX3 51 (T 2).1 (T 2).2.1 (T 2).2.2.1 ∈ x_bw := ⟨RX8, TX8, 3, rfl, x_ab rfl, (x_bw_in (x_t2 (i := 127) rfl) rfl)⟩
theorem xk_RX3_55 : x_okK RX3 55 35 1 x_mt false false := ⟨M_cX3_round, (x_g16 (x_g16 (x_g1 (x_g1 (x_g1 x_g0))))), (x_bw_in (x_t5 (i := 94) rfl) rfl), rfl, (fun h => by cases h), (fun _ => by decide +kernel), xD_6⟩
theorem xk_RX3_59 : x_okK RX3 59 39 2 x_mt false false := ⟨M_cX3_alike, (x_g16 (x_g16 (x_g4 (x_g1 (x_g1 (x_g1 x_g0)))))), (x_bw_in (x_t5 (i := 111) rfl) rfl), rfl, (fun h => by cases h), (fun _ => by decide +kernel), xD_3⟩
theorem xo_RX3_62 : Cond.methodLink RX3 62 Lib.Math.max.name ∈ x_bw := (x_bw_in (x_t5 (i := 115) rfl) rfl)
theorem xo_RX4_3 : Cond.methodLink RX4 3 Lib.objectInit ∈ x_bw := (x_bw_in (x_t1 (i := 200) rfl) rfl)
theorem xf_RX4_9 : ∃ (C : String) (T : u_T) (N : Nat), (vwCl : List vw_C)[4]? = some (C, T, N) ∧ 1 < N ∧ Cond.fieldLink RX4 9 (T 1).1 (T 1).2.1 (T 1).2.2.1 ∈ x_bw := ⟨RX4, TX4, 7, rfl, x_ab rfl, (x_bw_in (x_t1 (i := 206) rfl) rfl)⟩
theorem xp_RX4_9_cX4_init : ∃ (C : String) (T : u_T) (N : Nat), (vwCl : List vw_C)[4]? = some (C, T, N) ∧ 1 < N ∧ Cond.fieldLink RX4 9 (T 1).1 (T 1).2.1 (T 1).2.2.1 ∈ x_bw ∧ ((T 1).2.2.2 = true → (yX4_init).name = "<init>" ∧ (T 1).1 = RX4) := ⟨RX4, TX4, 7, rfl, x_ab rfl, (x_bw_in (x_t1 (i := 206) rfl) rfl), fun _ => ⟨rfl, rfl⟩⟩
theorem xf_RX4_15 : ∃ (C : String) (T : u_T) (N : Nat), (vwCl : List vw_C)[4]? = some (C, T, N) ∧ 2 < N ∧ Cond.fieldLink RX4 15 (T 2).1 (T 2).2.1 (T 2).2.2.1 ∈ x_bw := ⟨RX4, TX4, 7, rfl, x_ab rfl, (x_bw_in (x_t1 (i := 210) rfl) rfl)⟩
theorem xp_RX4_15_cX4_init : ∃ (C : String) (T : u_T) (N : Nat), (vwCl : List vw_C)[4]? = some (C, T, N) ∧ 2 < N ∧ Cond.fieldLink RX4 15 (T 2).1 (T 2).2.1 (T 2).2.2.1 ∈ x_bw ∧ ((T 2).2.2.2 = true → (yX4_init).name = "<init>" ∧ (T 2).1 = RX4) := ⟨RX4, TX4, 7, rfl, x_ab rfl, (x_bw_in (x_t1 (i := 210) rfl) rfl), fun _ => ⟨rfl, rfl⟩⟩
theorem xf_RX4_18 : ∃ (C : String) (T : u_T) (N : Nat), (vwCl : List vw_C)[4]? = some (C, T, N) ∧ 3 < N ∧ Cond.fieldLink RX4 18 (T 3).1 (T 3).2.1 (T 3).2.2.1 ∈ x_bw := ⟨RX4, TX4, 7, rfl, x_ab rfl, (x_bw_in (x_t1 (i := 214) rfl) rfl)⟩
theorem xp_RX4_18_cX4_init : ∃ (C : String) (T : u_T) (N : Nat), (vwCl : List vw_C)[4]? = some (C, T, N) ∧ 3 < N ∧ Cond.fieldLink RX4 18 (T 3).1 (T 3).2.1 (T 3).2.2.1 ∈ x_bw ∧ ((T 3).2.2.2 = true → (yX4_init).name = "<init>" ∧ (T 3).1 = RX4) := ⟨RX4, TX4, 7, rfl, x_ab rfl, (x_bw_in (x_t1 (i := 214) rfl) rfl), fun _ => ⟨rfl, rfl⟩⟩
theorem xf_RX4_21 : ∃ (C : String) (T : u_T) (N : Nat), (vwCl : List vw_C)[4]? = some (C, T, N) ∧ 4 < N ∧ Cond.fieldLink RX4 21 (T 4).1 (T 4).2.1 (T 4).2.2.1 ∈ x_bw := ⟨RX4, TX4, 7, rfl, x_ab rfl, (x_bw_in (x_t1 (i := 219) rfl) rfl)⟩
theorem xp_RX4_21_cX4_init : ∃ (C : String) (T : u_T) (N : Nat), (vwCl : List vw_C)[4]? = some (C, T, N) ∧ 4 < N ∧ Cond.fieldLink RX4 21 (T 4).1 (T 4).2.1 (T 4).2.2.1 ∈ x_bw ∧ ((T 4).2.2.2 = true → (yX4_init).name = "<init>" ∧ (T 4).1 = RX4) := ⟨RX4, TX4, 7, rfl, x_ab rfl, (x_bw_in (x_t1 (i := 219) rfl) rfl), fun _ => ⟨rfl, rfl⟩⟩
theorem xf_RX4_24 : ∃ (C : String) (T : u_T) (N : Nat), (vwCl : List vw_C)[4]? = some (C, T, N) ∧ 5 < N ∧ Cond.fieldLink RX4 24 (T 5).1 (T 5).2.1 (T 5).2.2.1 ∈ x_bw := ⟨RX4, TX4, 7, rfl, x_ab rfl, (x_bw_in (x_t1 (i := 223) rfl) rfl)⟩
theorem xp_RX4_24_cX4_init : ∃ (C : String) (T : u_T) (N : Nat), (vwCl : List vw_C)[4]? = some (C, T, N) ∧ 5 < N ∧ Cond.fieldLink RX4 24 (T 5).1 (T 5).2.1 (T 5).2.2.1 ∈ x_bw ∧ ((T 5).2.2.2 = true → (yX4_init).name = "<init>" ∧ (T 5).1 = RX4) := ⟨RX4, TX4, 7, rfl, x_ab rfl, (x_bw_in (x_t1 (i := 223) rfl) rfl), fun _ => ⟨rfl, rfl⟩⟩
theorem xf_RX4_27 : ∃ (C : String) (T : u_T) (N : Nat), (vwCl : List vw_C)[4]? = some (C, T, N) ∧ 0 < N ∧ Cond.fieldLink RX4 27 (T 0).1 (T 0).2.1 (T 0).2.2.1 ∈ x_bw := ⟨RX4, TX4, 7, rfl, x_ab rfl, (x_bw_in (x_t1 (i := 201) rfl) rfl)⟩
theorem xk_RX4_31 : x_okK RX4 31 45 0 x_mt false false := ⟨M_cX4_begin, (x_g16 (x_g16 (x_g4 (x_g4 (x_g4 (x_g1 x_g0)))))), (x_bw_in (x_t3 (i := 203) rfl) rfl), rfl, (fun h => by cases h), (fun _ => by decide +kernel), xD_8⟩
theorem xf_RX4_34 : ∃ (C : String) (T : u_T) (N : Nat), (vwCl : List vw_C)[2]? = some (C, T, N) ∧ 14 < N ∧ Cond.fieldLink RX4 34 (T 14).1 (T 14).2.1 (T 14).2.2.1 ∈ x_bw := ⟨RX2, TX2, 15, rfl, x_ab rfl, (x_bw_in (x_t1 (i := 104) rfl) rfl)⟩
theorem xk_RX4_40 : x_okK RX4 40 31 1 x_mt false false := ⟨M_cX3_has, (x_g16 (x_g4 (x_g4 (x_g4 (x_g1 (x_g1 (x_g1 x_g0))))))), (x_bw_in (x_t3 (i := 207) rfl) rfl), rfl, (fun h => by cases h), (fun _ => by decide +kernel), xD_7⟩
theorem xD_11 : (parseMethodDescriptor "(LMoleBoard$Board;)Z").map (fun d => d.parameters.length) = some 1 := by decide +kernel
theorem xk_RX4_46 : x_okK RX4 46 46 1 x_mt false false := ⟨M_cX4_hasRoom, (x_g16 (x_g16 (x_g4 (x_g4 (x_g4 (x_g1 (x_g1 x_g0))))))), (x_bw_in (x_t3 (i := 208) rfl) rfl), rfl, (fun h => by cases h), (fun _ => by decide +kernel), xD_11⟩
theorem xf_RX4_50 : ∃ (C : String) (T : u_T) (N : Nat), (vwCl : List vw_C)[3]? = some (C, T, N) ∧ 2 < N ∧ Cond.fieldLink RX4 50 (T 2).1 (T 2).2.1 (T 2).2.2.1 ∈ x_bw := ⟨RX3, TX3, 5, rfl, x_ab rfl, (x_bw_in (x_t1 (i := 49) rfl) rfl)⟩
theorem xf_RX4_51 : ∃ (C : String) (T : u_T) (N : Nat), (vwCl : List vw_C)[3]? = some (C, T, N) ∧ 3 < N ∧ Cond.fieldLink RX4 51 (T 3).1 (T 3).2.1 (T 3).2.2.1 ∈ x_bw := ⟨RX3, TX3, 5, rfl, x_ab rfl, (x_bw_in (x_t1 (i := 52) rfl) rfl)⟩
theorem xf_RX4_52 : ∃ (C : String) (T : u_T) (N : Nat), (vwCl : List vw_C)[3]? = some (C, T, N) ∧ 4 < N ∧ Cond.fieldLink RX4 52 (T 4).1 (T 4).2.1 (T 4).2.2.1 ∈ x_bw := ⟨RX3, TX3, 5, rfl, x_ab rfl, (x_bw_in (x_t1 (i := 55) rfl) rfl)⟩
theorem xD_12 : (parseMethodDescriptor "(LMoleBoard$Board;III)V").map (fun d => d.parameters.length) = some 4 := by decide +kernel
theorem xk_RX4_53 : x_okK RX4 53 47 4 x_mt false false := ⟨M_cX4_add, (x_g16 (x_g16 (x_g4 (x_g4 (x_g4 (x_g1 (x_g1 (x_g1 x_g0)))))))), (x_bw_in (x_t3 (i := 214) rfl) rfl), rfl, (fun h => by cases h), (fun _ => by decide +kernel), xD_12⟩
theorem xf_RX4_57 : ∃ (C : String) (T : u_T) (N : Nat), (vwCl : List vw_C)[3]? = some (C, T, N) ∧ 0 < N ∧ Cond.fieldLink RX4 57 (T 0).1 (T 0).2.1 (T 0).2.2.1 ∈ x_bw := ⟨RX3, TX3, 5, rfl, x_ab rfl, (x_bw_in (x_t1 (i := 42) rfl) rfl)⟩
theorem xk_RX4_58 : x_okK RX4 58 12 0 x_mt false false := ⟨M_cX2_holes, (x_g4 (x_g4 (x_g4 x_g0))), (x_bw_in (x_t6 (i := 20) rfl) rfl), rfl, (fun h => by cases h), (fun _ => by decide +kernel), xD_2⟩
theorem xk_RX4_62 : x_okK RX4 62 16 1 x_mt false false := ⟨M_cX2_isShut, (x_g16 x_g0), (x_bw_in (x_t6 (i := 21) rfl) rfl), rfl, (fun h => by cases h), (fun _ => by decide +kernel), xD_7⟩
theorem xD_13 : (parseMethodDescriptor "(IIII)Z").map (fun d => d.parameters.length) = some 4 := by decide +kernel
theorem xk_RX4_65 : x_okK RX4 65 27 4 x_mt false false := ⟨M_cX2_lets, (x_g16 (x_g4 (x_g4 (x_g1 (x_g1 (x_g1 x_g0)))))), (x_bw_in (x_t6 (i := 22) rfl) rfl), rfl, (fun h => by cases h), (fun _ => by decide +kernel), xD_13⟩
theorem xc_RX4_69 : Cond.constantLong RX4 69 (Int64.ofNat 1103515245) ∈ x_bw := (x_bw_in (x_t6 (i := 23) (by decide +kernel)) rfl)
theorem xc_RX4_71 : Cond.constantLong RX4 71 (Int64.ofNat 12345) ∈ x_bw := (x_bw_in (x_t6 (i := 24) (by decide +kernel)) rfl)
theorem xc_RX4_73 : Cond.constantLong RX4 73 (Int64.ofNat 2147483648) ∈ x_bw := (x_bw_in (x_t6 (i := 25) (by decide +kernel)) rfl)
theorem xc_RX4_75 : Cond.constantLong RX4 75 (Int64.ofNat 65536) ∈ x_bw := (x_bw_in (x_t6 (i := 26) (by decide +kernel)) rfl)
theorem xD_14 : (parseMethodDescriptor "(LMoleBoard$Board;IIII)I").map (fun d => d.parameters.length) = some 5 := by decide +kernel
theorem xk_RX4_77 : x_okK RX4 77 44 5 x_mt false true := ⟨M_cX4_nthLet, (x_g16 (x_g16 (x_g4 (x_g4 (x_g4 x_g0))))), (x_bw_in (x_t6 (i := 27) rfl) rfl), rfl, (fun h => by cases h), (fun _ => by decide +kernel), xD_14⟩
theorem xp_RX4_27 : ∀ y : MethodName, ∃ (C : String) (T : u_T) (N : Nat), (vwCl : List vw_C)[4]? = some (C, T, N) ∧ 0 < N ∧ Cond.fieldLink RX4 27 (T 0).1 (T 0).2.1 (T 0).2.2.1 ∈ x_bw ∧ ((T 0).2.2.2 = true → (y : MethodName).name = "<init>" ∧ (T 0).1 = RX4) := fun y => ⟨RX4, TX4, 7, rfl, x_ab rfl, (x_bw_in (x_t1 (i := 201) rfl) rfl), fun h => by cases h⟩
theorem xf_RX4_81 : ∃ (C : String) (T : u_T) (N : Nat), (vwCl : List vw_C)[4]? = some (C, T, N) ∧ 6 < N ∧ Cond.fieldLink RX4 81 (T 6).1 (T 6).2.1 (T 6).2.2.1 ∈ x_bw := ⟨RX4, TX4, 7, rfl, x_ab rfl, (x_bw_in (x_t1 (i := 225) rfl) rfl)⟩
theorem xp_RX4_81 : ∀ y : MethodName, ∃ (C : String) (T : u_T) (N : Nat), (vwCl : List vw_C)[4]? = some (C, T, N) ∧ 6 < N ∧ Cond.fieldLink RX4 81 (T 6).1 (T 6).2.1 (T 6).2.2.1 ∈ x_bw ∧ ((T 6).2.2.2 = true → (y : MethodName).name = "<init>" ∧ (T 6).1 = RX4) := fun y => ⟨RX4, TX4, 7, rfl, x_ab rfl, (x_bw_in (x_t1 (i := 225) rfl) rfl), fun h => by cases h⟩
theorem xk_RX4_84 : x_okK RX4 84 21 1 x_mt false false := ⟨M_cX2_stayIn, (x_g16 (x_g4 (x_g1 x_g0))), (x_bw_in (x_t3 (i := 212) rfl) rfl), rfl, (fun h => by cases h), (fun _ => by decide +kernel), xD_6⟩
theorem xk_RX4_88 : x_okK RX4 88 14 1 x_mt false false := ⟨M_cX2_isTick, (x_g4 (x_g4 (x_g4 (x_g1 (x_g1 x_g0))))), (x_bw_in (x_t3 (i := 213) rfl) rfl), rfl, (fun h => by cases h), (fun _ => by decide +kernel), xD_7⟩
theorem xf_RX4_91 : ∃ (C : String) (T : u_T) (N : Nat), (vwCl : List vw_C)[2]? = some (C, T, N) ∧ 5 < N ∧ Cond.fieldLink RX4 91 (T 5).1 (T 5).2.1 (T 5).2.2.1 ∈ x_bw := ⟨RX2, TX2, 15, rfl, x_ab rfl, (x_bw_in (x_t1 (i := 83) rfl) rfl)⟩
theorem xk_RX4_94 : x_okK RX4 94 41 1 x_mt false false := ⟨M_cX4_has, (x_g16 (x_g16 (x_g4 (x_g4 (x_g1 x_g0))))), (x_bw_in (x_t3 (i := 238) rfl) rfl), rfl, (fun h => by cases h), (fun _ => by decide +kernel), xD_7⟩
theorem xk_RX4_95 : x_okK RX4 95 49 1 x_mt false false := ⟨M_cX4_holesOf, (x_g16 (x_g16 (x_g16 (x_g1 x_g0)))), (x_bw_in (x_t5 (i := 149) rfl) rfl), rfl, (fun h => by cases h), (fun _ => by decide +kernel), xD_6⟩
theorem xk_RX4_98 : x_okK RX4 98 356 1 x_mt false true := ⟨M_cJ6_bitCount_0f7a4, (x_g16 (x_g16 (x_g16 (x_g16 (x_g16 (x_g16 (x_g16 (x_g16 (x_g16 (x_g16 (x_g16 (x_g16 (x_g16 (x_g16 (x_g16 (x_g16 (x_g16 (x_g16 (x_g16 (x_g16 (x_g16 (x_g16 (x_g4 x_g0))))))))))))))))))))))), (x_bw_in (x_t5 (i := 154) rfl) rfl), rfl, (fun h => by cases h), (fun _ => by decide +kernel), xD_6⟩
theorem xo_RX4_103 : Cond.methodLink RX4 103 Lib.Math.max.name ∈ x_bw := (x_bw_in (x_t4 (i := 84) rfl) rfl)
theorem xo_RX5_3 : Cond.methodLink RX5 3 Lib.objectInit ∈ x_bw := (x_bw_in (x_t2 (i := 81) rfl) rfl)
theorem xn_long : Cond.arrayClass (newarray.typeOf .long) ∈ x_bw := (x_bw_in (x_t2 (i := 89) rfl) rfl)
theorem xf_RX5_11 : ∃ (C : String) (T : u_T) (N : Nat), (vwCl : List vw_C)[5]? = some (C, T, N) ∧ 0 < N ∧ Cond.fieldLink RX5 11 (T 0).1 (T 0).2.1 (T 0).2.2.1 ∈ x_bw := ⟨RX5, TX5, 2, rfl, x_ab rfl, (x_bw_in (x_t2 (i := 82) rfl) rfl)⟩
theorem xp_RX5_11_cX5_init : ∃ (C : String) (T : u_T) (N : Nat), (vwCl : List vw_C)[5]? = some (C, T, N) ∧ 0 < N ∧ Cond.fieldLink RX5 11 (T 0).1 (T 0).2.1 (T 0).2.2.1 ∈ x_bw ∧ ((T 0).2.2.2 = true → (yX5_init).name = "<init>" ∧ (T 0).1 = RX5) := ⟨RX5, TX5, 2, rfl, x_ab rfl, (x_bw_in (x_t2 (i := 82) rfl) rfl), fun _ => ⟨rfl, rfl⟩⟩
theorem xf_RX5_15 : ∃ (C : String) (T : u_T) (N : Nat), (vwCl : List vw_C)[5]? = some (C, T, N) ∧ 1 < N ∧ Cond.fieldLink RX5 15 (T 1).1 (T 1).2.1 (T 1).2.2.1 ∈ x_bw := ⟨RX5, TX5, 2, rfl, x_ab rfl, (x_bw_in (x_t2 (i := 83) rfl) rfl)⟩
theorem xp_RX5_15_cX5_init : ∃ (C : String) (T : u_T) (N : Nat), (vwCl : List vw_C)[5]? = some (C, T, N) ∧ 1 < N ∧ Cond.fieldLink RX5 15 (T 1).1 (T 1).2.1 (T 1).2.2.1 ∈ x_bw ∧ ((T 1).2.2.2 = true → (yX5_init).name = "<init>" ∧ (T 1).1 = RX5) := ⟨RX5, TX5, 2, rfl, x_ab rfl, (x_bw_in (x_t2 (i := 83) rfl) rfl), fun _ => ⟨rfl, rfl⟩⟩
theorem xk_RX5_18 : x_okK RX5 18 12 0 x_mt false false := ⟨M_cX2_holes, (x_g4 (x_g4 (x_g4 x_g0))), (x_bw_in (x_t4 (i := 230) rfl) rfl), rfl, (fun h => by cases h), (fun _ => by decide +kernel), xD_2⟩
theorem xk_RX5_24 : x_okK RX5 24 16 1 x_mt false false := ⟨M_cX2_isShut, (x_g16 x_g0), (x_bw_in (x_t4 (i := 231) rfl) rfl), rfl, (fun h => by cases h), (fun _ => by decide +kernel), xD_7⟩
theorem xD_15 : (parseMethodDescriptor "([JIIJ)V").map (fun d => d.parameters.length) = some 4 := by decide +kernel
theorem xk_RX5_28 : x_okK RX5 28 59 4 x_mt false true := ⟨M_cX5_add, (x_g16 (x_g16 (x_g16 (x_g4 (x_g4 (x_g1 (x_g1 (x_g1 x_g0)))))))), (x_bw_in (x_t4 (i := 232) rfl) rfl), rfl, (fun h => by cases h), (fun _ => by decide +kernel), xD_15⟩
theorem xD_16 : (parseMethodDescriptor "(II)J").map (fun d => d.parameters.length) = some 2 := by decide +kernel
theorem xk_RX5_32 : x_okK RX5 32 58 2 x_mt false false := ⟨M_cX5_waysTo, (x_g16 (x_g16 (x_g16 (x_g4 (x_g4 (x_g1 (x_g1 x_g0))))))), (x_bw_in (x_t5 (i := 2) rfl) rfl), rfl, (fun h => by cases h), (fun _ => by decide +kernel), xD_16⟩
theorem xk_RX5_36 : x_okK RX5 36 56 4 x_mt false false := ⟨M_cX5_growFrom, (x_g16 (x_g16 (x_g16 (x_g4 (x_g4 x_g0))))), (x_bw_in (x_t5 (i := 6) rfl) rfl), rfl, (fun h => by cases h), (fun _ => by decide +kernel), xD_12⟩
theorem xo_RX5_40 : Cond.methodLink RX5 40 arraycopyName ∈ x_bw := (x_bw_in (x_t5 (i := 14) rfl) rfl)
theorem xk_RX5_46 : x_okK RX5 46 27 4 x_mt false false := ⟨M_cX2_lets, (x_g16 (x_g4 (x_g4 (x_g1 (x_g1 (x_g1 x_g0)))))), (x_bw_in (x_t5 (i := 10) rfl) rfl), rfl, (fun h => by cases h), (fun _ => by decide +kernel), xD_13⟩
theorem xk_RX5_50 : x_okK RX5 50 57 2 x_mt false true := ⟨M_cX5_at, (x_g16 (x_g16 (x_g16 (x_g4 (x_g4 (x_g1 x_g0)))))), (x_bw_in (x_t4 (i := 235) rfl) rfl), rfl, (fun h => by cases h), (fun _ => by decide +kernel), xD_3⟩
theorem xD_17 : (parseMethodDescriptor "(LMoleBoard$Board;I)J").map (fun d => d.parameters.length) = some 2 := by decide +kernel
theorem xk_RX5_54 : x_okK RX5 54 60 2 x_mt false false := ⟨M_cX5_rowsTo, (x_g16 (x_g16 (x_g16 (x_g4 (x_g4 (x_g4 x_g0)))))), (x_bw_in (x_t5 (i := 19) rfl) rfl), rfl, (fun h => by cases h), (fun _ => by decide +kernel), xD_17⟩
theorem xc_RX5_58 : Cond.constantLong RX5 58 (Int64.ofNat 18446744073709551615) ∈ x_bw := (x_bw_in (x_t5 (i := 37) (by decide +kernel)) rfl)
theorem xo_RX6_3 : Cond.methodLink RX6 3 Lib.objectInit ∈ x_bw := (x_bw_in (x_t2 (i := 6) rfl) rfl)
theorem xk_RX6_9 : x_okK RX6 9 24 2 x_mt false false := ⟨M_cX2_trait, (x_g16 (x_g4 (x_g4 x_g0))), (x_bw_in (x_t4 (i := 23) rfl) rfl), rfl, (fun h => by cases h), (fun _ => by decide +kernel), xD_3⟩
theorem xf_RX6_15 : ∃ (C : String) (T : u_T) (N : Nat), (vwCl : List vw_C)[6]? = some (C, T, N) ∧ 0 < N ∧ Cond.fieldLink RX6 15 (T 0).1 (T 0).2.1 (T 0).2.2.1 ∈ x_bw := ⟨RX6, TX6, 5, rfl, x_ab rfl, (x_bw_in (x_t2 (i := 7) rfl) rfl)⟩
theorem xp_RX6_15 : ∀ y : MethodName, ∃ (C : String) (T : u_T) (N : Nat), (vwCl : List vw_C)[6]? = some (C, T, N) ∧ 0 < N ∧ Cond.fieldLink RX6 15 (T 0).1 (T 0).2.1 (T 0).2.2.1 ∈ x_bw ∧ ((T 0).2.2.2 = true → (y : MethodName).name = "<init>" ∧ (T 0).1 = RX6) := fun y => ⟨RX6, TX6, 5, rfl, x_ab rfl, (x_bw_in (x_t2 (i := 7) rfl) rfl), fun h => by cases h⟩
theorem xf_RX6_21 : ∃ (C : String) (T : u_T) (N : Nat), (vwCl : List vw_C)[6]? = some (C, T, N) ∧ 1 < N ∧ Cond.fieldLink RX6 21 (T 1).1 (T 1).2.1 (T 1).2.2.1 ∈ x_bw := ⟨RX6, TX6, 5, rfl, x_ab rfl, (x_bw_in (x_t2 (i := 8) rfl) rfl)⟩
theorem xp_RX6_21 : ∀ y : MethodName, ∃ (C : String) (T : u_T) (N : Nat), (vwCl : List vw_C)[6]? = some (C, T, N) ∧ 1 < N ∧ Cond.fieldLink RX6 21 (T 1).1 (T 1).2.1 (T 1).2.2.1 ∈ x_bw ∧ ((T 1).2.2.2 = true → (y : MethodName).name = "<init>" ∧ (T 1).1 = RX6) := fun y => ⟨RX6, TX6, 5, rfl, x_ab rfl, (x_bw_in (x_t2 (i := 8) rfl) rfl), fun h => by cases h⟩
theorem xf_RX6_24 : ∃ (C : String) (T : u_T) (N : Nat), (vwCl : List vw_C)[6]? = some (C, T, N) ∧ 2 < N ∧ Cond.fieldLink RX6 24 (T 2).1 (T 2).2.1 (T 2).2.2.1 ∈ x_bw := ⟨RX6, TX6, 5, rfl, x_ab rfl, (x_bw_in (x_t2 (i := 10) rfl) rfl)⟩
theorem xp_RX6_24 : ∀ y : MethodName, ∃ (C : String) (T : u_T) (N : Nat), (vwCl : List vw_C)[6]? = some (C, T, N) ∧ 2 < N ∧ Cond.fieldLink RX6 24 (T 2).1 (T 2).2.1 (T 2).2.2.1 ∈ x_bw ∧ ((T 2).2.2.2 = true → (y : MethodName).name = "<init>" ∧ (T 2).1 = RX6) := fun y => ⟨RX6, TX6, 5, rfl, x_ab rfl, (x_bw_in (x_t2 (i := 10) rfl) rfl), fun h => by cases h⟩
theorem xf_RX6_27 : ∃ (C : String) (T : u_T) (N : Nat), (vwCl : List vw_C)[6]? = some (C, T, N) ∧ 3 < N ∧ Cond.fieldLink RX6 27 (T 3).1 (T 3).2.1 (T 3).2.2.1 ∈ x_bw := ⟨RX6, TX6, 5, rfl, x_ab rfl, (x_bw_in (x_t2 (i := 11) rfl) rfl)⟩
theorem xp_RX6_27 : ∀ y : MethodName, ∃ (C : String) (T : u_T) (N : Nat), (vwCl : List vw_C)[6]? = some (C, T, N) ∧ 3 < N ∧ Cond.fieldLink RX6 27 (T 3).1 (T 3).2.1 (T 3).2.2.1 ∈ x_bw ∧ ((T 3).2.2.2 = true → (y : MethodName).name = "<init>" ∧ (T 3).1 = RX6) := fun y => ⟨RX6, TX6, 5, rfl, x_ab rfl, (x_bw_in (x_t2 (i := 11) rfl) rfl), fun h => by cases h⟩
theorem xf_RX6_30 : ∃ (C : String) (T : u_T) (N : Nat), (vwCl : List vw_C)[6]? = some (C, T, N) ∧ 4 < N ∧ Cond.fieldLink RX6 30 (T 4).1 (T 4).2.1 (T 4).2.2.1 ∈ x_bw := ⟨RX6, TX6, 5, rfl, x_ab rfl, (x_bw_in (x_t2 (i := 14) rfl) rfl)⟩
theorem xp_RX6_30 : ∀ y : MethodName, ∃ (C : String) (T : u_T) (N : Nat), (vwCl : List vw_C)[6]? = some (C, T, N) ∧ 4 < N ∧ Cond.fieldLink RX6 30 (T 4).1 (T 4).2.1 (T 4).2.2.1 ∈ x_bw ∧ ((T 4).2.2.2 = true → (y : MethodName).name = "<init>" ∧ (T 4).1 = RX6) := fun y => ⟨RX6, TX6, 5, rfl, x_ab rfl, (x_bw_in (x_t2 (i := 14) rfl) rfl), fun h => by cases h⟩
theorem xk_RX6_33 : x_okK RX6 33 41 1 x_mt false false := ⟨M_cX4_has, (x_g16 (x_g16 (x_g4 (x_g4 (x_g1 x_g0))))), (x_bw_in (x_t4 (i := 40) rfl) rfl), rfl, (fun h => by cases h), (fun _ => by decide +kernel), xD_7⟩
theorem xf_RX6_39 : ∃ (C : String) (T : u_T) (N : Nat), (vwCl : List vw_C)[4]? = some (C, T, N) ∧ 4 < N ∧ Cond.fieldLink RX6 39 (T 4).1 (T 4).2.1 (T 4).2.2.1 ∈ x_bw := ⟨RX4, TX4, 7, rfl, x_ab rfl, (x_bw_in (x_t1 (i := 221) rfl) rfl)⟩
theorem xo_RX6_43 : Cond.methodLink RX6 43 Lib.Math.min.name ∈ x_bw := (x_bw_in (x_t4 (i := 41) rfl) rfl)
theorem xk_RX6_48 : x_okK RX6 48 18 2 x_mt false false := ⟨M_cX2_apart, (x_g16 (x_g1 (x_g1 x_g0))), (x_bw_in (x_t4 (i := 78) rfl) rfl), rfl, (fun h => by cases h), (fun _ => by decide +kernel), xD_3⟩
theorem xk_RX6_51 : x_okK RX6 51 65 1 x_mt false false := ⟨M_cX6_paceIn, (x_g16 (x_g16 (x_g16 (x_g16 (x_g1 x_g0))))), (x_bw_in (x_t4 (i := 79) rfl) rfl), rfl, (fun h => by cases h), (fun _ => by decide +kernel), xD_6⟩
theorem xk_RX6_55 : x_okK RX6 55 12 0 x_mt false false := ⟨M_cX2_holes, (x_g4 (x_g4 (x_g4 x_g0))), (x_bw_in (x_t4 (i := 206) rfl) rfl), rfl, (fun h => by cases h), (fun _ => by decide +kernel), xD_2⟩
theorem xk_RX6_59 : x_okK RX6 59 16 1 x_mt false false := ⟨M_cX2_isShut, (x_g16 x_g0), (x_bw_in (x_t4 (i := 207) rfl) rfl), rfl, (fun h => by cases h), (fun _ => by decide +kernel), xD_7⟩
theorem xk_RX6_62 : x_okK RX6 62 67 4 x_mt false false := ⟨M_cX6_there, (x_g16 (x_g16 (x_g16 (x_g16 (x_g1 (x_g1 (x_g1 x_g0))))))), (x_bw_in (x_t4 (i := 208) rfl) rfl), rfl, (fun h => by cases h), (fun _ => by decide +kernel), xD_4⟩
theorem xk_RX6_66 : x_okK RX6 66 21 1 x_mt false false := ⟨M_cX2_stayIn, (x_g16 (x_g4 (x_g1 x_g0))), (x_bw_in (x_t4 (i := 209) rfl) rfl), rfl, (fun h => by cases h), (fun _ => by decide +kernel), xD_6⟩
theorem xo_RX7_3 : Cond.methodLink RX7 3 Lib.objectInit ∈ x_bw := (x_bw_in (x_t1 (i := 144) rfl) rfl)
theorem xw_RX7_9 : ∃ (C : String) (T : u_T), (vwCl : List vw_C)[2]? = some (C, T, 15) ∧ Cond.classLink RX7 9 C ∈ x_bw := ⟨RX2, TX2, rfl, (x_bw_in (x_t1 (i := 145) rfl) rfl)⟩
theorem xk_RX7_11 : x_okK RX7 11 8 0 x_mt true false := ⟨M_cX2_init, (x_g4 (x_g4 x_g0)), (x_bw_in (x_t1 (i := 146) rfl) rfl), rfl, fun _ => ⟨rfl, rfl⟩, (fun h => by cases h), xD_8⟩
theorem xf_RX7_12 : ∃ (C : String) (T : u_T) (N : Nat), (vwCl : List vw_C)[7]? = some (C, T, N) ∧ 0 < N ∧ Cond.fieldLink RX7 12 (T 0).1 (T 0).2.1 (T 0).2.2.1 ∈ x_bw := ⟨RX7, TX7, 9, rfl, x_ab rfl, (x_bw_in (x_t1 (i := 163) rfl) rfl)⟩
theorem xp_RX7_12_cX7_init : ∃ (C : String) (T : u_T) (N : Nat), (vwCl : List vw_C)[7]? = some (C, T, N) ∧ 0 < N ∧ Cond.fieldLink RX7 12 (T 0).1 (T 0).2.1 (T 0).2.2.1 ∈ x_bw ∧ ((T 0).2.2.2 = true → (yX7_init).name = "<init>" ∧ (T 0).1 = RX7) := ⟨RX7, TX7, 9, rfl, x_ab rfl, (x_bw_in (x_t1 (i := 163) rfl) rfl), fun _ => ⟨rfl, rfl⟩⟩
theorem xf_RX7_18 : ∃ (C : String) (T : u_T) (N : Nat), (vwCl : List vw_C)[7]? = some (C, T, N) ∧ 2 < N ∧ Cond.fieldLink RX7 18 (T 2).1 (T 2).2.1 (T 2).2.2.1 ∈ x_bw := ⟨RX7, TX7, 9, rfl, x_ab rfl, (x_bw_in (x_t1 (i := 167) rfl) rfl)⟩
theorem xp_RX7_18 : ∀ y : MethodName, ∃ (C : String) (T : u_T) (N : Nat), (vwCl : List vw_C)[7]? = some (C, T, N) ∧ 2 < N ∧ Cond.fieldLink RX7 18 (T 2).1 (T 2).2.1 (T 2).2.2.1 ∈ x_bw ∧ ((T 2).2.2.2 = true → (y : MethodName).name = "<init>" ∧ (T 2).1 = RX7) := fun y => ⟨RX7, TX7, 9, rfl, x_ab rfl, (x_bw_in (x_t1 (i := 167) rfl) rfl), fun h => by cases h⟩
theorem xw_RX7_22 : ∃ (C : String) (T : u_T), (vwCl : List vw_C)[10]? = some (C, T, 2) ∧ Cond.classLink RX7 22 C ∈ x_bw := ⟨RX10, TX10, rfl, (x_bw_in (x_t1 (i := 147) rfl) rfl)⟩
theorem xk_RX7_24 : x_okK RX7 24 108 0 x_mt true false := ⟨M_cX10_init, (x_g16 (x_g16 (x_g16 (x_g16 (x_g16 (x_g16 (x_g4 (x_g4 (x_g4 x_g0))))))))), (x_bw_in (x_t1 (i := 149) rfl) rfl), rfl, fun _ => ⟨rfl, rfl⟩, (fun h => by cases h), xD_8⟩
theorem xf_RX7_25 : ∃ (C : String) (T : u_T) (N : Nat), (vwCl : List vw_C)[7]? = some (C, T, N) ∧ 3 < N ∧ Cond.fieldLink RX7 25 (T 3).1 (T 3).2.1 (T 3).2.2.1 ∈ x_bw := ⟨RX7, TX7, 9, rfl, x_ab rfl, (x_bw_in (x_t1 (i := 169) rfl) rfl)⟩
theorem xp_RX7_25_cX7_init : ∃ (C : String) (T : u_T) (N : Nat), (vwCl : List vw_C)[7]? = some (C, T, N) ∧ 3 < N ∧ Cond.fieldLink RX7 25 (T 3).1 (T 3).2.1 (T 3).2.2.1 ∈ x_bw ∧ ((T 3).2.2.2 = true → (yX7_init).name = "<init>" ∧ (T 3).1 = RX7) := ⟨RX7, TX7, 9, rfl, x_ab rfl, (x_bw_in (x_t1 (i := 169) rfl) rfl), fun _ => ⟨rfl, rfl⟩⟩
theorem xf_RX7_29 : ∃ (C : String) (T : u_T) (N : Nat), (vwCl : List vw_C)[7]? = some (C, T, N) ∧ 4 < N ∧ Cond.fieldLink RX7 29 (T 4).1 (T 4).2.1 (T 4).2.2.1 ∈ x_bw := ⟨RX7, TX7, 9, rfl, x_ab rfl, (x_bw_in (x_t1 (i := 171) rfl) rfl)⟩
theorem xp_RX7_29_cX7_init : ∃ (C : String) (T : u_T) (N : Nat), (vwCl : List vw_C)[7]? = some (C, T, N) ∧ 4 < N ∧ Cond.fieldLink RX7 29 (T 4).1 (T 4).2.1 (T 4).2.2.1 ∈ x_bw ∧ ((T 4).2.2.2 = true → (yX7_init).name = "<init>" ∧ (T 4).1 = RX7) := ⟨RX7, TX7, 9, rfl, x_ab rfl, (x_bw_in (x_t1 (i := 171) rfl) rfl), fun _ => ⟨rfl, rfl⟩⟩
theorem xk_RX7_33 : x_okK RX7 33 9 0 x_mt false false := ⟨M_cX2_empty, (x_g4 (x_g4 (x_g1 x_g0))), (x_bw_in (x_t2 (i := 190) rfl) rfl), rfl, (fun h => by cases h), (fun _ => by decide +kernel), xD_8⟩
theorem xf_RX7_36 : ∃ (C : String) (T : u_T) (N : Nat), (vwCl : List vw_C)[7]? = some (C, T, N) ∧ 7 < N ∧ Cond.fieldLink RX7 36 (T 7).1 (T 7).2.1 (T 7).2.2.1 ∈ x_bw := ⟨RX7, TX7, 9, rfl, x_ab rfl, (x_bw_in (x_t1 (i := 174) rfl) rfl)⟩
theorem xp_RX7_36 : ∀ y : MethodName, ∃ (C : String) (T : u_T) (N : Nat), (vwCl : List vw_C)[7]? = some (C, T, N) ∧ 7 < N ∧ Cond.fieldLink RX7 36 (T 7).1 (T 7).2.1 (T 7).2.2.1 ∈ x_bw ∧ ((T 7).2.2.2 = true → (y : MethodName).name = "<init>" ∧ (T 7).1 = RX7) := fun y => ⟨RX7, TX7, 9, rfl, x_ab rfl, (x_bw_in (x_t1 (i := 174) rfl) rfl), fun h => by cases h⟩
theorem xf_RX7_39 : ∃ (C : String) (T : u_T) (N : Nat), (vwCl : List vw_C)[7]? = some (C, T, N) ∧ 1 < N ∧ Cond.fieldLink RX7 39 (T 1).1 (T 1).2.1 (T 1).2.2.1 ∈ x_bw := ⟨RX7, TX7, 9, rfl, x_ab rfl, (x_bw_in (x_t1 (i := 165) rfl) rfl)⟩
theorem xp_RX7_39 : ∀ y : MethodName, ∃ (C : String) (T : u_T) (N : Nat), (vwCl : List vw_C)[7]? = some (C, T, N) ∧ 1 < N ∧ Cond.fieldLink RX7 39 (T 1).1 (T 1).2.1 (T 1).2.2.1 ∈ x_bw ∧ ((T 1).2.2.2 = true → (y : MethodName).name = "<init>" ∧ (T 1).1 = RX7) := fun y => ⟨RX7, TX7, 9, rfl, x_ab rfl, (x_bw_in (x_t1 (i := 165) rfl) rfl), fun h => by cases h⟩
theorem xk_RX7_42 : x_okK RX7 42 86 0 x_mt false false := ⟨M_cX7_step, (x_g16 (x_g16 (x_g16 (x_g16 (x_g16 (x_g4 (x_g1 (x_g1 x_g0)))))))), (x_bw_in (x_t2 (i := 198) rfl) rfl), rfl, (fun h => by cases h), (fun _ => by decide +kernel), xD_8⟩
theorem xf_RX7_45 : ∃ (C : String) (T : u_T) (N : Nat), (vwCl : List vw_C)[7]? = some (C, T, N) ∧ 5 < N ∧ Cond.fieldLink RX7 45 (T 5).1 (T 5).2.1 (T 5).2.2.1 ∈ x_bw := ⟨RX7, TX7, 9, rfl, x_ab rfl, (x_bw_in (x_t1 (i := 172) rfl) rfl)⟩
theorem xk_RX7_48 : x_okK RX7 48 72 0 x_mt false false := ⟨M_cX7_readLine, (x_g16 (x_g16 (x_g16 (x_g16 (x_g4 (x_g4 x_g0)))))), (x_bw_in (x_t2 (i := 219) rfl) rfl), rfl, (fun h => by cases h), (fun _ => by decide +kernel), xD_8⟩
theorem xk_RX7_67 : x_okK RX7 67 75 0 x_mt false false := ⟨M_cX7_kindOfLine, (x_g16 (x_g16 (x_g16 (x_g16 (x_g4 (x_g4 (x_g1 (x_g1 (x_g1 x_g0))))))))), (x_bw_in (x_t2 (i := 223) rfl) rfl), rfl, (fun h => by cases h), (fun _ => by decide +kernel), xD_2⟩
theorem xD_18 : (parseMethodDescriptor "(I)V").map (fun d => d.parameters.length) = some 1 := by decide +kernel
theorem xk_RX7_71 : x_okK RX7 71 73 1 x_mt false false := ⟨M_cX7_blame, (x_g16 (x_g16 (x_g16 (x_g16 (x_g4 (x_g4 (x_g1 x_g0))))))), (x_bw_in (x_t3 (i := 54) rfl) rfl), rfl, (fun h => by cases h), (fun _ => by decide +kernel), xD_18⟩
theorem xk_RX7_75 : x_okK RX7 75 78 1 x_mt false false := ⟨M_cX7_isFull, (x_g16 (x_g16 (x_g16 (x_g16 (x_g4 (x_g4 (x_g4 (x_g1 (x_g1 x_g0))))))))), (x_bw_in (x_t3 (i := 58) rfl) rfl), rfl, (fun h => by cases h), (fun _ => by decide +kernel), xD_7⟩
theorem xD_19 : (parseMethodDescriptor "(I)Ljava/lang/String;").map (fun d => d.parameters.length) = some 1 := by decide +kernel
theorem xk_RX7_79 : x_okK RX7 79 71 1 x_mt false true := ⟨M_cX7_shapeOf, (x_g16 (x_g16 (x_g16 (x_g16 (x_g4 (x_g1 (x_g1 (x_g1 x_g0)))))))), (x_bw_in (x_t2 (i := 227) rfl) rfl), rfl, (fun h => by cases h), (fun _ => by decide +kernel), xD_19⟩
theorem xD_20 : (parseMethodDescriptor "(Ljava/lang/String;I)I").map (fun d => d.parameters.length) = some 2 := by decide +kernel
theorem xk_RX7_83 : x_okK RX7 83 74 2 x_mt false true := ⟨M_cX7_behindBlank, (x_g16 (x_g16 (x_g16 (x_g16 (x_g4 (x_g4 (x_g1 (x_g1 x_g0)))))))), (x_bw_in (x_t3 (i := 62) rfl) rfl), rfl, (fun h => by cases h), (fun _ => by decide +kernel), xD_20⟩
theorem xo_RX7_87 : Cond.methodLink RX7 87 yJ0_length_8abf5 ∈ x_bw := (x_bw_in (x_t3 (i := 2) rfl) rfl)
theorem xD_21 : (parseMethodDescriptor "(Ljava/lang/String;I)Z").map (fun d => d.parameters.length) = some 2 := by decide +kernel
theorem xk_RX7_92 : x_okK RX7 92 76 2 x_mt false false := ⟨M_cX7_standsAt, (x_g16 (x_g16 (x_g16 (x_g16 (x_g4 (x_g4 (x_g4 x_g0))))))), (x_bw_in (x_t2 (i := 238) rfl) rfl), rfl, (fun h => by cases h), (fun _ => by decide +kernel), xD_21⟩
theorem xk_RX7_96 : x_okK RX7 96 79 2 x_mt false false := ⟨M_cX7_judge, (x_g16 (x_g16 (x_g16 (x_g16 (x_g4 (x_g4 (x_g4 (x_g1 (x_g1 (x_g1 x_g0)))))))))), (x_bw_in (x_t3 (i := 65) rfl) rfl), rfl, (fun h => by cases h), (fun _ => by decide +kernel), xD_3⟩
theorem xf_RX7_100 : ∃ (C : String) (T : u_T) (N : Nat), (vwCl : List vw_C)[7]? = some (C, T, N) ∧ 8 < N ∧ Cond.fieldLink RX7 100 (T 8).1 (T 8).2.1 (T 8).2.2.1 ∈ x_bw := ⟨RX7, TX7, 9, rfl, x_ab rfl, (x_bw_in (x_t1 (i := 175) rfl) rfl)⟩
theorem xk_RX7_103 : x_okK RX7 103 84 1 x_mt false false := ⟨M_cX7_apply, (x_g16 (x_g16 (x_g16 (x_g16 (x_g16 (x_g4 x_g0)))))), (x_bw_in (x_t3 (i := 114) rfl) rfl), rfl, (fun h => by cases h), (fun _ => by decide +kernel), xD_18⟩
theorem xf_RX7_106 : ∃ (C : String) (T : u_T) (N : Nat), (vwCl : List vw_C)[2]? = some (C, T, N) ∧ 1 < N ∧ Cond.fieldLink RX7 106 (T 1).1 (T 1).2.1 (T 1).2.2.1 ∈ x_bw := ⟨RX2, TX2, 15, rfl, x_ab rfl, (x_bw_in (x_t1 (i := 72) rfl) rfl)⟩
theorem xp_RX7_106 : ∀ y : MethodName, ∃ (C : String) (T : u_T) (N : Nat), (vwCl : List vw_C)[2]? = some (C, T, N) ∧ 1 < N ∧ Cond.fieldLink RX7 106 (T 1).1 (T 1).2.1 (T 1).2.2.1 ∈ x_bw ∧ ((T 1).2.2.2 = true → (y : MethodName).name = "<init>" ∧ (T 1).1 = RX7) := fun y => ⟨RX2, TX2, 15, rfl, x_ab rfl, (x_bw_in (x_t1 (i := 72) rfl) rfl), fun h => by cases h⟩
theorem xf_RX7_109 : ∃ (C : String) (T : u_T) (N : Nat), (vwCl : List vw_C)[7]? = some (C, T, N) ∧ 6 < N ∧ Cond.fieldLink RX7 109 (T 6).1 (T 6).2.1 (T 6).2.2.1 ∈ x_bw := ⟨RX7, TX7, 9, rfl, x_ab rfl, (x_bw_in (x_t1 (i := 173) rfl) rfl)⟩
theorem xo_RX7_112 : Cond.methodLink RX7 112 yJ0_charAt_5068e ∈ x_bw := (x_bw_in (x_t3 (i := 12) rfl) rfl)
theorem xk_RX7_116 : x_okK RX7 116 77 2 x_mt false false := ⟨M_cX7_isSpelled, (x_g16 (x_g16 (x_g16 (x_g16 (x_g4 (x_g4 (x_g4 (x_g1 x_g0)))))))), (x_bw_in (x_t3 (i := 50) rfl) rfl), rfl, (fun h => by cases h), (fun _ => by decide +kernel), xD_21⟩
theorem xk_RX7_119 : x_okK RX7 119 110 1 x_mt false false := ⟨M_cX10_at, (x_g16 (x_g16 (x_g16 (x_g16 (x_g16 (x_g16 (x_g4 (x_g4 (x_g4 (x_g1 (x_g1 x_g0))))))))))), (x_bw_in (x_t2 (i := 202) rfl) rfl), rfl, (fun h => by cases h), (fun _ => by decide +kernel), xD_6⟩
theorem xf_RX7_123 : ∃ (C : String) (T : u_T) (N : Nat), (vwCl : List vw_C)[2]? = some (C, T, N) ∧ 14 < N ∧ Cond.fieldLink RX7 123 (T 14).1 (T 14).2.1 (T 14).2.2.1 ∈ x_bw := ⟨RX2, TX2, 15, rfl, x_ab rfl, (x_bw_in (x_t1 (i := 106) rfl) rfl)⟩
theorem xf_RX7_127 : ∃ (C : String) (T : u_T) (N : Nat), (vwCl : List vw_C)[3]? = some (C, T, N) ∧ 0 < N ∧ Cond.fieldLink RX7 127 (T 0).1 (T 0).2.1 (T 0).2.2.1 ∈ x_bw := ⟨RX3, TX3, 5, rfl, x_ab rfl, (x_bw_in (x_t1 (i := 44) rfl) rfl)⟩
theorem xf_RX7_132 : ∃ (C : String) (T : u_T) (N : Nat), (vwCl : List vw_C)[2]? = some (C, T, N) ∧ 7 < N ∧ Cond.fieldLink RX7 132 (T 7).1 (T 7).2.1 (T 7).2.2.1 ∈ x_bw := ⟨RX2, TX2, 15, rfl, x_ab rfl, (x_bw_in (x_t1 (i := 91) rfl) rfl)⟩
theorem xk_RX7_135 : x_okK RX7 135 81 1 x_mt false false := ⟨M_cX7_fitsBoard, (x_g16 (x_g16 (x_g16 (x_g16 (x_g16 (x_g1 x_g0)))))), (x_bw_in (x_t3 (i := 69) rfl) rfl), rfl, (fun h => by cases h), (fun _ => by decide +kernel), xD_7⟩
theorem xk_RX7_138 : x_okK RX7 138 80 2 x_mt false false := ⟨M_cX7_within, (x_g16 (x_g16 (x_g16 (x_g16 (x_g16 x_g0))))), (x_bw_in (x_t3 (i := 73) rfl) rfl), rfl, (fun h => by cases h), (fun _ => by decide +kernel), xD_3⟩
theorem xk_RX7_141 : x_okK RX7 141 82 0 x_mt false false := ⟨M_cX7_judgeFrom, (x_g16 (x_g16 (x_g16 (x_g16 (x_g16 (x_g1 (x_g1 x_g0))))))), (x_bw_in (x_t3 (i := 77) rfl) rfl), rfl, (fun h => by cases h), (fun _ => by decide +kernel), xD_2⟩
theorem xD_22 : (parseMethodDescriptor "()Z").map (fun d => d.parameters.length) = some 0 := by decide +kernel
theorem xk_RX7_144 : x_okK RX7 144 83 0 x_mt false false := ⟨M_cX7_isOpen, (x_g16 (x_g16 (x_g16 (x_g16 (x_g16 (x_g1 (x_g1 (x_g1 x_g0)))))))), (x_bw_in (x_t3 (i := 89) rfl) rfl), rfl, (fun h => by cases h), (fun _ => by decide +kernel), xD_22⟩
theorem xk_RX7_148 : x_okK RX7 148 36 1 x_mt false false := ⟨M_cX3_oftenAt, (x_g16 (x_g16 (x_g4 x_g0))), (x_bw_in (x_t3 (i := 105) rfl) rfl), rfl, (fun h => by cases h), (fun _ => by decide +kernel), xD_6⟩
theorem xD_23 : (parseMethodDescriptor "(II)Z").map (fun d => d.parameters.length) = some 2 := by decide +kernel
theorem xk_RX7_151 : x_okK RX7 151 26 2 x_mt false false := ⟨M_cX2_isTrait, (x_g16 (x_g4 (x_g4 (x_g1 (x_g1 x_g0))))), (x_bw_in (x_t3 (i := 109) rfl) rfl), rfl, (fun h => by cases h), (fun _ => by decide +kernel), xD_23⟩
theorem xk_RX7_155 : x_okK RX7 155 14 1 x_mt false false := ⟨M_cX2_isTick, (x_g4 (x_g4 (x_g4 (x_g1 (x_g1 x_g0))))), (x_bw_in (x_t3 (i := 81) rfl) rfl), rfl, (fun h => by cases h), (fun _ => by decide +kernel), xD_7⟩
theorem xf_RX7_158 : ∃ (C : String) (T : u_T) (N : Nat), (vwCl : List vw_C)[2]? = some (C, T, N) ∧ 10 < N ∧ Cond.fieldLink RX7 158 (T 10).1 (T 10).2.1 (T 10).2.2.1 ∈ x_bw := ⟨RX2, TX2, 15, rfl, x_ab rfl, (x_bw_in (x_t1 (i := 99) rfl) rfl)⟩
theorem xk_RX7_161 : x_okK RX7 161 22 1 x_mt false false := ⟨M_cX2_hasStayFrom, (x_g16 (x_g4 (x_g1 (x_g1 x_g0)))), (x_bw_in (x_t3 (i := 85) rfl) rfl), rfl, (fun h => by cases h), (fun _ => by decide +kernel), xD_7⟩
theorem xk_RX7_164 : x_okK RX7 164 13 1 x_mt false false := ⟨M_cX2_isHole, (x_g4 (x_g4 (x_g4 (x_g1 x_g0)))), (x_bw_in (x_t3 (i := 93) rfl) rfl), rfl, (fun h => by cases h), (fun _ => by decide +kernel), xD_7⟩
theorem xk_RX7_167 : x_okK RX7 167 16 1 x_mt false false := ⟨M_cX2_isShut, (x_g16 x_g0), (x_bw_in (x_t3 (i := 101) rfl) rfl), rfl, (fun h => by cases h), (fun _ => by decide +kernel), xD_7⟩
theorem xf_RX7_170 : ∃ (C : String) (T : u_T) (N : Nat), (vwCl : List vw_C)[2]? = some (C, T, N) ∧ 2 < N ∧ Cond.fieldLink RX7 170 (T 2).1 (T 2).2.1 (T 2).2.2.1 ∈ x_bw := ⟨RX2, TX2, 15, rfl, x_ab rfl, (x_bw_in (x_t1 (i := 75) rfl) rfl)⟩
theorem xp_RX7_170 : ∀ y : MethodName, ∃ (C : String) (T : u_T) (N : Nat), (vwCl : List vw_C)[2]? = some (C, T, N) ∧ 2 < N ∧ Cond.fieldLink RX7 170 (T 2).1 (T 2).2.1 (T 2).2.2.1 ∈ x_bw ∧ ((T 2).2.2.2 = true → (y : MethodName).name = "<init>" ∧ (T 2).1 = RX7) := fun y => ⟨RX2, TX2, 15, rfl, x_ab rfl, (x_bw_in (x_t1 (i := 75) rfl) rfl), fun h => by cases h⟩
theorem xf_RX7_173 : ∃ (C : String) (T : u_T) (N : Nat), (vwCl : List vw_C)[2]? = some (C, T, N) ∧ 3 < N ∧ Cond.fieldLink RX7 173 (T 3).1 (T 3).2.1 (T 3).2.2.1 ∈ x_bw := ⟨RX2, TX2, 15, rfl, x_ab rfl, (x_bw_in (x_t1 (i := 78) rfl) rfl)⟩
theorem xp_RX7_173 : ∀ y : MethodName, ∃ (C : String) (T : u_T) (N : Nat), (vwCl : List vw_C)[2]? = some (C, T, N) ∧ 3 < N ∧ Cond.fieldLink RX7 173 (T 3).1 (T 3).2.1 (T 3).2.2.1 ∈ x_bw ∧ ((T 3).2.2.2 = true → (y : MethodName).name = "<init>" ∧ (T 3).1 = RX7) := fun y => ⟨RX2, TX2, 15, rfl, x_ab rfl, (x_bw_in (x_t1 (i := 78) rfl) rfl), fun h => by cases h⟩
theorem xf_RX7_176 : ∃ (C : String) (T : u_T) (N : Nat), (vwCl : List vw_C)[2]? = some (C, T, N) ∧ 4 < N ∧ Cond.fieldLink RX7 176 (T 4).1 (T 4).2.1 (T 4).2.2.1 ∈ x_bw := ⟨RX2, TX2, 15, rfl, x_ab rfl, (x_bw_in (x_t1 (i := 81) rfl) rfl)⟩
theorem xp_RX7_176 : ∀ y : MethodName, ∃ (C : String) (T : u_T) (N : Nat), (vwCl : List vw_C)[2]? = some (C, T, N) ∧ 4 < N ∧ Cond.fieldLink RX7 176 (T 4).1 (T 4).2.1 (T 4).2.2.1 ∈ x_bw ∧ ((T 4).2.2.2 = true → (y : MethodName).name = "<init>" ∧ (T 4).1 = RX7) := fun y => ⟨RX2, TX2, 15, rfl, x_ab rfl, (x_bw_in (x_t1 (i := 81) rfl) rfl), fun h => by cases h⟩
theorem xf_RX7_179 : ∃ (C : String) (T : u_T) (N : Nat), (vwCl : List vw_C)[2]? = some (C, T, N) ∧ 5 < N ∧ Cond.fieldLink RX7 179 (T 5).1 (T 5).2.1 (T 5).2.2.1 ∈ x_bw := ⟨RX2, TX2, 15, rfl, x_ab rfl, (x_bw_in (x_t1 (i := 85) rfl) rfl)⟩
theorem xp_RX7_179 : ∀ y : MethodName, ∃ (C : String) (T : u_T) (N : Nat), (vwCl : List vw_C)[2]? = some (C, T, N) ∧ 5 < N ∧ Cond.fieldLink RX7 179 (T 5).1 (T 5).2.1 (T 5).2.2.1 ∈ x_bw ∧ ((T 5).2.2.2 = true → (y : MethodName).name = "<init>" ∧ (T 5).1 = RX7) := fun y => ⟨RX2, TX2, 15, rfl, x_ab rfl, (x_bw_in (x_t1 (i := 85) rfl) rfl), fun h => by cases h⟩
theorem xD_24 : (parseMethodDescriptor "(II)V").map (fun d => d.parameters.length) = some 2 := by decide +kernel
theorem xk_RX7_182 : x_okK RX7 182 23 2 x_mt false false := ⟨M_cX2_setStay, (x_g16 (x_g4 (x_g1 (x_g1 (x_g1 x_g0))))), (x_bw_in (x_t3 (i := 118) rfl) rfl), rfl, (fun h => by cases h), (fun _ => by decide +kernel), xD_24⟩
theorem xf_RX7_186 : ∃ (C : String) (T : u_T) (N : Nat), (vwCl : List vw_C)[2]? = some (C, T, N) ∧ 6 < N ∧ Cond.fieldLink RX7 186 (T 6).1 (T 6).2.1 (T 6).2.2.1 ∈ x_bw := ⟨RX2, TX2, 15, rfl, x_ab rfl, (x_bw_in (x_t1 (i := 88) rfl) rfl)⟩
theorem xp_RX7_186 : ∀ y : MethodName, ∃ (C : String) (T : u_T) (N : Nat), (vwCl : List vw_C)[2]? = some (C, T, N) ∧ 6 < N ∧ Cond.fieldLink RX7 186 (T 6).1 (T 6).2.1 (T 6).2.2.1 ∈ x_bw ∧ ((T 6).2.2.2 = true → (y : MethodName).name = "<init>" ∧ (T 6).1 = RX7) := fun y => ⟨RX2, TX2, 15, rfl, x_ab rfl, (x_bw_in (x_t1 (i := 88) rfl) rfl), fun h => by cases h⟩
theorem xk_RX7_189 : x_okK RX7 189 32 3 x_mt false false := ⟨M_cX3_add, (x_g16 (x_g16 x_g0)), (x_bw_in (x_t3 (i := 122) rfl) rfl), rfl, (fun h => by cases h), (fun _ => by decide +kernel), xD_0⟩
theorem xk_RX7_193 : x_okK RX7 193 85 0 x_mt false false := ⟨M_cX7_addPlayer, (x_g16 (x_g16 (x_g16 (x_g16 (x_g16 (x_g4 (x_g1 x_g0))))))), (x_bw_in (x_t3 (i := 126) rfl) rfl), rfl, (fun h => by cases h), (fun _ => by decide +kernel), xD_8⟩
theorem xf_RX7_196 : ∃ (C : String) (T : u_T) (N : Nat), (vwCl : List vw_C)[2]? = some (C, T, N) ∧ 8 < N ∧ Cond.fieldLink RX7 196 (T 8).1 (T 8).2.1 (T 8).2.2.1 ∈ x_bw := ⟨RX2, TX2, 15, rfl, x_ab rfl, (x_bw_in (x_t1 (i := 93) rfl) rfl)⟩
theorem xp_RX7_196 : ∀ y : MethodName, ∃ (C : String) (T : u_T) (N : Nat), (vwCl : List vw_C)[2]? = some (C, T, N) ∧ 8 < N ∧ Cond.fieldLink RX7 196 (T 8).1 (T 8).2.1 (T 8).2.2.1 ∈ x_bw ∧ ((T 8).2.2.2 = true → (y : MethodName).name = "<init>" ∧ (T 8).1 = RX7) := fun y => ⟨RX2, TX2, 15, rfl, x_ab rfl, (x_bw_in (x_t1 (i := 93) rfl) rfl), fun h => by cases h⟩
theorem xf_RX7_199 : ∃ (C : String) (T : u_T) (N : Nat), (vwCl : List vw_C)[2]? = some (C, T, N) ∧ 9 < N ∧ Cond.fieldLink RX7 199 (T 9).1 (T 9).2.1 (T 9).2.2.1 ∈ x_bw := ⟨RX2, TX2, 15, rfl, x_ab rfl, (x_bw_in (x_t1 (i := 96) rfl) rfl)⟩
theorem xp_RX7_199 : ∀ y : MethodName, ∃ (C : String) (T : u_T) (N : Nat), (vwCl : List vw_C)[2]? = some (C, T, N) ∧ 9 < N ∧ Cond.fieldLink RX7 199 (T 9).1 (T 9).2.1 (T 9).2.2.1 ∈ x_bw ∧ ((T 9).2.2.2 = true → (y : MethodName).name = "<init>" ∧ (T 9).1 = RX7) := fun y => ⟨RX2, TX2, 15, rfl, x_ab rfl, (x_bw_in (x_t1 (i := 96) rfl) rfl), fun h => by cases h⟩
theorem xk_RX7_202 : x_okK RX7 202 25 3 x_mt false false := ⟨M_cX2_setTrait, (x_g16 (x_g4 (x_g4 (x_g1 x_g0)))), (x_bw_in (x_t3 (i := 130) rfl) rfl), rfl, (fun h => by cases h), (fun _ => by decide +kernel), xD_0⟩
theorem xp_RX7_132 : ∀ y : MethodName, ∃ (C : String) (T : u_T) (N : Nat), (vwCl : List vw_C)[2]? = some (C, T, N) ∧ 7 < N ∧ Cond.fieldLink RX7 132 (T 7).1 (T 7).2.1 (T 7).2.2.1 ∈ x_bw ∧ ((T 7).2.2.2 = true → (y : MethodName).name = "<init>" ∧ (T 7).1 = RX7) := fun y => ⟨RX2, TX2, 15, rfl, x_ab rfl, (x_bw_in (x_t1 (i := 91) rfl) rfl), fun h => by cases h⟩
theorem xp_RX7_109 : ∀ y : MethodName, ∃ (C : String) (T : u_T) (N : Nat), (vwCl : List vw_C)[7]? = some (C, T, N) ∧ 6 < N ∧ Cond.fieldLink RX7 109 (T 6).1 (T 6).2.1 (T 6).2.2.1 ∈ x_bw ∧ ((T 6).2.2.2 = true → (y : MethodName).name = "<init>" ∧ (T 6).1 = RX7) := fun y => ⟨RX7, TX7, 9, rfl, x_ab rfl, (x_bw_in (x_t1 (i := 173) rfl) rfl), fun h => by cases h⟩
theorem xf_RX7_205 : ∃ (C : String) (T : u_T) (N : Nat), (vwCl : List vw_C)[10]? = some (C, T, N) ∧ 0 < N ∧ Cond.fieldLink RX7 205 (T 0).1 (T 0).2.1 (T 0).2.2.1 ∈ x_bw := ⟨RX10, TX10, 2, rfl, x_ab rfl, (x_bw_in (x_t1 (i := 155) rfl) rfl)⟩
theorem xk_RX7_206 : x_okK RX7 206 87 1 x_mt false true := ⟨M_cX7_isBlank, (x_g16 (x_g16 (x_g16 (x_g16 (x_g16 (x_g4 (x_g1 (x_g1 (x_g1 x_g0))))))))), (x_bw_in (x_t2 (i := 206) rfl) rfl), rfl, (fun h => by cases h), (fun _ => by decide +kernel), xD_7⟩
theorem xp_RX7_100 : ∀ y : MethodName, ∃ (C : String) (T : u_T) (N : Nat), (vwCl : List vw_C)[7]? = some (C, T, N) ∧ 8 < N ∧ Cond.fieldLink RX7 100 (T 8).1 (T 8).2.1 (T 8).2.2.1 ∈ x_bw ∧ ((T 8).2.2.2 = true → (y : MethodName).name = "<init>" ∧ (T 8).1 = RX7) := fun y => ⟨RX7, TX7, 9, rfl, x_ab rfl, (x_bw_in (x_t1 (i := 175) rfl) rfl), fun h => by cases h⟩
theorem xp_RX7_45 : ∀ y : MethodName, ∃ (C : String) (T : u_T) (N : Nat), (vwCl : List vw_C)[7]? = some (C, T, N) ∧ 5 < N ∧ Cond.fieldLink RX7 45 (T 5).1 (T 5).2.1 (T 5).2.2.1 ∈ x_bw ∧ ((T 5).2.2.2 = true → (y : MethodName).name = "<init>" ∧ (T 5).1 = RX7) := fun y => ⟨RX7, TX7, 9, rfl, x_ab rfl, (x_bw_in (x_t1 (i := 172) rfl) rfl), fun h => by cases h⟩
theorem xk_RX7_209 : x_okK RX7 209 88 1 x_mt false true := ⟨M_cX7_isLetter, (x_g16 (x_g16 (x_g16 (x_g16 (x_g16 (x_g4 (x_g4 x_g0))))))), (x_bw_in (x_t2 (i := 209) rfl) rfl), rfl, (fun h => by cases h), (fun _ => by decide +kernel), xD_7⟩
theorem xk_RX7_212 : x_okK RX7 212 89 1 x_mt false true := ⟨M_cX7_isDigit, (x_g16 (x_g16 (x_g16 (x_g16 (x_g16 (x_g4 (x_g4 (x_g1 x_g0)))))))), (x_bw_in (x_t2 (i := 212) rfl) rfl), rfl, (fun h => by cases h), (fun _ => by decide +kernel), xD_7⟩
theorem xc_RX7_215 : Cond.constant RX7 215 (Int32.ofNat 1000000) ∈ x_bw := (x_bw_in (x_t2 (i := 215) (by decide +kernel)) rfl)
theorem xo_RX7_216 : Cond.methodLink RX7 216 Lib.Math.min.name ∈ x_bw := (x_bw_in (x_t2 (i := 216) rfl) rfl)
theorem xo_RX8_3 : Cond.methodLink RX8 3 Lib.objectInit ∈ x_bw := (x_bw_in (x_t2 (i := 118) rfl) rfl)
theorem xf_RX8_9 : ∃ (C : String) (T : u_T) (N : Nat), (vwCl : List vw_C)[8]? = some (C, T, N) ∧ 0 < N ∧ Cond.fieldLink RX8 9 (T 0).1 (T 0).2.1 (T 0).2.2.1 ∈ x_bw := ⟨RX8, TX8, 3, rfl, x_ab rfl, (x_bw_in (x_t2 (i := 119) rfl) rfl)⟩
theorem xp_RX8_9 : ∀ y : MethodName, ∃ (C : String) (T : u_T) (N : Nat), (vwCl : List vw_C)[8]? = some (C, T, N) ∧ 0 < N ∧ Cond.fieldLink RX8 9 (T 0).1 (T 0).2.1 (T 0).2.2.1 ∈ x_bw ∧ ((T 0).2.2.2 = true → (y : MethodName).name = "<init>" ∧ (T 0).1 = RX8) := fun y => ⟨RX8, TX8, 3, rfl, x_ab rfl, (x_bw_in (x_t2 (i := 119) rfl) rfl), fun h => by cases h⟩
theorem xf_RX8_15 : ∃ (C : String) (T : u_T) (N : Nat), (vwCl : List vw_C)[8]? = some (C, T, N) ∧ 2 < N ∧ Cond.fieldLink RX8 15 (T 2).1 (T 2).2.1 (T 2).2.2.1 ∈ x_bw := ⟨RX8, TX8, 3, rfl, x_ab rfl, (x_bw_in (x_t2 (i := 125) rfl) rfl)⟩
theorem xp_RX8_15_cX8_init : ∃ (C : String) (T : u_T) (N : Nat), (vwCl : List vw_C)[8]? = some (C, T, N) ∧ 2 < N ∧ Cond.fieldLink RX8 15 (T 2).1 (T 2).2.1 (T 2).2.2.1 ∈ x_bw ∧ ((T 2).2.2.2 = true → (yX8_init).name = "<init>" ∧ (T 2).1 = RX8) := ⟨RX8, TX8, 3, rfl, x_ab rfl, (x_bw_in (x_t2 (i := 125) rfl) rfl), fun _ => ⟨rfl, rfl⟩⟩
theorem xf_RX8_19 : ∃ (C : String) (T : u_T) (N : Nat), (vwCl : List vw_C)[8]? = some (C, T, N) ∧ 1 < N ∧ Cond.fieldLink RX8 19 (T 1).1 (T 1).2.1 (T 1).2.2.1 ∈ x_bw := ⟨RX8, TX8, 3, rfl, x_ab rfl, (x_bw_in (x_t2 (i := 123) rfl) rfl)⟩
theorem xp_RX8_19 : ∀ y : MethodName, ∃ (C : String) (T : u_T) (N : Nat), (vwCl : List vw_C)[8]? = some (C, T, N) ∧ 1 < N ∧ Cond.fieldLink RX8 19 (T 1).1 (T 1).2.1 (T 1).2.2.1 ∈ x_bw ∧ ((T 1).2.2.2 = true → (y : MethodName).name = "<init>" ∧ (T 1).1 = RX8) := fun y => ⟨RX8, TX8, 3, rfl, x_ab rfl, (x_bw_in (x_t2 (i := 123) rfl) rfl), fun h => by cases h⟩
theorem xk_RX8_22 : x_okK RX8 22 96 1 x_mt false false := ⟨M_cX8_isPeriod, (x_g16 (x_g16 (x_g16 (x_g16 (x_g16 (x_g16 x_g0)))))), (x_bw_in (x_t5 (i := 69) rfl) rfl), rfl, (fun h => by cases h), (fun _ => by decide +kernel), xD_7⟩
theorem xo_RX9_3 : Cond.methodLink RX9 3 Lib.objectInit ∈ x_bw := (x_bw_in (x_t2 (i := 33) rfl) rfl)
theorem xf_RX9_9 : ∃ (C : String) (T : u_T) (N : Nat), (vwCl : List vw_C)[9]? = some (C, T, N) ∧ 2 < N ∧ Cond.fieldLink RX9 9 (T 2).1 (T 2).2.1 (T 2).2.2.1 ∈ x_bw := ⟨RX9, TX9, 9, rfl, x_ab rfl, (x_bw_in (x_t2 (i := 38) rfl) rfl)⟩
theorem xp_RX9_9_cX9_init : ∃ (C : String) (T : u_T) (N : Nat), (vwCl : List vw_C)[9]? = some (C, T, N) ∧ 2 < N ∧ Cond.fieldLink RX9 9 (T 2).1 (T 2).2.1 (T 2).2.2.1 ∈ x_bw ∧ ((T 2).2.2.2 = true → (yX9_init).name = "<init>" ∧ (T 2).1 = RX9) := ⟨RX9, TX9, 9, rfl, x_ab rfl, (x_bw_in (x_t2 (i := 38) rfl) rfl), fun _ => ⟨rfl, rfl⟩⟩
theorem xf_RX9_15 : ∃ (C : String) (T : u_T) (N : Nat), (vwCl : List vw_C)[9]? = some (C, T, N) ∧ 3 < N ∧ Cond.fieldLink RX9 15 (T 3).1 (T 3).2.1 (T 3).2.2.1 ∈ x_bw := ⟨RX9, TX9, 9, rfl, x_ab rfl, (x_bw_in (x_t2 (i := 40) rfl) rfl)⟩
theorem xp_RX9_15_cX9_init : ∃ (C : String) (T : u_T) (N : Nat), (vwCl : List vw_C)[9]? = some (C, T, N) ∧ 3 < N ∧ Cond.fieldLink RX9 15 (T 3).1 (T 3).2.1 (T 3).2.2.1 ∈ x_bw ∧ ((T 3).2.2.2 = true → (yX9_init).name = "<init>" ∧ (T 3).1 = RX9) := ⟨RX9, TX9, 9, rfl, x_ab rfl, (x_bw_in (x_t2 (i := 40) rfl) rfl), fun _ => ⟨rfl, rfl⟩⟩
theorem xf_RX9_18 : ∃ (C : String) (T : u_T) (N : Nat), (vwCl : List vw_C)[9]? = some (C, T, N) ∧ 5 < N ∧ Cond.fieldLink RX9 18 (T 5).1 (T 5).2.1 (T 5).2.2.1 ∈ x_bw := ⟨RX9, TX9, 9, rfl, x_ab rfl, (x_bw_in (x_t2 (i := 43) rfl) rfl)⟩
theorem xp_RX9_18_cX9_init : ∃ (C : String) (T : u_T) (N : Nat), (vwCl : List vw_C)[9]? = some (C, T, N) ∧ 5 < N ∧ Cond.fieldLink RX9 18 (T 5).1 (T 5).2.1 (T 5).2.2.1 ∈ x_bw ∧ ((T 5).2.2.2 = true → (yX9_init).name = "<init>" ∧ (T 5).1 = RX9) := ⟨RX9, TX9, 9, rfl, x_ab rfl, (x_bw_in (x_t2 (i := 43) rfl) rfl), fun _ => ⟨rfl, rfl⟩⟩
theorem xf_RX9_21 : ∃ (C : String) (T : u_T) (N : Nat), (vwCl : List vw_C)[9]? = some (C, T, N) ∧ 6 < N ∧ Cond.fieldLink RX9 21 (T 6).1 (T 6).2.1 (T 6).2.2.1 ∈ x_bw := ⟨RX9, TX9, 9, rfl, x_ab rfl, (x_bw_in (x_t2 (i := 44) rfl) rfl)⟩
theorem xp_RX9_21_cX9_init : ∃ (C : String) (T : u_T) (N : Nat), (vwCl : List vw_C)[9]? = some (C, T, N) ∧ 6 < N ∧ Cond.fieldLink RX9 21 (T 6).1 (T 6).2.1 (T 6).2.2.1 ∈ x_bw ∧ ((T 6).2.2.2 = true → (yX9_init).name = "<init>" ∧ (T 6).1 = RX9) := ⟨RX9, TX9, 9, rfl, x_ab rfl, (x_bw_in (x_t2 (i := 44) rfl) rfl), fun _ => ⟨rfl, rfl⟩⟩
theorem xD_25 : (parseMethodDescriptor "(LMoleBoard$Game;LMoleBoard$Player;)V").map (fun d => d.parameters.length) = some 2 := by decide +kernel
theorem xk_RX9_24 : x_okK RX9 24 102 2 x_mt false false := ⟨M_cX9_begin, (x_g16 (x_g16 (x_g16 (x_g16 (x_g16 (x_g16 (x_g4 (x_g1 (x_g1 x_g0))))))))), (x_bw_in (x_t4 (i := 54) rfl) rfl), rfl, (fun h => by cases h), (fun _ => by decide +kernel), xD_25⟩
theorem xf_RX9_28 : ∃ (C : String) (T : u_T) (N : Nat), (vwCl : List vw_C)[4]? = some (C, T, N) ∧ 0 < N ∧ Cond.fieldLink RX9 28 (T 0).1 (T 0).2.1 (T 0).2.2.1 ∈ x_bw := ⟨RX4, TX4, 7, rfl, x_ab rfl, (x_bw_in (x_t1 (i := 202) rfl) rfl)⟩
theorem xf_RX9_34 : ∃ (C : String) (T : u_T) (N : Nat), (vwCl : List vw_C)[4]? = some (C, T, N) ∧ 3 < N ∧ Cond.fieldLink RX9 34 (T 3).1 (T 3).2.1 (T 3).2.2.1 ∈ x_bw := ⟨RX4, TX4, 7, rfl, x_ab rfl, (x_bw_in (x_t1 (i := 215) rfl) rfl)⟩
theorem xD_26 : (parseMethodDescriptor "(LMoleBoard$Board;LMoleBoard$Game;LMoleBoard$Player;II)V").map (fun d => d.parameters.length) = some 5 := by decide +kernel
theorem xk_RX9_37 : x_okK RX9 37 103 5 x_mt false false := ⟨M_cX9_goFor, (x_g16 (x_g16 (x_g16 (x_g16 (x_g16 (x_g16 (x_g4 (x_g1 (x_g1 (x_g1 x_g0)))))))))), (x_bw_in (x_t4 (i := 58) rfl) rfl), rfl, (fun h => by cases h), (fun _ => by decide +kernel), xD_26⟩
theorem xf_RX9_41 : ∃ (C : String) (T : u_T) (N : Nat), (vwCl : List vw_C)[9]? = some (C, T, N) ∧ 0 < N ∧ Cond.fieldLink RX9 41 (T 0).1 (T 0).2.1 (T 0).2.2.1 ∈ x_bw := ⟨RX9, TX9, 9, rfl, x_ab rfl, (x_bw_in (x_t2 (i := 34) rfl) rfl)⟩
theorem xf_RX9_44 : ∃ (C : String) (T : u_T) (N : Nat), (vwCl : List vw_C)[9]? = some (C, T, N) ∧ 4 < N ∧ Cond.fieldLink RX9 44 (T 4).1 (T 4).2.1 (T 4).2.2.1 ∈ x_bw := ⟨RX9, TX9, 9, rfl, x_ab rfl, (x_bw_in (x_t2 (i := 42) rfl) rfl)⟩
theorem xp_RX9_44 : ∀ y : MethodName, ∃ (C : String) (T : u_T) (N : Nat), (vwCl : List vw_C)[9]? = some (C, T, N) ∧ 4 < N ∧ Cond.fieldLink RX9 44 (T 4).1 (T 4).2.1 (T 4).2.2.1 ∈ x_bw ∧ ((T 4).2.2.2 = true → (y : MethodName).name = "<init>" ∧ (T 4).1 = RX9) := fun y => ⟨RX9, TX9, 9, rfl, x_ab rfl, (x_bw_in (x_t2 (i := 42) rfl) rfl), fun h => by cases h⟩
theorem xp_RX9_41 : ∀ y : MethodName, ∃ (C : String) (T : u_T) (N : Nat), (vwCl : List vw_C)[9]? = some (C, T, N) ∧ 0 < N ∧ Cond.fieldLink RX9 41 (T 0).1 (T 0).2.1 (T 0).2.2.1 ∈ x_bw ∧ ((T 0).2.2.2 = true → (y : MethodName).name = "<init>" ∧ (T 0).1 = RX9) := fun y => ⟨RX9, TX9, 9, rfl, x_ab rfl, (x_bw_in (x_t2 (i := 34) rfl) rfl), fun h => by cases h⟩
theorem xf_RX9_47 : ∃ (C : String) (T : u_T) (N : Nat), (vwCl : List vw_C)[9]? = some (C, T, N) ∧ 1 < N ∧ Cond.fieldLink RX9 47 (T 1).1 (T 1).2.1 (T 1).2.2.1 ∈ x_bw := ⟨RX9, TX9, 9, rfl, x_ab rfl, (x_bw_in (x_t2 (i := 36) rfl) rfl)⟩
theorem xp_RX9_47 : ∀ y : MethodName, ∃ (C : String) (T : u_T) (N : Nat), (vwCl : List vw_C)[9]? = some (C, T, N) ∧ 1 < N ∧ Cond.fieldLink RX9 47 (T 1).1 (T 1).2.1 (T 1).2.2.1 ∈ x_bw ∧ ((T 1).2.2.2 = true → (y : MethodName).name = "<init>" ∧ (T 1).1 = RX9) := fun y => ⟨RX9, TX9, 9, rfl, x_ab rfl, (x_bw_in (x_t2 (i := 36) rfl) rfl), fun h => by cases h⟩
theorem xf_RX9_50 : ∃ (C : String) (T : u_T) (N : Nat), (vwCl : List vw_C)[9]? = some (C, T, N) ∧ 8 < N ∧ Cond.fieldLink RX9 50 (T 8).1 (T 8).2.1 (T 8).2.2.1 ∈ x_bw := ⟨RX9, TX9, 9, rfl, x_ab rfl, (x_bw_in (x_t2 (i := 46) rfl) rfl)⟩
theorem xp_RX9_50 : ∀ y : MethodName, ∃ (C : String) (T : u_T) (N : Nat), (vwCl : List vw_C)[9]? = some (C, T, N) ∧ 8 < N ∧ Cond.fieldLink RX9 50 (T 8).1 (T 8).2.1 (T 8).2.2.1 ∈ x_bw ∧ ((T 8).2.2.2 = true → (y : MethodName).name = "<init>" ∧ (T 8).1 = RX9) := fun y => ⟨RX9, TX9, 9, rfl, x_ab rfl, (x_bw_in (x_t2 (i := 46) rfl) rfl), fun h => by cases h⟩
theorem xf_RX9_53 : ∃ (C : String) (T : u_T) (N : Nat), (vwCl : List vw_C)[6]? = some (C, T, N) ∧ 4 < N ∧ Cond.fieldLink RX9 53 (T 4).1 (T 4).2.1 (T 4).2.2.1 ∈ x_bw := ⟨RX6, TX6, 5, rfl, x_ab rfl, (x_bw_in (x_t2 (i := 15) rfl) rfl)⟩
theorem xf_RX9_58 : ∃ (C : String) (T : u_T) (N : Nat), (vwCl : List vw_C)[9]? = some (C, T, N) ∧ 7 < N ∧ Cond.fieldLink RX9 58 (T 7).1 (T 7).2.1 (T 7).2.2.1 ∈ x_bw := ⟨RX9, TX9, 9, rfl, x_ab rfl, (x_bw_in (x_t2 (i := 45) rfl) rfl)⟩
theorem xp_RX9_58 : ∀ y : MethodName, ∃ (C : String) (T : u_T) (N : Nat), (vwCl : List vw_C)[9]? = some (C, T, N) ∧ 7 < N ∧ Cond.fieldLink RX9 58 (T 7).1 (T 7).2.1 (T 7).2.2.1 ∈ x_bw ∧ ((T 7).2.2.2 = true → (y : MethodName).name = "<init>" ∧ (T 7).1 = RX9) := fun y => ⟨RX9, TX9, 9, rfl, x_ab rfl, (x_bw_in (x_t2 (i := 45) rfl) rfl), fun h => by cases h⟩
theorem xf_RX9_61 : ∃ (C : String) (T : u_T) (N : Nat), (vwCl : List vw_C)[4]? = some (C, T, N) ∧ 1 < N ∧ Cond.fieldLink RX9 61 (T 1).1 (T 1).2.1 (T 1).2.2.1 ∈ x_bw := ⟨RX4, TX4, 7, rfl, x_ab rfl, (x_bw_in (x_t1 (i := 208) rfl) rfl)⟩
theorem xk_RX9_64 : x_okK RX9 64 104 2 x_mt false true := ⟨M_cX9_among, (x_g16 (x_g16 (x_g16 (x_g16 (x_g16 (x_g16 (x_g4 (x_g4 x_g0)))))))), (x_bw_in (x_t4 (i := 62) rfl) rfl), rfl, (fun h => by cases h), (fun _ => by decide +kernel), xD_3⟩
theorem xf_RX9_68 : ∃ (C : String) (T : u_T) (N : Nat), (vwCl : List vw_C)[4]? = some (C, T, N) ∧ 2 < N ∧ Cond.fieldLink RX9 68 (T 2).1 (T 2).2.1 (T 2).2.2.1 ∈ x_bw := ⟨RX4, TX4, 7, rfl, x_ab rfl, (x_bw_in (x_t1 (i := 212) rfl) rfl)⟩
theorem xk_RX9_71 : x_okK RX9 71 18 2 x_mt false false := ⟨M_cX2_apart, (x_g16 (x_g1 (x_g1 x_g0))), (x_bw_in (x_t4 (i := 65) rfl) rfl), rfl, (fun h => by cases h), (fun _ => by decide +kernel), xD_3⟩
theorem xD_27 : (parseMethodDescriptor "(LMoleBoard$Board;LMoleBoard$Game;LMoleBoard$Player;II)Z").map (fun d => d.parameters.length) = some 5 := by decide +kernel
theorem xk_RX9_76 : x_okK RX9 76 105 5 x_mt false false := ⟨M_cX9_strike, (x_g16 (x_g16 (x_g16 (x_g16 (x_g16 (x_g16 (x_g4 (x_g4 (x_g1 x_g0))))))))), (x_bw_in (x_t4 (i := 66) rfl) rfl), rfl, (fun h => by cases h), (fun _ => by decide +kernel), xD_27⟩
theorem xD_28 : (parseMethodDescriptor "(LMoleBoard$Game;I)I").map (fun d => d.parameters.length) = some 2 := by decide +kernel
theorem xk_RX9_80 : x_okK RX9 80 66 2 x_mt false false := ⟨M_cX6_awareOf, (x_g16 (x_g16 (x_g16 (x_g16 (x_g1 (x_g1 x_g0)))))), (x_bw_in (x_t4 (i := 70) rfl) rfl), rfl, (fun h => by cases h), (fun _ => by decide +kernel), xD_28⟩
theorem xo_RX9_84 : Cond.methodLink RX9 84 Lib.Math.max.name ∈ x_bw := (x_bw_in (x_t4 (i := 71) rfl) rfl)
theorem xk_RX9_89 : x_okK RX9 89 67 4 x_mt false false := ⟨M_cX6_there, (x_g16 (x_g16 (x_g16 (x_g16 (x_g1 (x_g1 (x_g1 x_g0))))))), (x_bw_in (x_t4 (i := 74) rfl) rfl), rfl, (fun h => by cases h), (fun _ => by decide +kernel), xD_4⟩
theorem xk_RX9_93 : x_okK RX9 93 52 2 x_mt false false := ⟨M_cX4_strike, (x_g16 (x_g16 (x_g16 (x_g4 x_g0)))), (x_bw_in (x_t4 (i := 80) rfl) rfl), rfl, (fun h => by cases h), (fun _ => by decide +kernel), xD_3⟩
theorem xk_RX9_95 : x_okK RX9 95 49 1 x_mt false false := ⟨M_cX4_holesOf, (x_g16 (x_g16 (x_g16 (x_g1 x_g0)))), (x_bw_in (x_t4 (i := 109) rfl) rfl), rfl, (fun h => by cases h), (fun _ => by decide +kernel), xD_6⟩
theorem xk_RX9_99 : x_okK RX9 99 356 1 x_mt false true := ⟨M_cJ6_bitCount_0f7a4, (x_g16 (x_g16 (x_g16 (x_g16 (x_g16 (x_g16 (x_g16 (x_g16 (x_g16 (x_g16 (x_g16 (x_g16 (x_g16 (x_g16 (x_g16 (x_g16 (x_g16 (x_g16 (x_g16 (x_g16 (x_g16 (x_g16 (x_g4 x_g0))))))))))))))))))))))), (x_bw_in (x_t4 (i := 110) rfl) rfl), rfl, (fun h => by cases h), (fun _ => by decide +kernel), xD_6⟩
theorem xo_RX10_3 : Cond.methodLink RX10 3 Lib.objectInit ∈ x_bw := (x_bw_in (x_t1 (i := 152) rfl) rfl)
theorem xn_byte : Cond.arrayClass (newarray.typeOf .byte) ∈ x_bw := (x_bw_in (x_t1 (i := 162) rfl) rfl)
theorem xf_RX10_9 : ∃ (C : String) (T : u_T) (N : Nat), (vwCl : List vw_C)[10]? = some (C, T, N) ∧ 1 < N ∧ Cond.fieldLink RX10 9 (T 1).1 (T 1).2.1 (T 1).2.2.1 ∈ x_bw := ⟨RX10, TX10, 2, rfl, x_ab rfl, (x_bw_in (x_t1 (i := 156) rfl) rfl)⟩
theorem xp_RX10_9_cX10_init : ∃ (C : String) (T : u_T) (N : Nat), (vwCl : List vw_C)[10]? = some (C, T, N) ∧ 1 < N ∧ Cond.fieldLink RX10 9 (T 1).1 (T 1).2.1 (T 1).2.2.1 ∈ x_bw ∧ ((T 1).2.2.2 = true → (yX10_init).name = "<init>" ∧ (T 1).1 = RX10) := ⟨RX10, TX10, 2, rfl, x_ab rfl, (x_bw_in (x_t1 (i := 156) rfl) rfl), fun _ => ⟨rfl, rfl⟩⟩
theorem xf_RX10_15 : ∃ (C : String) (T : u_T) (N : Nat), (vwCl : List vw_C)[10]? = some (C, T, N) ∧ 0 < N ∧ Cond.fieldLink RX10 15 (T 0).1 (T 0).2.1 (T 0).2.2.1 ∈ x_bw := ⟨RX10, TX10, 2, rfl, x_ab rfl, (x_bw_in (x_t1 (i := 154) rfl) rfl)⟩
theorem xp_RX10_15 : ∀ y : MethodName, ∃ (C : String) (T : u_T) (N : Nat), (vwCl : List vw_C)[10]? = some (C, T, N) ∧ 0 < N ∧ Cond.fieldLink RX10 15 (T 0).1 (T 0).2.1 (T 0).2.2.1 ∈ x_bw ∧ ((T 0).2.2.2 = true → (y : MethodName).name = "<init>" ∧ (T 0).1 = RX10) := fun y => ⟨RX10, TX10, 2, rfl, x_ab rfl, (x_bw_in (x_t1 (i := 154) rfl) rfl), fun h => by cases h⟩
theorem xo_RX11_1 : Cond.methodLink RX11 1 Lib.objectInit ∈ x_bw := (x_bw_in (x_t1 (i := 26) rfl) rfl)
theorem xw_RX11_7 : ∃ (C : String) (T : u_T), (vwCl : List vw_C)[2]? = some (C, T, 15) ∧ Cond.classLink RX11 7 C ∈ x_bw := ⟨RX2, TX2, rfl, (x_bw_in (x_t1 (i := 29) rfl) rfl)⟩
theorem xk_RX11_9 : x_okK RX11 9 8 0 x_mt true false := ⟨M_cX2_init, (x_g4 (x_g4 x_g0)), (x_bw_in (x_t1 (i := 31) rfl) rfl), rfl, fun _ => ⟨rfl, rfl⟩, (fun h => by cases h), xD_8⟩
theorem xf_RX11_10 : ∃ (C : String) (T : u_T) (N : Nat), (vwCl : List vw_C)[11]? = some (C, T, N) ∧ 0 < N ∧ Cond.fieldLink RX11 10 (T 0).1 (T 0).2.1 (T 0).2.2.1 ∈ x_bw := ⟨RX11, TX11, 11, rfl, x_ab rfl, (x_bw_in (x_t2 (i := 136) rfl) rfl)⟩
theorem xp_RX11_10_cX11_init : ∃ (C : String) (T : u_T) (N : Nat), (vwCl : List vw_C)[11]? = some (C, T, N) ∧ 0 < N ∧ Cond.fieldLink RX11 10 (T 0).1 (T 0).2.1 (T 0).2.2.1 ∈ x_bw ∧ ((T 0).2.2.2 = true → (yX11_init).name = "<init>" ∧ (T 0).1 = RX11) := ⟨RX11, TX11, 11, rfl, x_ab rfl, (x_bw_in (x_t2 (i := 136) rfl) rfl), fun _ => ⟨rfl, rfl⟩⟩
theorem xq_RX11_7 : ∃ (C : String) (T : u_T) (N : Nat), (vwCl : List vw_C)[2]? = some (C, T, N) ∧ Cond.classLink RX11 7 C ∈ x_bw ∧ C ∈ x_ao := ⟨RX2, TX2, 15, rfl, (x_bw_in (x_t1 (i := 29) rfl) rfl), by decide +kernel⟩
theorem xf_RX11_16 : ∃ (C : String) (T : u_T) (N : Nat), (vwCl : List vw_C)[11]? = some (C, T, N) ∧ 1 < N ∧ Cond.fieldLink RX11 16 (T 1).1 (T 1).2.1 (T 1).2.2.1 ∈ x_bw := ⟨RX11, TX11, 11, rfl, x_ab rfl, (x_bw_in (x_t2 (i := 137) rfl) rfl)⟩
theorem xp_RX11_16_cX11_init : ∃ (C : String) (T : u_T) (N : Nat), (vwCl : List vw_C)[11]? = some (C, T, N) ∧ 1 < N ∧ Cond.fieldLink RX11 16 (T 1).1 (T 1).2.1 (T 1).2.2.1 ∈ x_bw ∧ ((T 1).2.2.2 = true → (yX11_init).name = "<init>" ∧ (T 1).1 = RX11) := ⟨RX11, TX11, 11, rfl, x_ab rfl, (x_bw_in (x_t2 (i := 137) rfl) rfl), fun _ => ⟨rfl, rfl⟩⟩
theorem xw_RX11_20 : ∃ (C : String) (T : u_T), (vwCl : List vw_C)[7]? = some (C, T, 9) ∧ Cond.classLink RX11 20 C ∈ x_bw := ⟨RX7, TX7, rfl, (x_bw_in (x_t1 (i := 139) rfl) rfl)⟩
theorem xk_RX11_22 : x_okK RX11 22 69 0 x_mt true false := ⟨M_cX7_init, (x_g16 (x_g16 (x_g16 (x_g16 (x_g4 (x_g1 x_g0)))))), (x_bw_in (x_t1 (i := 141) rfl) rfl), rfl, fun _ => ⟨rfl, rfl⟩, (fun h => by cases h), xD_8⟩
theorem xf_RX11_23 : ∃ (C : String) (T : u_T) (N : Nat), (vwCl : List vw_C)[11]? = some (C, T, N) ∧ 2 < N ∧ Cond.fieldLink RX11 23 (T 2).1 (T 2).2.1 (T 2).2.2.1 ∈ x_bw := ⟨RX11, TX11, 11, rfl, x_ab rfl, (x_bw_in (x_t2 (i := 138) rfl) rfl)⟩
theorem xp_RX11_23_cX11_init : ∃ (C : String) (T : u_T) (N : Nat), (vwCl : List vw_C)[11]? = some (C, T, N) ∧ 2 < N ∧ Cond.fieldLink RX11 23 (T 2).1 (T 2).2.1 (T 2).2.2.1 ∈ x_bw ∧ ((T 2).2.2.2 = true → (yX11_init).name = "<init>" ∧ (T 2).1 = RX11) := ⟨RX11, TX11, 11, rfl, x_ab rfl, (x_bw_in (x_t2 (i := 138) rfl) rfl), fun _ => ⟨rfl, rfl⟩⟩
theorem xw_RX11_27 : ∃ (C : String) (T : u_T), (vwCl : List vw_C)[4]? = some (C, T, 7) ∧ Cond.classLink RX11 27 C ∈ x_bw := ⟨RX4, TX4, rfl, (x_bw_in (x_t1 (i := 195) rfl) rfl)⟩
theorem xk_RX11_29 : x_okK RX11 29 40 0 x_mt true false := ⟨M_cX4_init, (x_g16 (x_g16 (x_g4 (x_g4 x_g0)))), (x_bw_in (x_t1 (i := 197) rfl) rfl), rfl, fun _ => ⟨rfl, rfl⟩, (fun h => by cases h), xD_8⟩
theorem xf_RX11_30 : ∃ (C : String) (T : u_T) (N : Nat), (vwCl : List vw_C)[11]? = some (C, T, N) ∧ 3 < N ∧ Cond.fieldLink RX11 30 (T 3).1 (T 3).2.1 (T 3).2.2.1 ∈ x_bw := ⟨RX11, TX11, 11, rfl, x_ab rfl, (x_bw_in (x_t2 (i := 139) rfl) rfl)⟩
theorem xp_RX11_30_cX11_init : ∃ (C : String) (T : u_T) (N : Nat), (vwCl : List vw_C)[11]? = some (C, T, N) ∧ 3 < N ∧ Cond.fieldLink RX11 30 (T 3).1 (T 3).2.1 (T 3).2.2.1 ∈ x_bw ∧ ((T 3).2.2.2 = true → (yX11_init).name = "<init>" ∧ (T 3).1 = RX11) := ⟨RX11, TX11, 11, rfl, x_ab rfl, (x_bw_in (x_t2 (i := 139) rfl) rfl), fun _ => ⟨rfl, rfl⟩⟩
theorem xw_RX11_34 : ∃ (C : String) (T : u_T), (vwCl : List vw_C)[6]? = some (C, T, 5) ∧ Cond.classLink RX11 34 C ∈ x_bw := ⟨RX6, TX6, rfl, (x_bw_in (x_t2 (i := 1) rfl) rfl)⟩
theorem xk_RX11_36 : x_okK RX11 36 63 0 x_mt true false := ⟨M_cX6_init, (x_g16 (x_g16 (x_g16 (x_g4 (x_g4 (x_g4 (x_g1 (x_g1 (x_g1 x_g0))))))))), (x_bw_in (x_t2 (i := 3) rfl) rfl), rfl, fun _ => ⟨rfl, rfl⟩, (fun h => by cases h), xD_8⟩
theorem xf_RX11_37 : ∃ (C : String) (T : u_T) (N : Nat), (vwCl : List vw_C)[11]? = some (C, T, N) ∧ 4 < N ∧ Cond.fieldLink RX11 37 (T 4).1 (T 4).2.1 (T 4).2.2.1 ∈ x_bw := ⟨RX11, TX11, 11, rfl, x_ab rfl, (x_bw_in (x_t2 (i := 140) rfl) rfl)⟩
theorem xp_RX11_37_cX11_init : ∃ (C : String) (T : u_T) (N : Nat), (vwCl : List vw_C)[11]? = some (C, T, N) ∧ 4 < N ∧ Cond.fieldLink RX11 37 (T 4).1 (T 4).2.1 (T 4).2.2.1 ∈ x_bw ∧ ((T 4).2.2.2 = true → (yX11_init).name = "<init>" ∧ (T 4).1 = RX11) := ⟨RX11, TX11, 11, rfl, x_ab rfl, (x_bw_in (x_t2 (i := 140) rfl) rfl), fun _ => ⟨rfl, rfl⟩⟩
theorem xf_RX11_41 : ∃ (C : String) (T : u_T) (N : Nat), (vwCl : List vw_C)[11]? = some (C, T, N) ∧ 5 < N ∧ Cond.fieldLink RX11 41 (T 5).1 (T 5).2.1 (T 5).2.2.1 ∈ x_bw := ⟨RX11, TX11, 11, rfl, x_ab rfl, (x_bw_in (x_t2 (i := 141) rfl) rfl)⟩
theorem xp_RX11_41_cX11_init : ∃ (C : String) (T : u_T) (N : Nat), (vwCl : List vw_C)[11]? = some (C, T, N) ∧ 5 < N ∧ Cond.fieldLink RX11 41 (T 5).1 (T 5).2.1 (T 5).2.2.1 ∈ x_bw ∧ ((T 5).2.2.2 = true → (yX11_init).name = "<init>" ∧ (T 5).1 = RX11) := ⟨RX11, TX11, 11, rfl, x_ab rfl, (x_bw_in (x_t2 (i := 141) rfl) rfl), fun _ => ⟨rfl, rfl⟩⟩
theorem xw_RX11_44 : ∃ (C : String) (T : u_T), (vwCl : List vw_C)[9]? = some (C, T, 9) ∧ Cond.classLink RX11 44 C ∈ x_bw := ⟨RX9, TX9, rfl, (x_bw_in (x_t2 (i := 28) rfl) rfl)⟩
theorem xk_RX11_46 : x_okK RX11 46 99 0 x_mt true false := ⟨M_cX9_init, (x_g16 (x_g16 (x_g16 (x_g16 (x_g16 (x_g16 (x_g1 (x_g1 (x_g1 x_g0))))))))), (x_bw_in (x_t2 (i := 30) rfl) rfl), rfl, fun _ => ⟨rfl, rfl⟩, (fun h => by cases h), xD_8⟩
theorem xf_RX11_47 : ∃ (C : String) (T : u_T) (N : Nat), (vwCl : List vw_C)[11]? = some (C, T, N) ∧ 6 < N ∧ Cond.fieldLink RX11 47 (T 6).1 (T 6).2.1 (T 6).2.2.1 ∈ x_bw := ⟨RX11, TX11, 11, rfl, x_ab rfl, (x_bw_in (x_t2 (i := 142) rfl) rfl)⟩
theorem xp_RX11_47_cX11_init : ∃ (C : String) (T : u_T) (N : Nat), (vwCl : List vw_C)[11]? = some (C, T, N) ∧ 6 < N ∧ Cond.fieldLink RX11 47 (T 6).1 (T 6).2.1 (T 6).2.2.1 ∈ x_bw ∧ ((T 6).2.2.2 = true → (yX11_init).name = "<init>" ∧ (T 6).1 = RX11) := ⟨RX11, TX11, 11, rfl, x_ab rfl, (x_bw_in (x_t2 (i := 142) rfl) rfl), fun _ => ⟨rfl, rfl⟩⟩
theorem xw_RX11_51 : ∃ (C : String) (T : u_T), (vwCl : List vw_C)[0]? = some (C, T, 1) ∧ Cond.classLink RX11 51 C ∈ x_bw := ⟨RX0, TX0, rfl, (x_bw_in (x_t2 (i := 66) rfl) rfl)⟩
theorem xk_RX11_53 : x_okK RX11 53 0 0 x_mt true false := ⟨M_cX0_init, x_g0, (x_bw_in (x_t2 (i := 68) rfl) rfl), rfl, fun _ => ⟨rfl, rfl⟩, (fun h => by cases h), xD_8⟩
theorem xf_RX11_54 : ∃ (C : String) (T : u_T) (N : Nat), (vwCl : List vw_C)[11]? = some (C, T, N) ∧ 7 < N ∧ Cond.fieldLink RX11 54 (T 7).1 (T 7).2.1 (T 7).2.2.1 ∈ x_bw := ⟨RX11, TX11, 11, rfl, x_ab rfl, (x_bw_in (x_t2 (i := 143) rfl) rfl)⟩
theorem xp_RX11_54_cX11_init : ∃ (C : String) (T : u_T) (N : Nat), (vwCl : List vw_C)[11]? = some (C, T, N) ∧ 7 < N ∧ Cond.fieldLink RX11 54 (T 7).1 (T 7).2.1 (T 7).2.2.1 ∈ x_bw ∧ ((T 7).2.2.2 = true → (yX11_init).name = "<init>" ∧ (T 7).1 = RX11) := ⟨RX11, TX11, 11, rfl, x_ab rfl, (x_bw_in (x_t2 (i := 143) rfl) rfl), fun _ => ⟨rfl, rfl⟩⟩
theorem xw_RX11_58 : ∃ (C : String) (T : u_T), (vwCl : List vw_C)[5]? = some (C, T, 2) ∧ Cond.classLink RX11 58 C ∈ x_bw := ⟨RX5, TX5, rfl, (x_bw_in (x_t2 (i := 76) rfl) rfl)⟩
theorem xk_RX11_60 : x_okK RX11 60 53 0 x_mt true false := ⟨M_cX5_init, (x_g16 (x_g16 (x_g16 (x_g4 (x_g1 x_g0))))), (x_bw_in (x_t2 (i := 78) rfl) rfl), rfl, fun _ => ⟨rfl, rfl⟩, (fun h => by cases h), xD_8⟩
theorem xf_RX11_61 : ∃ (C : String) (T : u_T) (N : Nat), (vwCl : List vw_C)[11]? = some (C, T, N) ∧ 8 < N ∧ Cond.fieldLink RX11 61 (T 8).1 (T 8).2.1 (T 8).2.2.1 ∈ x_bw := ⟨RX11, TX11, 11, rfl, x_ab rfl, (x_bw_in (x_t2 (i := 144) rfl) rfl)⟩
theorem xp_RX11_61_cX11_init : ∃ (C : String) (T : u_T) (N : Nat), (vwCl : List vw_C)[11]? = some (C, T, N) ∧ 8 < N ∧ Cond.fieldLink RX11 61 (T 8).1 (T 8).2.1 (T 8).2.2.1 ∈ x_bw ∧ ((T 8).2.2.2 = true → (yX11_init).name = "<init>" ∧ (T 8).1 = RX11) := ⟨RX11, TX11, 11, rfl, x_ab rfl, (x_bw_in (x_t2 (i := 144) rfl) rfl), fun _ => ⟨rfl, rfl⟩⟩
theorem xw_RX11_65 : ∃ (C : String) (T : u_T), (vwCl : List vw_C)[1]? = some (C, T, 4) ∧ Cond.classLink RX11 65 C ∈ x_bw := ⟨RX1, TX1, rfl, (x_bw_in (x_t2 (i := 90) rfl) rfl)⟩
theorem xk_RX11_67 : x_okK RX11 67 5 0 x_mt true false := ⟨M_cX1_init, (x_g4 (x_g1 x_g0)), (x_bw_in (x_t2 (i := 92) rfl) rfl), rfl, fun _ => ⟨rfl, rfl⟩, (fun h => by cases h), xD_8⟩
theorem xf_RX11_68 : ∃ (C : String) (T : u_T) (N : Nat), (vwCl : List vw_C)[11]? = some (C, T, N) ∧ 9 < N ∧ Cond.fieldLink RX11 68 (T 9).1 (T 9).2.1 (T 9).2.2.1 ∈ x_bw := ⟨RX11, TX11, 11, rfl, x_ab rfl, (x_bw_in (x_t2 (i := 145) rfl) rfl)⟩
theorem xp_RX11_68_cX11_init : ∃ (C : String) (T : u_T) (N : Nat), (vwCl : List vw_C)[11]? = some (C, T, N) ∧ 9 < N ∧ Cond.fieldLink RX11 68 (T 9).1 (T 9).2.1 (T 9).2.2.1 ∈ x_bw ∧ ((T 9).2.2.2 = true → (yX11_init).name = "<init>" ∧ (T 9).1 = RX11) := ⟨RX11, TX11, 11, rfl, x_ab rfl, (x_bw_in (x_t2 (i := 145) rfl) rfl), fun _ => ⟨rfl, rfl⟩⟩
theorem xq_RX11_72 : ∃ (C : String) (T : u_T) (N : Nat), (vwCl : List vw_C)[8]? = some (C, T, N) ∧ Cond.classLink RX11 72 C ∈ x_bw ∧ C ∈ x_ao := ⟨RX8, TX8, 3, rfl, (x_bw_in (x_t2 (i := 112) rfl) rfl), by decide +kernel⟩
theorem xf_RX11_74 : ∃ (C : String) (T : u_T) (N : Nat), (vwCl : List vw_C)[11]? = some (C, T, N) ∧ 10 < N ∧ Cond.fieldLink RX11 74 (T 10).1 (T 10).2.1 (T 10).2.2.1 ∈ x_bw := ⟨RX11, TX11, 11, rfl, x_ab rfl, (x_bw_in (x_t2 (i := 146) rfl) rfl)⟩
theorem xp_RX11_74_cX11_init : ∃ (C : String) (T : u_T) (N : Nat), (vwCl : List vw_C)[11]? = some (C, T, N) ∧ 10 < N ∧ Cond.fieldLink RX11 74 (T 10).1 (T 10).2.1 (T 10).2.2.1 ∈ x_bw ∧ ((T 10).2.2.2 = true → (yX11_init).name = "<init>" ∧ (T 10).1 = RX11) := ⟨RX11, TX11, 11, rfl, x_ab rfl, (x_bw_in (x_t2 (i := 146) rfl) rfl), fun _ => ⟨rfl, rfl⟩⟩
theorem xw_RX11_72 : ∃ (C : String) (T : u_T), (vwCl : List vw_C)[8]? = some (C, T, 3) ∧ Cond.classLink RX11 72 C ∈ x_bw := ⟨RX8, TX8, rfl, (x_bw_in (x_t2 (i := 112) rfl) rfl)⟩
theorem xk_RX11_78 : x_okK RX11 78 90 0 x_mt true false := ⟨M_cX8_init, (x_g16 (x_g16 (x_g16 (x_g16 (x_g16 (x_g4 (x_g4 (x_g1 (x_g1 x_g0))))))))), (x_bw_in (x_t2 (i := 115) rfl) rfl), rfl, fun _ => ⟨rfl, rfl⟩, (fun h => by cases h), xD_8⟩
theorem xf_RX11_79 : ∃ (C : String) (T : u_T) (N : Nat), (vwCl : List vw_C)[7]? = some (C, T, N) ∧ 3 < N ∧ Cond.fieldLink RX11 79 (T 3).1 (T 3).2.1 (T 3).2.2.1 ∈ x_bw := ⟨RX7, TX7, 9, rfl, x_ab rfl, (x_bw_in (x_t1 (i := 170) rfl) rfl)⟩
theorem xf_RX11_83 : ∃ (C : String) (T : u_T) (N : Nat), (vwCl : List vw_C)[10]? = some (C, T, N) ∧ 0 < N ∧ Cond.fieldLink RX11 83 (T 0).1 (T 0).2.1 (T 0).2.2.1 ∈ x_bw := ⟨RX10, TX10, 2, rfl, x_ab rfl, (x_bw_in (x_t1 (i := 153) rfl) rfl)⟩
theorem xk_RX11_89 : x_okK RX11 89 109 1 x_mt false false := ⟨M_cX10_put, (x_g16 (x_g16 (x_g16 (x_g16 (x_g16 (x_g16 (x_g4 (x_g4 (x_g4 (x_g1 x_g0)))))))))), (x_bw_in (x_t2 (i := 174) rfl) rfl), rfl, (fun h => by cases h), (fun _ => by decide +kernel), xD_18⟩
theorem xp_RX11_83 : ∀ y : MethodName, ∃ (C : String) (T : u_T) (N : Nat), (vwCl : List vw_C)[10]? = some (C, T, N) ∧ 0 < N ∧ Cond.fieldLink RX11 83 (T 0).1 (T 0).2.1 (T 0).2.2.1 ∈ x_bw ∧ ((T 0).2.2.2 = true → (y : MethodName).name = "<init>" ∧ (T 0).1 = RX11) := fun y => ⟨RX10, TX10, 2, rfl, x_ab rfl, (x_bw_in (x_t1 (i := 153) rfl) rfl), fun h => by cases h⟩
theorem xk_RX11_93 : x_okK RX11 93 70 0 x_mt false false := ⟨M_cX7_readAll, (x_g16 (x_g16 (x_g16 (x_g16 (x_g4 (x_g1 (x_g1 x_g0))))))), (x_bw_in (x_t2 (i := 186) rfl) rfl), rfl, (fun h => by cases h), (fun _ => by decide +kernel), xD_22⟩
theorem xf_RX11_97 : ∃ (C : String) (T : u_T) (N : Nat), (vwCl : List vw_C)[7]? = some (C, T, N) ∧ 0 < N ∧ Cond.fieldLink RX11 97 (T 0).1 (T 0).2.1 (T 0).2.2.1 ∈ x_bw := ⟨RX7, TX7, 9, rfl, x_ab rfl, (x_bw_in (x_t1 (i := 164) rfl) rfl)⟩
theorem xD_29 : (parseMethodDescriptor "(LMoleBoard$Board;)V").map (fun d => d.parameters.length) = some 1 := by decide +kernel
theorem xk_RX11_100 : x_okK RX11 100 10 1 x_mt false false := ⟨M_cX2_copy, (x_g4 (x_g4 (x_g1 (x_g1 x_g0)))), (x_bw_in (x_t3 (i := 134) rfl) rfl), rfl, (fun h => by cases h), (fun _ => by decide +kernel), xD_29⟩
theorem xf_RX11_104 : ∃ (C : String) (T : u_T) (N : Nat), (vwCl : List vw_C)[2]? = some (C, T, N) ∧ 1 < N ∧ Cond.fieldLink RX11 104 (T 1).1 (T 1).2.1 (T 1).2.2.1 ∈ x_bw := ⟨RX2, TX2, 15, rfl, x_ab rfl, (x_bw_in (x_t1 (i := 71) rfl) rfl)⟩
theorem xf_RX11_107 : ∃ (C : String) (T : u_T) (N : Nat), (vwCl : List vw_C)[7]? = some (C, T, N) ∧ 1 < N ∧ Cond.fieldLink RX11 107 (T 1).1 (T 1).2.1 (T 1).2.2.1 ∈ x_bw := ⟨RX7, TX7, 9, rfl, x_ab rfl, (x_bw_in (x_t1 (i := 166) rfl) rfl)⟩
theorem xf_RX11_110 : ∃ (C : String) (T : u_T) (N : Nat), (vwCl : List vw_C)[7]? = some (C, T, N) ∧ 2 < N ∧ Cond.fieldLink RX11 110 (T 2).1 (T 2).2.1 (T 2).2.2.1 ∈ x_bw := ⟨RX7, TX7, 9, rfl, x_ab rfl, (x_bw_in (x_t1 (i := 168) rfl) rfl)⟩
theorem xf_RX11_113 : ∃ (C : String) (T : u_T) (N : Nat), (vwCl : List vw_C)[2]? = some (C, T, N) ∧ 14 < N ∧ Cond.fieldLink RX11 113 (T 14).1 (T 14).2.1 (T 14).2.2.1 ∈ x_bw := ⟨RX2, TX2, 15, rfl, x_ab rfl, (x_bw_in (x_t1 (i := 105) rfl) rfl)⟩
theorem xk_RX11_117 : x_okK RX11 117 31 1 x_mt false false := ⟨M_cX3_has, (x_g16 (x_g4 (x_g4 (x_g4 (x_g1 (x_g1 (x_g1 x_g0))))))), (x_bw_in (x_t3 (i := 154) rfl) rfl), rfl, (fun h => by cases h), (fun _ => by decide +kernel), xD_7⟩
theorem xf_RX11_123 : ∃ (C : String) (T : u_T) (N : Nat), (vwCl : List vw_C)[3]? = some (C, T, N) ∧ 2 < N ∧ Cond.fieldLink RX11 123 (T 2).1 (T 2).2.1 (T 2).2.2.1 ∈ x_bw := ⟨RX3, TX3, 5, rfl, x_ab rfl, (x_bw_in (x_t1 (i := 50) rfl) rfl)⟩
theorem xf_RX11_127 : ∃ (C : String) (T : u_T) (N : Nat), (vwCl : List vw_C)[3]? = some (C, T, N) ∧ 3 < N ∧ Cond.fieldLink RX11 127 (T 3).1 (T 3).2.1 (T 3).2.2.1 ∈ x_bw := ⟨RX3, TX3, 5, rfl, x_ab rfl, (x_bw_in (x_t1 (i := 53) rfl) rfl)⟩
theorem xf_RX11_130 : ∃ (C : String) (T : u_T) (N : Nat), (vwCl : List vw_C)[3]? = some (C, T, N) ∧ 4 < N ∧ Cond.fieldLink RX11 130 (T 4).1 (T 4).2.1 (T 4).2.2.1 ∈ x_bw := ⟨RX3, TX3, 5, rfl, x_ab rfl, (x_bw_in (x_t1 (i := 56) rfl) rfl)⟩
theorem xk_RX11_133 : x_okK RX11 133 15 1 x_mt false false := ⟨M_cX2_isPlayer, (x_g4 (x_g4 (x_g4 (x_g1 (x_g1 (x_g1 x_g0)))))), (x_bw_in (x_t3 (i := 162) rfl) rfl), rfl, (fun h => by cases h), (fun _ => by decide +kernel), xD_7⟩
theorem xk_RX11_136 : x_okK RX11 136 24 2 x_mt false false := ⟨M_cX2_trait, (x_g16 (x_g4 (x_g4 x_g0))), (x_bw_in (x_t3 (i := 166) rfl) rfl), rfl, (fun h => by cases h), (fun _ => by decide +kernel), xD_3⟩
theorem xk_RX11_140 : x_okK RX11 140 14 1 x_mt false false := ⟨M_cX2_isTick, (x_g4 (x_g4 (x_g4 (x_g1 (x_g1 x_g0))))), (x_bw_in (x_t3 (i := 174) rfl) rfl), rfl, (fun h => by cases h), (fun _ => by decide +kernel), xD_7⟩
theorem xk_RX11_143 : x_okK RX11 143 21 1 x_mt false false := ⟨M_cX2_stayIn, (x_g16 (x_g4 (x_g1 x_g0))), (x_bw_in (x_t3 (i := 175) rfl) rfl), rfl, (fun h => by cases h), (fun _ => by decide +kernel), xD_6⟩
theorem xf_RX11_147 : ∃ (C : String) (T : u_T) (N : Nat), (vwCl : List vw_C)[2]? = some (C, T, N) ∧ 2 < N ∧ Cond.fieldLink RX11 147 (T 2).1 (T 2).2.1 (T 2).2.2.1 ∈ x_bw := ⟨RX2, TX2, 15, rfl, x_ab rfl, (x_bw_in (x_t1 (i := 74) rfl) rfl)⟩
theorem xf_RX11_150 : ∃ (C : String) (T : u_T) (N : Nat), (vwCl : List vw_C)[2]? = some (C, T, N) ∧ 3 < N ∧ Cond.fieldLink RX11 150 (T 3).1 (T 3).2.1 (T 3).2.2.1 ∈ x_bw := ⟨RX2, TX2, 15, rfl, x_ab rfl, (x_bw_in (x_t1 (i := 77) rfl) rfl)⟩
theorem xf_RX11_153 : ∃ (C : String) (T : u_T) (N : Nat), (vwCl : List vw_C)[2]? = some (C, T, N) ∧ 4 < N ∧ Cond.fieldLink RX11 153 (T 4).1 (T 4).2.1 (T 4).2.2.1 ∈ x_bw := ⟨RX2, TX2, 15, rfl, x_ab rfl, (x_bw_in (x_t1 (i := 80) rfl) rfl)⟩
theorem xf_RX11_156 : ∃ (C : String) (T : u_T) (N : Nat), (vwCl : List vw_C)[2]? = some (C, T, N) ∧ 5 < N ∧ Cond.fieldLink RX11 156 (T 5).1 (T 5).2.1 (T 5).2.2.1 ∈ x_bw := ⟨RX2, TX2, 15, rfl, x_ab rfl, (x_bw_in (x_t1 (i := 84) rfl) rfl)⟩
theorem xf_RX11_159 : ∃ (C : String) (T : u_T) (N : Nat), (vwCl : List vw_C)[3]? = some (C, T, N) ∧ 0 < N ∧ Cond.fieldLink RX11 159 (T 0).1 (T 0).2.1 (T 0).2.2.1 ∈ x_bw := ⟨RX3, TX3, 5, rfl, x_ab rfl, (x_bw_in (x_t1 (i := 43) rfl) rfl)⟩
theorem xf_RX11_160 : ∃ (C : String) (T : u_T) (N : Nat), (vwCl : List vw_C)[2]? = some (C, T, N) ∧ 7 < N ∧ Cond.fieldLink RX11 160 (T 7).1 (T 7).2.1 (T 7).2.2.1 ∈ x_bw := ⟨RX2, TX2, 15, rfl, x_ab rfl, (x_bw_in (x_t1 (i := 90) rfl) rfl)⟩
theorem xf_RX11_163 : ∃ (C : String) (T : u_T) (N : Nat), (vwCl : List vw_C)[2]? = some (C, T, N) ∧ 6 < N ∧ Cond.fieldLink RX11 163 (T 6).1 (T 6).2.1 (T 6).2.2.1 ∈ x_bw := ⟨RX2, TX2, 15, rfl, x_ab rfl, (x_bw_in (x_t1 (i := 87) rfl) rfl)⟩
theorem xf_RX11_166 : ∃ (C : String) (T : u_T) (N : Nat), (vwCl : List vw_C)[3]? = some (C, T, N) ∧ 1 < N ∧ Cond.fieldLink RX11 166 (T 1).1 (T 1).2.1 (T 1).2.2.1 ∈ x_bw := ⟨RX3, TX3, 5, rfl, x_ab rfl, (x_bw_in (x_t1 (i := 47) rfl) rfl)⟩
theorem xk_RX11_169 : x_okK RX11 169 185 0 x_mt false false := ⟨M_cX11_rowsKept, (x_g16 (x_g16 (x_g16 (x_g16 (x_g16 (x_g16 (x_g16 (x_g16 (x_g16 (x_g16 (x_g16 (x_g4 (x_g4 (x_g1 x_g0)))))))))))))), (x_bw_in (x_t3 (i := 183) rfl) rfl), rfl, (fun h => by cases h), (fun _ => by decide +kernel), xD_2⟩
theorem xk_RX11_173 : x_okK RX11 173 11 0 x_mt false false := ⟨M_cX2_isTold, (x_g4 (x_g4 (x_g1 (x_g1 (x_g1 x_g0))))), (x_bw_in (x_t3 (i := 195) rfl) rfl), rfl, (fun h => by cases h), (fun _ => by decide +kernel), xD_22⟩
theorem xD_30 : (parseMethodDescriptor "(LMoleBoard$Board;I)V").map (fun d => d.parameters.length) = some 2 := by decide +kernel
theorem xk_RX11_176 : x_okK RX11 176 42 2 x_mt false false := ⟨M_cX4_deal, (x_g16 (x_g16 (x_g4 (x_g4 (x_g1 (x_g1 x_g0)))))), (x_bw_in (x_t3 (i := 199) rfl) rfl), rfl, (fun h => by cases h), (fun _ => by decide +kernel), xD_30⟩
theorem xf_RX11_180 : ∃ (C : String) (T : u_T) (N : Nat), (vwCl : List vw_C)[4]? = some (C, T, N) ∧ 0 < N ∧ Cond.fieldLink RX11 180 (T 0).1 (T 0).2.1 (T 0).2.2.1 ∈ x_bw := ⟨RX4, TX4, 7, rfl, x_ab rfl, (x_bw_in (x_t1 (i := 205) rfl) rfl)⟩
theorem xk_RX11_181 : x_okK RX11 181 41 1 x_mt false false := ⟨M_cX4_has, (x_g16 (x_g16 (x_g4 (x_g4 (x_g1 x_g0))))), (x_bw_in (x_t3 (i := 222) rfl) rfl), rfl, (fun h => by cases h), (fun _ => by decide +kernel), xD_7⟩
theorem xf_RX11_182 : ∃ (C : String) (T : u_T) (N : Nat), (vwCl : List vw_C)[4]? = some (C, T, N) ∧ 1 < N ∧ Cond.fieldLink RX11 182 (T 1).1 (T 1).2.1 (T 1).2.2.1 ∈ x_bw := ⟨RX4, TX4, 7, rfl, x_ab rfl, (x_bw_in (x_t1 (i := 209) rfl) rfl)⟩
theorem xf_RX11_183 : ∃ (C : String) (T : u_T) (N : Nat), (vwCl : List vw_C)[4]? = some (C, T, N) ∧ 2 < N ∧ Cond.fieldLink RX11 183 (T 2).1 (T 2).2.1 (T 2).2.2.1 ∈ x_bw := ⟨RX4, TX4, 7, rfl, x_ab rfl, (x_bw_in (x_t1 (i := 213) rfl) rfl)⟩
theorem xf_RX11_184 : ∃ (C : String) (T : u_T) (N : Nat), (vwCl : List vw_C)[4]? = some (C, T, N) ∧ 3 < N ∧ Cond.fieldLink RX11 184 (T 3).1 (T 3).2.1 (T 3).2.2.1 ∈ x_bw := ⟨RX4, TX4, 7, rfl, x_ab rfl, (x_bw_in (x_t1 (i := 218) rfl) rfl)⟩
theorem xf_RX11_185 : ∃ (C : String) (T : u_T) (N : Nat), (vwCl : List vw_C)[4]? = some (C, T, N) ∧ 4 < N ∧ Cond.fieldLink RX11 185 (T 4).1 (T 4).2.1 (T 4).2.2.1 ∈ x_bw := ⟨RX4, TX4, 7, rfl, x_ab rfl, (x_bw_in (x_t1 (i := 222) rfl) rfl)⟩
theorem xf_RX11_188 : ∃ (C : String) (T : u_T) (N : Nat), (vwCl : List vw_C)[4]? = some (C, T, N) ∧ 5 < N ∧ Cond.fieldLink RX11 188 (T 5).1 (T 5).2.1 (T 5).2.2.1 ∈ x_bw := ⟨RX4, TX4, 7, rfl, x_ab rfl, (x_bw_in (x_t1 (i := 224) rfl) rfl)⟩
theorem xk_RX11_191 : x_okK RX11 191 48 1 x_mt false false := ⟨M_cX4_upIn, (x_g16 (x_g16 (x_g16 x_g0))), (x_bw_in (x_t3 (i := 230) rfl) rfl), rfl, (fun h => by cases h), (fun _ => by decide +kernel), xD_6⟩
theorem xk_RX11_194 : x_okK RX11 194 49 1 x_mt false false := ⟨M_cX4_holesOf, (x_g16 (x_g16 (x_g16 (x_g1 x_g0)))), (x_bw_in (x_t3 (i := 234) rfl) rfl), rfl, (fun h => by cases h), (fun _ => by decide +kernel), xD_6⟩
theorem xk_RX11_197 : x_okK RX11 197 13 1 x_mt false false := ⟨M_cX2_isHole, (x_g4 (x_g4 (x_g4 (x_g1 x_g0)))), (x_bw_in (x_t4 (i := 7) rfl) rfl), rfl, (fun h => by cases h), (fun _ => by decide +kernel), xD_7⟩
theorem xk_RX11_200 : x_okK RX11 200 18 2 x_mt false false := ⟨M_cX2_apart, (x_g16 (x_g1 (x_g1 x_g0))), (x_bw_in (x_t4 (i := 8) rfl) rfl), rfl, (fun h => by cases h), (fun _ => by decide +kernel), xD_3⟩
theorem xk_RX11_203 : x_okK RX11 203 64 2 x_mt false false := ⟨M_cX6_take, (x_g16 (x_g16 (x_g16 (x_g16 x_g0)))), (x_bw_in (x_t4 (i := 19) rfl) rfl), rfl, (fun h => by cases h), (fun _ => by decide +kernel), xD_30⟩
theorem xk_RX11_206 : x_okK RX11 206 65 1 x_mt false false := ⟨M_cX6_paceIn, (x_g16 (x_g16 (x_g16 (x_g16 (x_g1 x_g0))))), (x_bw_in (x_t4 (i := 24) rfl) rfl), rfl, (fun h => by cases h), (fun _ => by decide +kernel), xD_6⟩
theorem xk_RX11_209 : x_okK RX11 209 186 1 x_mt false false := ⟨M_cX11_makeReady, (x_g16 (x_g16 (x_g16 (x_g16 (x_g16 (x_g16 (x_g16 (x_g16 (x_g16 (x_g16 (x_g16 (x_g4 (x_g4 (x_g1 (x_g1 x_g0))))))))))))))), (x_bw_in (x_t4 (i := 32) rfl) rfl), rfl, (fun h => by cases h), (fun _ => by decide +kernel), xD_7⟩
theorem xk_RX11_212 : x_okK RX11 212 66 2 x_mt false false := ⟨M_cX6_awareOf, (x_g16 (x_g16 (x_g16 (x_g16 (x_g1 (x_g1 x_g0)))))), (x_bw_in (x_t4 (i := 36) rfl) rfl), rfl, (fun h => by cases h), (fun _ => by decide +kernel), xD_28⟩
theorem xk_RX11_216 : x_okK RX11 216 187 1 x_mt false false := ⟨M_cX11_runOf, (x_g16 (x_g16 (x_g16 (x_g16 (x_g16 (x_g16 (x_g16 (x_g16 (x_g16 (x_g16 (x_g16 (x_g4 (x_g4 (x_g1 (x_g1 (x_g1 x_g0)))))))))))))))), (x_bw_in (x_t4 (i := 46) rfl) rfl), rfl, (fun h => by cases h), (fun _ => by decide +kernel), xD_7⟩
theorem xf_RX11_219 : ∃ (C : String) (T : u_T) (N : Nat), (vwCl : List vw_C)[9]? = some (C, T, N) ∧ 0 < N ∧ Cond.fieldLink RX11 219 (T 0).1 (T 0).2.1 (T 0).2.2.1 ∈ x_bw := ⟨RX9, TX9, 9, rfl, x_ab rfl, (x_bw_in (x_t2 (i := 35) rfl) rfl)⟩
theorem xf_RX11_222 : ∃ (C : String) (T : u_T) (N : Nat), (vwCl : List vw_C)[9]? = some (C, T, N) ∧ 2 < N ∧ Cond.fieldLink RX11 222 (T 2).1 (T 2).2.1 (T 2).2.2.1 ∈ x_bw := ⟨RX9, TX9, 9, rfl, x_ab rfl, (x_bw_in (x_t2 (i := 39) rfl) rfl)⟩
theorem xf_RX11_225 : ∃ (C : String) (T : u_T) (N : Nat), (vwCl : List vw_C)[9]? = some (C, T, N) ∧ 3 < N ∧ Cond.fieldLink RX11 225 (T 3).1 (T 3).2.1 (T 3).2.2.1 ∈ x_bw := ⟨RX9, TX9, 9, rfl, x_ab rfl, (x_bw_in (x_t2 (i := 41) rfl) rfl)⟩
theorem xf_RX11_228 : ∃ (C : String) (T : u_T) (N : Nat), (vwCl : List vw_C)[6]? = some (C, T, N) ∧ 4 < N ∧ Cond.fieldLink RX11 228 (T 4).1 (T 4).2.1 (T 4).2.2.1 ∈ x_bw := ⟨RX6, TX6, 5, rfl, x_ab rfl, (x_bw_in (x_t2 (i := 16) rfl) rfl)⟩
theorem xk_RX11_231 : x_okK RX11 231 106 2 x_mt false false := ⟨M_cX9_holeBehind, (x_g16 (x_g16 (x_g16 (x_g16 (x_g16 (x_g16 (x_g4 (x_g4 (x_g1 (x_g1 x_g0)))))))))), (x_bw_in (x_t4 (i := 97) rfl) rfl), rfl, (fun h => by cases h), (fun _ => by decide +kernel), xD_3⟩
theorem xD_31 : (parseMethodDescriptor "(LMoleBoard$Game;)I").map (fun d => d.parameters.length) = some 1 := by decide +kernel
theorem xk_RX11_234 : x_okK RX11 234 107 1 x_mt false false := ⟨M_cX9_firstMissed, (x_g16 (x_g16 (x_g16 (x_g16 (x_g16 (x_g16 (x_g4 (x_g4 (x_g1 (x_g1 (x_g1 x_g0))))))))))), (x_bw_in (x_t4 (i := 105) rfl) rfl), rfl, (fun h => by cases h), (fun _ => by decide +kernel), xD_31⟩
theorem xf_RX11_238 : ∃ (C : String) (T : u_T) (N : Nat), (vwCl : List vw_C)[9]? = some (C, T, N) ∧ 1 < N ∧ Cond.fieldLink RX11 238 (T 1).1 (T 1).2.1 (T 1).2.2.1 ∈ x_bw := ⟨RX9, TX9, 9, rfl, x_ab rfl, (x_bw_in (x_t2 (i := 37) rfl) rfl)⟩
theorem xk_RX11_241 : x_okK RX11 241 134 2 x_mt false false := ⟨M_cX11_ahead, (x_g16 (x_g16 (x_g16 (x_g16 (x_g16 (x_g16 (x_g16 (x_g16 (x_g4 (x_g1 (x_g1 x_g0))))))))))), (x_bw_in (x_t4 (i := 124) rfl) rfl), rfl, (fun h => by cases h), (fun _ => by decide +kernel), xD_3⟩
theorem xD_32 : (parseMethodDescriptor "(LMoleBoard$Board;LMoleBoard$Game;LMoleBoard$Player;I)I").map (fun d => d.parameters.length) = some 4 := by decide +kernel
theorem xk_RX11_244 : x_okK RX11 244 1 4 x_mt false false := ⟨M_cX0_most, (x_g1 x_g0), (x_bw_in (x_t4 (i := 128) rfl) rfl), rfl, (fun h => by cases h), (fun _ => by decide +kernel), xD_32⟩
theorem xk_RX11_248 : x_okK RX11 248 188 1 x_mt false false := ⟨M_cX11_hitsKnowing, (x_g16 (x_g16 (x_g16 (x_g16 (x_g16 (x_g16 (x_g16 (x_g16 (x_g16 (x_g16 (x_g16 (x_g4 (x_g4 (x_g4 x_g0)))))))))))))), (x_bw_in (x_t4 (i := 154) rfl) rfl), rfl, (fun h => by cases h), (fun _ => by decide +kernel), xD_6⟩
theorem xk_RX11_251 : x_okK RX11 251 12 0 x_mt false false := ⟨M_cX2_holes, (x_g4 (x_g4 (x_g4 x_g0))), (x_bw_in (x_t4 (i := 166) rfl) rfl), rfl, (fun h => by cases h), (fun _ => by decide +kernel), xD_2⟩
theorem xp_RX11_228 : ∀ y : MethodName, ∃ (C : String) (T : u_T) (N : Nat), (vwCl : List vw_C)[6]? = some (C, T, N) ∧ 4 < N ∧ Cond.fieldLink RX11 228 (T 4).1 (T 4).2.1 (T 4).2.2.1 ∈ x_bw ∧ ((T 4).2.2.2 = true → (y : MethodName).name = "<init>" ∧ (T 4).1 = RX11) := fun y => ⟨RX6, TX6, 5, rfl, x_ab rfl, (x_bw_in (x_t2 (i := 16) rfl) rfl), fun h => by cases h⟩
theorem xk_RX11_254 : x_okK RX11 254 100 4 x_mt false false := ⟨M_cX9_good, (x_g16 (x_g16 (x_g16 (x_g16 (x_g16 (x_g16 (x_g4 x_g0))))))), (x_bw_in (x_t4 (i := 50) rfl) rfl), rfl, (fun h => by cases h), (fun _ => by decide +kernel), xD_32⟩
theorem xk_RX11_257 : x_okK RX11 257 189 1 x_mt false false := ⟨M_cX11_hitsLagging, (x_g16 (x_g16 (x_g16 (x_g16 (x_g16 (x_g16 (x_g16 (x_g16 (x_g16 (x_g16 (x_g16 (x_g4 (x_g4 (x_g4 (x_g1 x_g0))))))))))))))), (x_bw_in (x_t4 (i := 171) rfl) rfl), rfl, (fun h => by cases h), (fun _ => by decide +kernel), xD_6⟩
theorem xk_RX11_260 : x_okK RX11 260 17 0 x_mt false false := ⟨M_cX2_openHoles, (x_g16 (x_g1 x_g0)), (x_bw_in (x_t4 (i := 183) rfl) rfl), rfl, (fun h => by cases h), (fun _ => by decide +kernel), xD_2⟩
theorem xk_RX11_263 : x_okK RX11 263 19 1 x_mt false false := ⟨M_cX2_stepsToAll, (x_g16 (x_g1 (x_g1 (x_g1 x_g0)))), (x_bw_in (x_t4 (i := 188) rfl) rfl), rfl, (fun h => by cases h), (fun _ => by decide +kernel), xD_6⟩
theorem xD_33 : (parseMethodDescriptor "(LMoleBoard$Board;I)I").map (fun d => d.parameters.length) = some 2 := by decide +kernel
theorem xk_RX11_266 : x_okK RX11 266 68 2 x_mt false false := ⟨M_cX6_reachFrom, (x_g16 (x_g16 (x_g16 (x_g16 (x_g4 x_g0))))), (x_bw_in (x_t4 (i := 202) rfl) rfl), rfl, (fun h => by cases h), (fun _ => by decide +kernel), xD_33⟩
theorem xk_RX11_270 : x_okK RX11 270 356 1 x_mt false true := ⟨M_cJ6_bitCount_0f7a4, (x_g16 (x_g16 (x_g16 (x_g16 (x_g16 (x_g16 (x_g16 (x_g16 (x_g16 (x_g16 (x_g16 (x_g16 (x_g16 (x_g16 (x_g16 (x_g16 (x_g16 (x_g16 (x_g16 (x_g16 (x_g16 (x_g16 (x_g4 x_g0))))))))))))))))))))))), (x_bw_in (x_t4 (i := 214) rfl) rfl), rfl, (fun h => by cases h), (fun _ => by decide +kernel), xD_6⟩
theorem xk_RX11_275 : x_okK RX11 275 192 2 x_mt false false := ⟨M_cX11_countLots, (x_g16 (x_g16 (x_g16 (x_g16 (x_g16 (x_g16 (x_g16 (x_g16 (x_g16 (x_g16 (x_g16 (x_g16 x_g0)))))))))))), (x_bw_in (x_t4 (i := 219) rfl) rfl), rfl, (fun h => by cases h), (fun _ => by decide +kernel), xD_23⟩
theorem xD_34 : (parseMethodDescriptor "(LMoleBoard$Board;)J").map (fun d => d.parameters.length) = some 1 := by decide +kernel
theorem xk_RX11_279 : x_okK RX11 279 61 1 x_mt false false := ⟨M_cX5_rowsInAll, (x_g16 (x_g16 (x_g16 (x_g4 (x_g4 (x_g4 (x_g1 x_g0))))))), (x_bw_in (x_t5 (i := 15) rfl) rfl), rfl, (fun h => by cases h), (fun _ => by decide +kernel), xD_34⟩
theorem xc_RX11_283 : Cond.constantLong RX11 283 (Int64.ofNat 18446744073709551614) ∈ x_bw := (x_bw_in (x_t5 (i := 23) (by decide +kernel)) rfl)
theorem xk_RX11_285 : x_okK RX11 285 60 2 x_mt false false := ⟨M_cX5_rowsTo, (x_g16 (x_g16 (x_g16 (x_g4 (x_g4 (x_g4 x_g0)))))), (x_bw_in (x_t5 (i := 28) rfl) rfl), rfl, (fun h => by cases h), (fun _ => by decide +kernel), xD_17⟩
theorem xk_RX11_289 : x_okK RX11 289 183 1 x_mt false true := ⟨M_cX11_isLaw, (x_g16 (x_g16 (x_g16 (x_g16 (x_g16 (x_g16 (x_g16 (x_g16 (x_g16 (x_g16 (x_g16 (x_g4 (x_g1 (x_g1 (x_g1 x_g0))))))))))))))), (x_bw_in (x_t4 (i := 223) rfl) rfl), rfl, (fun h => by cases h), (fun _ => by decide +kernel), xD_7⟩
theorem xk_RX11_292 : x_okK RX11 292 54 1 x_mt false false := ⟨M_cX5_begin, (x_g16 (x_g16 (x_g16 (x_g4 (x_g1 (x_g1 x_g0)))))), (x_bw_in (x_t4 (i := 226) rfl) rfl), rfl, (fun h => by cases h), (fun _ => by decide +kernel), xD_29⟩
theorem xk_RX11_295 : x_okK RX11 295 62 1 x_mt false false := ⟨M_cX5_isEven, (x_g16 (x_g16 (x_g16 (x_g4 (x_g4 (x_g4 (x_g1 (x_g1 x_g0)))))))), (x_bw_in (x_t5 (i := 33) rfl) rfl), rfl, (fun h => by cases h), (fun _ => by decide +kernel), xD_11⟩
theorem xk_RX11_299 : x_okK RX11 299 55 2 x_mt false false := ⟨M_cX5_grow, (x_g16 (x_g16 (x_g16 (x_g4 (x_g1 (x_g1 (x_g1 x_g0))))))), (x_bw_in (x_t4 (i := 238) rfl) rfl), rfl, (fun h => by cases h), (fun _ => by decide +kernel), xD_30⟩
theorem xk_RX11_302 : x_okK RX11 302 35 1 x_mt false false := ⟨M_cX3_round, (x_g16 (x_g16 (x_g1 (x_g1 (x_g1 x_g0))))), (x_bw_in (x_t5 (i := 42) rfl) rfl), rfl, (fun h => by cases h), (fun _ => by decide +kernel), xD_6⟩
theorem xk_RX11_305 : x_okK RX11 305 27 4 x_mt false false := ⟨M_cX2_lets, (x_g16 (x_g4 (x_g4 (x_g1 (x_g1 (x_g1 x_g0)))))), (x_bw_in (x_t5 (i := 49) rfl) rfl), rfl, (fun h => by cases h), (fun _ => by decide +kernel), xD_13⟩
theorem xk_RX11_309 : x_okK RX11 309 193 1 x_mt false false := ⟨M_cX11_whyUnheard, (x_g16 (x_g16 (x_g16 (x_g16 (x_g16 (x_g16 (x_g16 (x_g16 (x_g16 (x_g16 (x_g16 (x_g16 (x_g1 x_g0))))))))))))), (x_bw_in (x_t5 (i := 54) rfl) rfl), rfl, (fun h => by cases h), (fun _ => by decide +kernel), xD_6⟩
theorem xk_RX11_312 : x_okK RX11 312 97 0 x_mt false false := ⟨M_cX8_leastPeriod, (x_g16 (x_g16 (x_g16 (x_g16 (x_g16 (x_g16 (x_g1 x_g0))))))), (x_bw_in (x_t5 (i := 65) rfl) rfl), rfl, (fun h => by cases h), (fun _ => by decide +kernel), xD_2⟩
theorem xk_RX11_315 : x_okK RX11 315 98 0 x_mt false false := ⟨M_cX8_periodsInAll, (x_g16 (x_g16 (x_g16 (x_g16 (x_g16 (x_g16 (x_g1 (x_g1 x_g0)))))))), (x_bw_in (x_t5 (i := 77) rfl) rfl), rfl, (fun h => by cases h), (fun _ => by decide +kernel), xD_2⟩
theorem xf_RX11_318 : ∃ (C : String) (T : u_T) (N : Nat), (vwCl : List vw_C)[8]? = some (C, T, N) ∧ 0 < N ∧ Cond.fieldLink RX11 318 (T 0).1 (T 0).2.1 (T 0).2.2.1 ∈ x_bw := ⟨RX8, TX8, 3, rfl, x_ab rfl, (x_bw_in (x_t2 (i := 122) rfl) rfl)⟩
theorem xc_RX11_319 : Cond.constantLong RX11 319 (Int64.ofNat 1000000000) ∈ x_bw := (x_bw_in (x_t5 (i := 85) (by decide +kernel)) rfl)
theorem xD_35 : (parseMethodDescriptor "(ILMoleBoard$Row;)Z").map (fun d => d.parameters.length) = some 2 := by decide +kernel
theorem xk_RX11_321 : x_okK RX11 321 37 2 x_mt false false := ⟨M_cX3_goesSo, (x_g16 (x_g16 (x_g4 (x_g1 x_g0)))), (x_bw_in (x_t5 (i := 90) rfl) rfl), rfl, (fun h => by cases h), (fun _ => by decide +kernel), xD_35⟩
theorem xk_RX11_325 : x_okK RX11 325 38 1 x_mt false false := ⟨M_cX3_neededFrom, (x_g16 (x_g16 (x_g4 (x_g1 (x_g1 x_g0))))), (x_bw_in (x_t5 (i := 107) rfl) rfl), rfl, (fun h => by cases h), (fun _ => by decide +kernel), xD_6⟩
theorem xo_RX11_328 : Cond.methodLink RX11 328 Lib.Math.max.name ∈ x_bw := (x_bw_in (x_t5 (i := 120) rfl) rfl)
theorem xD_36 : (parseMethodDescriptor "(LMoleBoard$Board;LMoleBoard$Game;LMoleBoard$Player;)I").map (fun d => d.parameters.length) = some 3 := by decide +kernel
theorem xk_RX11_333 : x_okK RX11 333 101 3 x_mt false false := ⟨M_cX9_rashPoints, (x_g16 (x_g16 (x_g16 (x_g16 (x_g16 (x_g16 (x_g4 (x_g1 x_g0)))))))), (x_bw_in (x_t5 (i := 125) rfl) rfl), rfl, (fun h => by cases h), (fun _ => by decide +kernel), xD_36⟩
theorem xk_RX11_337 : x_okK RX11 337 190 1 x_mt false false := ⟨M_cX11_lookPoints, (x_g16 (x_g16 (x_g16 (x_g16 (x_g16 (x_g16 (x_g16 (x_g16 (x_g16 (x_g16 (x_g16 (x_g4 (x_g4 (x_g4 (x_g1 (x_g1 x_g0)))))))))))))))), (x_bw_in (x_t5 (i := 133) rfl) rfl), rfl, (fun h => by cases h), (fun _ => by decide +kernel), xD_6⟩
theorem xk_RX11_340 : x_okK RX11 340 50 0 x_mt false false := ⟨M_cX4_goodHoles, (x_g16 (x_g16 (x_g16 (x_g1 (x_g1 x_g0))))), (x_bw_in (x_t5 (i := 145) rfl) rfl), rfl, (fun h => by cases h), (fun _ => by decide +kernel), xD_2⟩
theorem xk_RX11_343 : x_okK RX11 343 51 1 x_mt false false := ⟨M_cX4_goodIn, (x_g16 (x_g16 (x_g16 (x_g1 (x_g1 (x_g1 x_g0)))))), (x_bw_in (x_t5 (i := 150) rfl) rfl), rfl, (fun h => by cases h), (fun _ => by decide +kernel), xD_6⟩
theorem xk_RX11_346 : x_okK RX11 346 191 0 x_mt false false := ⟨M_cX11_ticketsOfRun, (x_g16 (x_g16 (x_g16 (x_g16 (x_g16 (x_g16 (x_g16 (x_g16 (x_g16 (x_g16 (x_g16 (x_g4 (x_g4 (x_g4 (x_g1 (x_g1 (x_g1 x_g0))))))))))))))))), (x_bw_in (x_t5 (i := 159) rfl) rfl), rfl, (fun h => by cases h), (fun _ => by decide +kernel), xD_2⟩
theorem xf_RX11_349 : ∃ (C : String) (T : u_T) (N : Nat), (vwCl : List vw_C)[2]? = some (C, T, N) ∧ 8 < N ∧ Cond.fieldLink RX11 349 (T 8).1 (T 8).2.1 (T 8).2.2.1 ∈ x_bw := ⟨RX2, TX2, 15, rfl, x_ab rfl, (x_bw_in (x_t1 (i := 94) rfl) rfl)⟩
theorem xk_RX11_352 : x_okK RX11 352 194 1 x_mt false false := ⟨M_cX11_whyNoBlows, (x_g16 (x_g16 (x_g16 (x_g16 (x_g16 (x_g16 (x_g16 (x_g16 (x_g16 (x_g16 (x_g16 (x_g16 (x_g1 (x_g1 x_g0)))))))))))))), (x_bw_in (x_t5 (i := 171) rfl) rfl), rfl, (fun h => by cases h), (fun _ => by decide +kernel), xD_6⟩
theorem xD_37 : (parseMethodDescriptor "(LMoleBoard$Game;LMoleBoard$Row;I)V").map (fun d => d.parameters.length) = some 3 := by decide +kernel
theorem xk_RX11_355 : x_okK RX11 355 6 3 x_mt false false := ⟨M_cX1_judge, (x_g4 (x_g1 (x_g1 x_g0))), (x_bw_in (x_t5 (i := 175) rfl) rfl), rfl, (fun h => by cases h), (fun _ => by decide +kernel), xD_37⟩
theorem xf_RX11_359 : ∃ (C : String) (T : u_T) (N : Nat), (vwCl : List vw_C)[1]? = some (C, T, N) ∧ 0 < N ∧ Cond.fieldLink RX11 359 (T 0).1 (T 0).2.1 (T 0).2.2.1 ∈ x_bw := ⟨RX1, TX1, 4, rfl, x_ab rfl, (x_bw_in (x_t2 (i := 97) rfl) rfl)⟩
theorem xf_RX11_361 : ∃ (C : String) (T : u_T) (N : Nat), (vwCl : List vw_C)[1]? = some (C, T, N) ∧ 1 < N ∧ Cond.fieldLink RX11 361 (T 1).1 (T 1).2.1 (T 1).2.2.1 ∈ x_bw := ⟨RX1, TX1, 4, rfl, x_ab rfl, (x_bw_in (x_t2 (i := 99) rfl) rfl)⟩
theorem xf_RX11_364 : ∃ (C : String) (T : u_T) (N : Nat), (vwCl : List vw_C)[1]? = some (C, T, N) ∧ 2 < N ∧ Cond.fieldLink RX11 364 (T 2).1 (T 2).2.1 (T 2).2.2.1 ∈ x_bw := ⟨RX1, TX1, 4, rfl, x_ab rfl, (x_bw_in (x_t2 (i := 101) rfl) rfl)⟩
theorem xk_RX11_367 : x_okK RX11 367 36 1 x_mt false false := ⟨M_cX3_oftenAt, (x_g16 (x_g16 (x_g4 x_g0))), (x_bw_in (x_t5 (i := 198) rfl) rfl), rfl, (fun h => by cases h), (fun _ => by decide +kernel), xD_6⟩
theorem xk_RX11_370 : x_okK RX11 370 16 1 x_mt false false := ⟨M_cX2_isShut, (x_g16 x_g0), (x_bw_in (x_t5 (i := 203) rfl) rfl), rfl, (fun h => by cases h), (fun _ => by decide +kernel), xD_7⟩
theorem xo_RX11_373 : Cond.methodLink RX11 373 Lib.Math.min.name ∈ x_bw := (x_bw_in (x_t5 (i := 204) rfl) rfl)
theorem xk_RX11_376 : x_okK RX11 376 20 0 x_mt false false := ⟨M_cX2_pathRound, (x_g16 (x_g4 x_g0)), (x_bw_in (x_t5 (i := 209) rfl) rfl), rfl, (fun h => by cases h), (fun _ => by decide +kernel), xD_2⟩
theorem xk_RX11_379 : x_okK RX11 379 33 2 x_mt false false := ⟨M_cX3_exchange, (x_g16 (x_g16 (x_g1 x_g0))), (x_bw_in (x_t5 (i := 218) rfl) rfl), rfl, (fun h => by cases h), (fun _ => by decide +kernel), xD_24⟩
theorem xp_RX11_166 : ∀ y : MethodName, ∃ (C : String) (T : u_T) (N : Nat), (vwCl : List vw_C)[3]? = some (C, T, N) ∧ 1 < N ∧ Cond.fieldLink RX11 166 (T 1).1 (T 1).2.1 (T 1).2.2.1 ∈ x_bw ∧ ((T 1).2.2.2 = true → (y : MethodName).name = "<init>" ∧ (T 1).1 = RX11) := fun y => ⟨RX3, TX3, 5, rfl, x_ab rfl, (x_bw_in (x_t1 (i := 47) rfl) rfl), fun h => by cases h⟩
theorem xp_RX11_163 : ∀ y : MethodName, ∃ (C : String) (T : u_T) (N : Nat), (vwCl : List vw_C)[2]? = some (C, T, N) ∧ 6 < N ∧ Cond.fieldLink RX11 163 (T 6).1 (T 6).2.1 (T 6).2.2.1 ∈ x_bw ∧ ((T 6).2.2.2 = true → (y : MethodName).name = "<init>" ∧ (T 6).1 = RX11) := fun y => ⟨RX2, TX2, 15, rfl, x_ab rfl, (x_bw_in (x_t1 (i := 87) rfl) rfl), fun h => by cases h⟩
theorem xk_RX11_383 : x_okK RX11 383 26 2 x_mt false false := ⟨M_cX2_isTrait, (x_g16 (x_g4 (x_g4 (x_g1 (x_g1 x_g0))))), (x_bw_in (x_t6 (i := 6) rfl) rfl), rfl, (fun h => by cases h), (fun _ => by decide +kernel), xD_23⟩
theorem xk_RX11_386 : x_okK RX11 386 25 3 x_mt false false := ⟨M_cX2_setTrait, (x_g16 (x_g4 (x_g4 (x_g1 x_g0)))), (x_bw_in (x_t6 (i := 7) rfl) rfl), rfl, (fun h => by cases h), (fun _ => by decide +kernel), xD_0⟩
theorem xk_RX11_390 : x_okK RX11 390 184 1 x_mt false true := ⟨M_cX11_isSeed, (x_g16 (x_g16 (x_g16 (x_g16 (x_g16 (x_g16 (x_g16 (x_g16 (x_g16 (x_g16 (x_g16 (x_g4 (x_g4 x_g0))))))))))))), (x_bw_in (x_t6 (i := 12) rfl) rfl), rfl, (fun h => by cases h), (fun _ => by decide +kernel), xD_7⟩
theorem xD_38 : (parseMethodDescriptor "(LMoleBoard$Board;II)V").map (fun d => d.parameters.length) = some 3 := by decide +kernel
theorem xk_RX11_393 : x_okK RX11 393 43 3 x_mt false false := ⟨M_cX4_draw, (x_g16 (x_g16 (x_g4 (x_g4 (x_g1 (x_g1 (x_g1 x_g0))))))), (x_bw_in (x_t6 (i := 16) rfl) rfl), rfl, (fun h => by cases h), (fun _ => by decide +kernel), xD_38⟩
theorem xD_39 : (parseMethodDescriptor "(IIII)I").map (fun d => d.parameters.length) = some 4 := by decide +kernel
theorem xk_RX11_397 : x_okK RX11 397 176 4 x_mt false false := ⟨M_cX11_years, (x_g16 (x_g16 (x_g16 (x_g16 (x_g16 (x_g16 (x_g16 (x_g16 (x_g16 (x_g16 (x_g16 x_g0))))))))))), (x_bw_in (x_t6 (i := 34) rfl) rfl), rfl, (fun h => by cases h), (fun _ => by decide +kernel), xD_39⟩
theorem xf_RX11_401 : ∃ (C : String) (T : u_T) (N : Nat), (vwCl : List vw_C)[2]? = some (C, T, N) ∧ 0 < N ∧ Cond.fieldLink RX11 401 (T 0).1 (T 0).2.1 (T 0).2.2.1 ∈ x_bw := ⟨RX2, TX2, 15, rfl, x_ab rfl, (x_bw_in (x_t1 (i := 69) rfl) rfl)⟩
theorem xp_RX11_401 : ∀ y : MethodName, ∃ (C : String) (T : u_T) (N : Nat), (vwCl : List vw_C)[2]? = some (C, T, N) ∧ 0 < N ∧ Cond.fieldLink RX11 401 (T 0).1 (T 0).2.1 (T 0).2.2.1 ∈ x_bw ∧ ((T 0).2.2.2 = true → (y : MethodName).name = "<init>" ∧ (T 0).1 = RX11) := fun y => ⟨RX2, TX2, 15, rfl, x_ab rfl, (x_bw_in (x_t1 (i := 69) rfl) rfl), fun h => by cases h⟩
theorem xk_RX11_405 : x_okK RX11 405 182 1 x_mt false true := ⟨M_cX11_isSlot, (x_g16 (x_g16 (x_g16 (x_g16 (x_g16 (x_g16 (x_g16 (x_g16 (x_g16 (x_g16 (x_g16 (x_g4 (x_g1 (x_g1 x_g0)))))))))))))), (x_bw_in (x_t5 (i := 58) rfl) rfl), rfl, (fun h => by cases h), (fun _ => by decide +kernel), xD_7⟩
theorem xk_RX11_408 : x_okK RX11 408 92 2 x_mt false false := ⟨M_cX8_make, (x_g16 (x_g16 (x_g16 (x_g16 (x_g16 (x_g4 (x_g4 (x_g4 x_g0)))))))), (x_bw_in (x_t6 (i := 51) rfl) rfl), rfl, (fun h => by cases h), (fun _ => by decide +kernel), xD_24⟩
theorem xk_RX11_411 : x_okK RX11 411 91 0 x_mt false false := ⟨M_cX8_isMade, (x_g16 (x_g16 (x_g16 (x_g16 (x_g16 (x_g4 (x_g4 (x_g1 (x_g1 (x_g1 x_g0)))))))))), (x_bw_in (x_t3 (i := 187) rfl) rfl), rfl, (fun h => by cases h), (fun _ => by decide +kernel), xD_22⟩
theorem xD_40 : (parseMethodDescriptor "(IJ)V").map (fun d => d.parameters.length) = some 2 := by decide +kernel
theorem xk_RX11_414 : x_okK RX11 414 93 2 x_mt false false := ⟨M_cX8_put, (x_g16 (x_g16 (x_g16 (x_g16 (x_g16 (x_g4 (x_g4 (x_g4 (x_g1 x_g0))))))))), (x_bw_in (x_t6 (i := 59) rfl) rfl), rfl, (fun h => by cases h), (fun _ => by decide +kernel), xD_40⟩
theorem xf_RX11_417 : ∃ (C : String) (T : u_T) (N : Nat), (vwCl : List vw_C)[8]? = some (C, T, N) ∧ 1 < N ∧ Cond.fieldLink RX11 417 (T 1).1 (T 1).2.1 (T 1).2.2.1 ∈ x_bw := ⟨RX8, TX8, 3, rfl, x_ab rfl, (x_bw_in (x_t2 (i := 124) rfl) rfl)⟩
theorem xk_RX11_420 : x_okK RX11 420 94 2 x_mt false false := ⟨M_cX8_hasPart, (x_g16 (x_g16 (x_g16 (x_g16 (x_g16 (x_g4 (x_g4 (x_g4 (x_g1 (x_g1 x_g0)))))))))), (x_bw_in (x_t6 (i := 67) rfl) rfl), rfl, (fun h => by cases h), (fun _ => by decide +kernel), xD_23⟩
theorem xf_RX11_423 : ∃ (C : String) (T : u_T) (N : Nat), (vwCl : List vw_C)[8]? = some (C, T, N) ∧ 2 < N ∧ Cond.fieldLink RX11 423 (T 2).1 (T 2).2.1 (T 2).2.2.1 ∈ x_bw := ⟨RX8, TX8, 3, rfl, x_ab rfl, (x_bw_in (x_t2 (i := 128) rfl) rfl)⟩
theorem xo_RX11_427 : Cond.methodLink RX11 427 arraycopyName ∈ x_bw := (x_bw_in (x_t6 (i := 71) rfl) rfl)
theorem xc_RX11_433 : Cond.constant RX11 433 (Int32.ofNat 2000000000) ∈ x_bw := (x_bw_in (x_t6 (i := 15) (by decide +kernel)) rfl)
theorem xf_RX11_434 : ∃ (C : String) (T : u_T) (N : Nat), (vwCl : List vw_C)[6]? = some (C, T, N) ∧ 3 < N ∧ Cond.fieldLink RX11 434 (T 3).1 (T 3).2.1 (T 3).2.2.1 ∈ x_bw := ⟨RX6, TX6, 5, rfl, x_ab rfl, (x_bw_in (x_t2 (i := 12) rfl) rfl)⟩
theorem xp_RX11_434 : ∀ y : MethodName, ∃ (C : String) (T : u_T) (N : Nat), (vwCl : List vw_C)[6]? = some (C, T, N) ∧ 3 < N ∧ Cond.fieldLink RX11 434 (T 3).1 (T 3).2.1 (T 3).2.2.1 ∈ x_bw ∧ ((T 3).2.2.2 = true → (y : MethodName).name = "<init>" ∧ (T 3).1 = RX11) := fun y => ⟨RX6, TX6, 5, rfl, x_ab rfl, (x_bw_in (x_t2 (i := 12) rfl) rfl), fun h => by cases h⟩
theorem xf_RX11_437 : ∃ (C : String) (T : u_T) (N : Nat), (vwCl : List vw_C)[6]? = some (C, T, N) ∧ 1 < N ∧ Cond.fieldLink RX11 437 (T 1).1 (T 1).2.1 (T 1).2.2.1 ∈ x_bw := ⟨RX6, TX6, 5, rfl, x_ab rfl, (x_bw_in (x_t2 (i := 9) rfl) rfl)⟩
theorem xp_RX11_437 : ∀ y : MethodName, ∃ (C : String) (T : u_T) (N : Nat), (vwCl : List vw_C)[6]? = some (C, T, N) ∧ 1 < N ∧ Cond.fieldLink RX11 437 (T 1).1 (T 1).2.1 (T 1).2.2.1 ∈ x_bw ∧ ((T 1).2.2.2 = true → (y : MethodName).name = "<init>" ∧ (T 1).1 = RX11) := fun y => ⟨RX6, TX6, 5, rfl, x_ab rfl, (x_bw_in (x_t2 (i := 9) rfl) rfl), fun h => by cases h⟩
theorem xf_RX11_440 : ∃ (C : String) (T : u_T) (N : Nat), (vwCl : List vw_C)[2]? = some (C, T, N) ∧ 9 < N ∧ Cond.fieldLink RX11 440 (T 9).1 (T 9).2.1 (T 9).2.2.1 ∈ x_bw := ⟨RX2, TX2, 15, rfl, x_ab rfl, (x_bw_in (x_t1 (i := 97) rfl) rfl)⟩
theorem xk_RX11_443 : x_okK RX11 443 95 2 x_mt false false := ⟨M_cX8_isBelow, (x_g16 (x_g16 (x_g16 (x_g16 (x_g16 (x_g4 (x_g4 (x_g4 (x_g1 (x_g1 (x_g1 x_g0))))))))))), (x_bw_in (x_t5 (i := 61) rfl) rfl), rfl, (fun h => by cases h), (fun _ => by decide +kernel), xD_23⟩
theorem xo_RX12_3 : Cond.methodLink RX12 3 Lib.objectInit ∈ x_bw := (x_bw_in (x_t6 (i := 77) rfl) rfl)
theorem xf_RX12_9 : ∃ (C : String) (T : u_T) (N : Nat), (vwCl : List vw_C)[12]? = some (C, T, N) ∧ 1 < N ∧ Cond.fieldLink RX12 9 (T 1).1 (T 1).2.1 (T 1).2.2.1 ∈ x_bw := ⟨RX12, TX12, 47, rfl, x_ab rfl, (x_bw_in (x_t6 (i := 78) rfl) rfl)⟩
theorem xp_RX12_9_cX12_init : ∃ (C : String) (T : u_T) (N : Nat), (vwCl : List vw_C)[12]? = some (C, T, N) ∧ 1 < N ∧ Cond.fieldLink RX12 9 (T 1).1 (T 1).2.1 (T 1).2.2.1 ∈ x_bw ∧ ((T 1).2.2.2 = true → (yX12_init).name = "<init>" ∧ (T 1).1 = RX12) := ⟨RX12, TX12, 47, rfl, x_ab rfl, (x_bw_in (x_t6 (i := 78) rfl) rfl), fun _ => ⟨rfl, rfl⟩⟩
theorem xf_RX12_13 : ∃ (C : String) (T : u_T) (N : Nat), (vwCl : List vw_C)[12]? = some (C, T, N) ∧ 2 < N ∧ Cond.fieldLink RX12 13 (T 2).1 (T 2).2.1 (T 2).2.2.1 ∈ x_bw := ⟨RX12, TX12, 47, rfl, x_ab rfl, (x_bw_in (x_t6 (i := 79) rfl) rfl)⟩
theorem xp_RX12_13_cX12_init : ∃ (C : String) (T : u_T) (N : Nat), (vwCl : List vw_C)[12]? = some (C, T, N) ∧ 2 < N ∧ Cond.fieldLink RX12 13 (T 2).1 (T 2).2.1 (T 2).2.2.1 ∈ x_bw ∧ ((T 2).2.2.2 = true → (yX12_init).name = "<init>" ∧ (T 2).1 = RX12) := ⟨RX12, TX12, 47, rfl, x_ab rfl, (x_bw_in (x_t6 (i := 79) rfl) rfl), fun _ => ⟨rfl, rfl⟩⟩
theorem xn_boolean : Cond.arrayClass (newarray.typeOf .boolean) ∈ x_bw := (x_bw_in (x_t6 (i := 219) rfl) rfl)
theorem xf_RX12_16 : ∃ (C : String) (T : u_T) (N : Nat), (vwCl : List vw_C)[12]? = some (C, T, N) ∧ 3 < N ∧ Cond.fieldLink RX12 16 (T 3).1 (T 3).2.1 (T 3).2.2.1 ∈ x_bw := ⟨RX12, TX12, 47, rfl, x_ab rfl, (x_bw_in (x_t6 (i := 80) rfl) rfl)⟩
theorem xp_RX12_16_cX12_init : ∃ (C : String) (T : u_T) (N : Nat), (vwCl : List vw_C)[12]? = some (C, T, N) ∧ 3 < N ∧ Cond.fieldLink RX12 16 (T 3).1 (T 3).2.1 (T 3).2.2.1 ∈ x_bw ∧ ((T 3).2.2.2 = true → (yX12_init).name = "<init>" ∧ (T 3).1 = RX12) := ⟨RX12, TX12, 47, rfl, x_ab rfl, (x_bw_in (x_t6 (i := 80) rfl) rfl), fun _ => ⟨rfl, rfl⟩⟩
theorem xf_RX12_20 : ∃ (C : String) (T : u_T) (N : Nat), (vwCl : List vw_C)[12]? = some (C, T, N) ∧ 4 < N ∧ Cond.fieldLink RX12 20 (T 4).1 (T 4).2.1 (T 4).2.2.1 ∈ x_bw := ⟨RX12, TX12, 47, rfl, x_ab rfl, (x_bw_in (x_t6 (i := 81) rfl) rfl)⟩
theorem xp_RX12_20_cX12_init : ∃ (C : String) (T : u_T) (N : Nat), (vwCl : List vw_C)[12]? = some (C, T, N) ∧ 4 < N ∧ Cond.fieldLink RX12 20 (T 4).1 (T 4).2.1 (T 4).2.2.1 ∈ x_bw ∧ ((T 4).2.2.2 = true → (yX12_init).name = "<init>" ∧ (T 4).1 = RX12) := ⟨RX12, TX12, 47, rfl, x_ab rfl, (x_bw_in (x_t6 (i := 81) rfl) rfl), fun _ => ⟨rfl, rfl⟩⟩
theorem xf_RX12_24 : ∃ (C : String) (T : u_T) (N : Nat), (vwCl : List vw_C)[12]? = some (C, T, N) ∧ 6 < N ∧ Cond.fieldLink RX12 24 (T 6).1 (T 6).2.1 (T 6).2.2.1 ∈ x_bw := ⟨RX12, TX12, 47, rfl, x_ab rfl, (x_bw_in (x_t6 (i := 83) rfl) rfl)⟩
theorem xp_RX12_24_cX12_init : ∃ (C : String) (T : u_T) (N : Nat), (vwCl : List vw_C)[12]? = some (C, T, N) ∧ 6 < N ∧ Cond.fieldLink RX12 24 (T 6).1 (T 6).2.1 (T 6).2.2.1 ∈ x_bw ∧ ((T 6).2.2.2 = true → (yX12_init).name = "<init>" ∧ (T 6).1 = RX12) := ⟨RX12, TX12, 47, rfl, x_ab rfl, (x_bw_in (x_t6 (i := 83) rfl) rfl), fun _ => ⟨rfl, rfl⟩⟩
theorem xf_RX12_27 : ∃ (C : String) (T : u_T) (N : Nat), (vwCl : List vw_C)[12]? = some (C, T, N) ∧ 13 < N ∧ Cond.fieldLink RX12 27 (T 13).1 (T 13).2.1 (T 13).2.2.1 ∈ x_bw := ⟨RX12, TX12, 47, rfl, x_ab rfl, (x_bw_in (x_t6 (i := 90) rfl) rfl)⟩
theorem xp_RX12_27 : ∀ y : MethodName, ∃ (C : String) (T : u_T) (N : Nat), (vwCl : List vw_C)[12]? = some (C, T, N) ∧ 13 < N ∧ Cond.fieldLink RX12 27 (T 13).1 (T 13).2.1 (T 13).2.2.1 ∈ x_bw ∧ ((T 13).2.2.2 = true → (y : MethodName).name = "<init>" ∧ (T 13).1 = RX12) := fun y => ⟨RX12, TX12, 47, rfl, x_ab rfl, (x_bw_in (x_t6 (i := 90) rfl) rfl), fun h => by cases h⟩
theorem xf_RX12_31 : ∃ (C : String) (T : u_T) (N : Nat), (vwCl : List vw_C)[12]? = some (C, T, N) ∧ 14 < N ∧ Cond.fieldLink RX12 31 (T 14).1 (T 14).2.1 (T 14).2.2.1 ∈ x_bw := ⟨RX12, TX12, 47, rfl, x_ab rfl, (x_bw_in (x_t6 (i := 91) rfl) rfl)⟩
theorem xp_RX12_31_cX12_init : ∃ (C : String) (T : u_T) (N : Nat), (vwCl : List vw_C)[12]? = some (C, T, N) ∧ 14 < N ∧ Cond.fieldLink RX12 31 (T 14).1 (T 14).2.1 (T 14).2.2.1 ∈ x_bw ∧ ((T 14).2.2.2 = true → (yX12_init).name = "<init>" ∧ (T 14).1 = RX12) := ⟨RX12, TX12, 47, rfl, x_ab rfl, (x_bw_in (x_t6 (i := 91) rfl) rfl), fun _ => ⟨rfl, rfl⟩⟩
theorem xf_RX12_34 : ∃ (C : String) (T : u_T) (N : Nat), (vwCl : List vw_C)[12]? = some (C, T, N) ∧ 15 < N ∧ Cond.fieldLink RX12 34 (T 15).1 (T 15).2.1 (T 15).2.2.1 ∈ x_bw := ⟨RX12, TX12, 47, rfl, x_ab rfl, (x_bw_in (x_t6 (i := 92) rfl) rfl)⟩
theorem xp_RX12_34_cX12_init : ∃ (C : String) (T : u_T) (N : Nat), (vwCl : List vw_C)[12]? = some (C, T, N) ∧ 15 < N ∧ Cond.fieldLink RX12 34 (T 15).1 (T 15).2.1 (T 15).2.2.1 ∈ x_bw ∧ ((T 15).2.2.2 = true → (yX12_init).name = "<init>" ∧ (T 15).1 = RX12) := ⟨RX12, TX12, 47, rfl, x_ab rfl, (x_bw_in (x_t6 (i := 92) rfl) rfl), fun _ => ⟨rfl, rfl⟩⟩
theorem xf_RX12_37 : ∃ (C : String) (T : u_T) (N : Nat), (vwCl : List vw_C)[12]? = some (C, T, N) ∧ 16 < N ∧ Cond.fieldLink RX12 37 (T 16).1 (T 16).2.1 (T 16).2.2.1 ∈ x_bw := ⟨RX12, TX12, 47, rfl, x_ab rfl, (x_bw_in (x_t6 (i := 93) rfl) rfl)⟩
theorem xp_RX12_37_cX12_init : ∃ (C : String) (T : u_T) (N : Nat), (vwCl : List vw_C)[12]? = some (C, T, N) ∧ 16 < N ∧ Cond.fieldLink RX12 37 (T 16).1 (T 16).2.1 (T 16).2.2.1 ∈ x_bw ∧ ((T 16).2.2.2 = true → (yX12_init).name = "<init>" ∧ (T 16).1 = RX12) := ⟨RX12, TX12, 47, rfl, x_ab rfl, (x_bw_in (x_t6 (i := 93) rfl) rfl), fun _ => ⟨rfl, rfl⟩⟩
theorem xf_RX12_40 : ∃ (C : String) (T : u_T) (N : Nat), (vwCl : List vw_C)[12]? = some (C, T, N) ∧ 17 < N ∧ Cond.fieldLink RX12 40 (T 17).1 (T 17).2.1 (T 17).2.2.1 ∈ x_bw := ⟨RX12, TX12, 47, rfl, x_ab rfl, (x_bw_in (x_t6 (i := 94) rfl) rfl)⟩
theorem xp_RX12_40_cX12_init : ∃ (C : String) (T : u_T) (N : Nat), (vwCl : List vw_C)[12]? = some (C, T, N) ∧ 17 < N ∧ Cond.fieldLink RX12 40 (T 17).1 (T 17).2.1 (T 17).2.2.1 ∈ x_bw ∧ ((T 17).2.2.2 = true → (yX12_init).name = "<init>" ∧ (T 17).1 = RX12) := ⟨RX12, TX12, 47, rfl, x_ab rfl, (x_bw_in (x_t6 (i := 94) rfl) rfl), fun _ => ⟨rfl, rfl⟩⟩
theorem xf_RX12_43 : ∃ (C : String) (T : u_T) (N : Nat), (vwCl : List vw_C)[12]? = some (C, T, N) ∧ 25 < N ∧ Cond.fieldLink RX12 43 (T 25).1 (T 25).2.1 (T 25).2.2.1 ∈ x_bw := ⟨RX12, TX12, 47, rfl, x_ab rfl, (x_bw_in (x_t6 (i := 102) rfl) rfl)⟩
theorem xp_RX12_43_cX12_init : ∃ (C : String) (T : u_T) (N : Nat), (vwCl : List vw_C)[12]? = some (C, T, N) ∧ 25 < N ∧ Cond.fieldLink RX12 43 (T 25).1 (T 25).2.1 (T 25).2.2.1 ∈ x_bw ∧ ((T 25).2.2.2 = true → (yX12_init).name = "<init>" ∧ (T 25).1 = RX12) := ⟨RX12, TX12, 47, rfl, x_ab rfl, (x_bw_in (x_t6 (i := 102) rfl) rfl), fun _ => ⟨rfl, rfl⟩⟩
theorem xf_RX12_46 : ∃ (C : String) (T : u_T) (N : Nat), (vwCl : List vw_C)[12]? = some (C, T, N) ∧ 26 < N ∧ Cond.fieldLink RX12 46 (T 26).1 (T 26).2.1 (T 26).2.2.1 ∈ x_bw := ⟨RX12, TX12, 47, rfl, x_ab rfl, (x_bw_in (x_t6 (i := 103) rfl) rfl)⟩
theorem xp_RX12_46_cX12_init : ∃ (C : String) (T : u_T) (N : Nat), (vwCl : List vw_C)[12]? = some (C, T, N) ∧ 26 < N ∧ Cond.fieldLink RX12 46 (T 26).1 (T 26).2.1 (T 26).2.2.1 ∈ x_bw ∧ ((T 26).2.2.2 = true → (yX12_init).name = "<init>" ∧ (T 26).1 = RX12) := ⟨RX12, TX12, 47, rfl, x_ab rfl, (x_bw_in (x_t6 (i := 103) rfl) rfl), fun _ => ⟨rfl, rfl⟩⟩
theorem xf_RX12_49 : ∃ (C : String) (T : u_T) (N : Nat), (vwCl : List vw_C)[12]? = some (C, T, N) ∧ 27 < N ∧ Cond.fieldLink RX12 49 (T 27).1 (T 27).2.1 (T 27).2.2.1 ∈ x_bw := ⟨RX12, TX12, 47, rfl, x_ab rfl, (x_bw_in (x_t6 (i := 104) rfl) rfl)⟩
theorem xp_RX12_49_cX12_init : ∃ (C : String) (T : u_T) (N : Nat), (vwCl : List vw_C)[12]? = some (C, T, N) ∧ 27 < N ∧ Cond.fieldLink RX12 49 (T 27).1 (T 27).2.1 (T 27).2.2.1 ∈ x_bw ∧ ((T 27).2.2.2 = true → (yX12_init).name = "<init>" ∧ (T 27).1 = RX12) := ⟨RX12, TX12, 47, rfl, x_ab rfl, (x_bw_in (x_t6 (i := 104) rfl) rfl), fun _ => ⟨rfl, rfl⟩⟩
theorem xf_RX12_52 : ∃ (C : String) (T : u_T) (N : Nat), (vwCl : List vw_C)[12]? = some (C, T, N) ∧ 28 < N ∧ Cond.fieldLink RX12 52 (T 28).1 (T 28).2.1 (T 28).2.2.1 ∈ x_bw := ⟨RX12, TX12, 47, rfl, x_ab rfl, (x_bw_in (x_t6 (i := 105) rfl) rfl)⟩
theorem xp_RX12_52_cX12_init : ∃ (C : String) (T : u_T) (N : Nat), (vwCl : List vw_C)[12]? = some (C, T, N) ∧ 28 < N ∧ Cond.fieldLink RX12 52 (T 28).1 (T 28).2.1 (T 28).2.2.1 ∈ x_bw ∧ ((T 28).2.2.2 = true → (yX12_init).name = "<init>" ∧ (T 28).1 = RX12) := ⟨RX12, TX12, 47, rfl, x_ab rfl, (x_bw_in (x_t6 (i := 105) rfl) rfl), fun _ => ⟨rfl, rfl⟩⟩
theorem xf_RX12_55 : ∃ (C : String) (T : u_T) (N : Nat), (vwCl : List vw_C)[12]? = some (C, T, N) ∧ 34 < N ∧ Cond.fieldLink RX12 55 (T 34).1 (T 34).2.1 (T 34).2.2.1 ∈ x_bw := ⟨RX12, TX12, 47, rfl, x_ab rfl, (x_bw_in (x_t6 (i := 111) rfl) rfl)⟩
theorem xp_RX12_55_cX12_init : ∃ (C : String) (T : u_T) (N : Nat), (vwCl : List vw_C)[12]? = some (C, T, N) ∧ 34 < N ∧ Cond.fieldLink RX12 55 (T 34).1 (T 34).2.1 (T 34).2.2.1 ∈ x_bw ∧ ((T 34).2.2.2 = true → (yX12_init).name = "<init>" ∧ (T 34).1 = RX12) := ⟨RX12, TX12, 47, rfl, x_ab rfl, (x_bw_in (x_t6 (i := 111) rfl) rfl), fun _ => ⟨rfl, rfl⟩⟩
theorem xf_RX12_58 : ∃ (C : String) (T : u_T) (N : Nat), (vwCl : List vw_C)[12]? = some (C, T, N) ∧ 35 < N ∧ Cond.fieldLink RX12 58 (T 35).1 (T 35).2.1 (T 35).2.2.1 ∈ x_bw := ⟨RX12, TX12, 47, rfl, x_ab rfl, (x_bw_in (x_t6 (i := 112) rfl) rfl)⟩
theorem xp_RX12_58_cX12_init : ∃ (C : String) (T : u_T) (N : Nat), (vwCl : List vw_C)[12]? = some (C, T, N) ∧ 35 < N ∧ Cond.fieldLink RX12 58 (T 35).1 (T 35).2.1 (T 35).2.2.1 ∈ x_bw ∧ ((T 35).2.2.2 = true → (yX12_init).name = "<init>" ∧ (T 35).1 = RX12) := ⟨RX12, TX12, 47, rfl, x_ab rfl, (x_bw_in (x_t6 (i := 112) rfl) rfl), fun _ => ⟨rfl, rfl⟩⟩
theorem xf_RX12_61 : ∃ (C : String) (T : u_T) (N : Nat), (vwCl : List vw_C)[12]? = some (C, T, N) ∧ 36 < N ∧ Cond.fieldLink RX12 61 (T 36).1 (T 36).2.1 (T 36).2.2.1 ∈ x_bw := ⟨RX12, TX12, 47, rfl, x_ab rfl, (x_bw_in (x_t6 (i := 113) rfl) rfl)⟩
theorem xp_RX12_61_cX12_init : ∃ (C : String) (T : u_T) (N : Nat), (vwCl : List vw_C)[12]? = some (C, T, N) ∧ 36 < N ∧ Cond.fieldLink RX12 61 (T 36).1 (T 36).2.1 (T 36).2.2.1 ∈ x_bw ∧ ((T 36).2.2.2 = true → (yX12_init).name = "<init>" ∧ (T 36).1 = RX12) := ⟨RX12, TX12, 47, rfl, x_ab rfl, (x_bw_in (x_t6 (i := 113) rfl) rfl), fun _ => ⟨rfl, rfl⟩⟩
theorem xf_RX12_65 : ∃ (C : String) (T : u_T) (N : Nat), (vwCl : List vw_C)[12]? = some (C, T, N) ∧ 37 < N ∧ Cond.fieldLink RX12 65 (T 37).1 (T 37).2.1 (T 37).2.2.1 ∈ x_bw := ⟨RX12, TX12, 47, rfl, x_ab rfl, (x_bw_in (x_t6 (i := 114) rfl) rfl)⟩
theorem xp_RX12_65_cX12_init : ∃ (C : String) (T : u_T) (N : Nat), (vwCl : List vw_C)[12]? = some (C, T, N) ∧ 37 < N ∧ Cond.fieldLink RX12 65 (T 37).1 (T 37).2.1 (T 37).2.2.1 ∈ x_bw ∧ ((T 37).2.2.2 = true → (yX12_init).name = "<init>" ∧ (T 37).1 = RX12) := ⟨RX12, TX12, 47, rfl, x_ab rfl, (x_bw_in (x_t6 (i := 114) rfl) rfl), fun _ => ⟨rfl, rfl⟩⟩
theorem xf_RX12_68 : ∃ (C : String) (T : u_T) (N : Nat), (vwCl : List vw_C)[12]? = some (C, T, N) ∧ 38 < N ∧ Cond.fieldLink RX12 68 (T 38).1 (T 38).2.1 (T 38).2.2.1 ∈ x_bw := ⟨RX12, TX12, 47, rfl, x_ab rfl, (x_bw_in (x_t6 (i := 115) rfl) rfl)⟩
theorem xp_RX12_68_cX12_init : ∃ (C : String) (T : u_T) (N : Nat), (vwCl : List vw_C)[12]? = some (C, T, N) ∧ 38 < N ∧ Cond.fieldLink RX12 68 (T 38).1 (T 38).2.1 (T 38).2.2.1 ∈ x_bw ∧ ((T 38).2.2.2 = true → (yX12_init).name = "<init>" ∧ (T 38).1 = RX12) := ⟨RX12, TX12, 47, rfl, x_ab rfl, (x_bw_in (x_t6 (i := 115) rfl) rfl), fun _ => ⟨rfl, rfl⟩⟩
theorem xf_RX12_71 : ∃ (C : String) (T : u_T) (N : Nat), (vwCl : List vw_C)[12]? = some (C, T, N) ∧ 43 < N ∧ Cond.fieldLink RX12 71 (T 43).1 (T 43).2.1 (T 43).2.2.1 ∈ x_bw := ⟨RX12, TX12, 47, rfl, x_ab rfl, (x_bw_in (x_t6 (i := 120) rfl) rfl)⟩
theorem xp_RX12_71_cX12_init : ∃ (C : String) (T : u_T) (N : Nat), (vwCl : List vw_C)[12]? = some (C, T, N) ∧ 43 < N ∧ Cond.fieldLink RX12 71 (T 43).1 (T 43).2.1 (T 43).2.2.1 ∈ x_bw ∧ ((T 43).2.2.2 = true → (yX12_init).name = "<init>" ∧ (T 43).1 = RX12) := ⟨RX12, TX12, 47, rfl, x_ab rfl, (x_bw_in (x_t6 (i := 120) rfl) rfl), fun _ => ⟨rfl, rfl⟩⟩
theorem xf_RX12_74 : ∃ (C : String) (T : u_T) (N : Nat), (vwCl : List vw_C)[12]? = some (C, T, N) ∧ 44 < N ∧ Cond.fieldLink RX12 74 (T 44).1 (T 44).2.1 (T 44).2.2.1 ∈ x_bw := ⟨RX12, TX12, 47, rfl, x_ab rfl, (x_bw_in (x_t6 (i := 121) rfl) rfl)⟩
theorem xp_RX12_74_cX12_init : ∃ (C : String) (T : u_T) (N : Nat), (vwCl : List vw_C)[12]? = some (C, T, N) ∧ 44 < N ∧ Cond.fieldLink RX12 74 (T 44).1 (T 44).2.1 (T 44).2.2.1 ∈ x_bw ∧ ((T 44).2.2.2 = true → (yX12_init).name = "<init>" ∧ (T 44).1 = RX12) := ⟨RX12, TX12, 47, rfl, x_ab rfl, (x_bw_in (x_t6 (i := 121) rfl) rfl), fun _ => ⟨rfl, rfl⟩⟩
theorem xf_RX12_77 : ∃ (C : String) (T : u_T) (N : Nat), (vwCl : List vw_C)[12]? = some (C, T, N) ∧ 45 < N ∧ Cond.fieldLink RX12 77 (T 45).1 (T 45).2.1 (T 45).2.2.1 ∈ x_bw := ⟨RX12, TX12, 47, rfl, x_ab rfl, (x_bw_in (x_t6 (i := 122) rfl) rfl)⟩
theorem xp_RX12_77_cX12_init : ∃ (C : String) (T : u_T) (N : Nat), (vwCl : List vw_C)[12]? = some (C, T, N) ∧ 45 < N ∧ Cond.fieldLink RX12 77 (T 45).1 (T 45).2.1 (T 45).2.2.1 ∈ x_bw ∧ ((T 45).2.2.2 = true → (yX12_init).name = "<init>" ∧ (T 45).1 = RX12) := ⟨RX12, TX12, 47, rfl, x_ab rfl, (x_bw_in (x_t6 (i := 122) rfl) rfl), fun _ => ⟨rfl, rfl⟩⟩
theorem xf_RX12_80 : ∃ (C : String) (T : u_T) (N : Nat), (vwCl : List vw_C)[12]? = some (C, T, N) ∧ 46 < N ∧ Cond.fieldLink RX12 80 (T 46).1 (T 46).2.1 (T 46).2.2.1 ∈ x_bw := ⟨RX12, TX12, 47, rfl, x_ab rfl, (x_bw_in (x_t6 (i := 123) rfl) rfl)⟩
theorem xp_RX12_80_cX12_init : ∃ (C : String) (T : u_T) (N : Nat), (vwCl : List vw_C)[12]? = some (C, T, N) ∧ 46 < N ∧ Cond.fieldLink RX12 80 (T 46).1 (T 46).2.1 (T 46).2.2.1 ∈ x_bw ∧ ((T 46).2.2.2 = true → (yX12_init).name = "<init>" ∧ (T 46).1 = RX12) := ⟨RX12, TX12, 47, rfl, x_ab rfl, (x_bw_in (x_t6 (i := 123) rfl) rfl), fun _ => ⟨rfl, rfl⟩⟩
theorem xc_RX12_86 : Cond.constantLong RX12 86 (Int64.ofNat 2) ∈ x_bw := (x_bw_in (x_t6 (i := 224) (by decide +kernel)) rfl)
theorem xD_41 : (parseMethodDescriptor "(JJJ)Z").map (fun d => d.parameters.length) = some 3 := by decide +kernel
theorem xk_RX12_88 : x_okK RX12 88 196 3 x_mt false true := ⟨M_cX12_in, (x_g16 (x_g16 (x_g16 (x_g16 (x_g16 (x_g16 (x_g16 (x_g16 (x_g16 (x_g16 (x_g16 (x_g16 (x_g4 x_g0))))))))))))), (x_bw_in (x_t6 (i := 225) rfl) rfl), rfl, (fun h => by cases h), (fun _ => by decide +kernel), xD_41⟩
theorem xk_RX12_92 : x_okK RX12 92 200 0 x_mt false false := ⟨M_cX12_holes, (x_g16 (x_g16 (x_g16 (x_g16 (x_g16 (x_g16 (x_g16 (x_g16 (x_g16 (x_g16 (x_g16 (x_g16 (x_g4 (x_g4 x_g0)))))))))))))), (x_bw_in (x_t7 (i := 212) rfl) rfl), rfl, (fun h => by cases h), (fun _ => by decide +kernel), xD_2⟩
theorem xf_RX12_96 : ∃ (C : String) (T : u_T) (N : Nat), (vwCl : List vw_C)[12]? = some (C, T, N) ∧ 5 < N ∧ Cond.fieldLink RX12 96 (T 5).1 (T 5).2.1 (T 5).2.2.1 ∈ x_bw := ⟨RX12, TX12, 47, rfl, x_ab rfl, (x_bw_in (x_t6 (i := 82) rfl) rfl)⟩
theorem xp_RX12_96 : ∀ y : MethodName, ∃ (C : String) (T : u_T) (N : Nat), (vwCl : List vw_C)[12]? = some (C, T, N) ∧ 5 < N ∧ Cond.fieldLink RX12 96 (T 5).1 (T 5).2.1 (T 5).2.2.1 ∈ x_bw ∧ ((T 5).2.2.2 = true → (y : MethodName).name = "<init>" ∧ (T 5).1 = RX12) := fun y => ⟨RX12, TX12, 47, rfl, x_ab rfl, (x_bw_in (x_t6 (i := 82) rfl) rfl), fun h => by cases h⟩
theorem xf_RX12_99 : ∃ (C : String) (T : u_T) (N : Nat), (vwCl : List vw_C)[12]? = some (C, T, N) ∧ 7 < N ∧ Cond.fieldLink RX12 99 (T 7).1 (T 7).2.1 (T 7).2.2.1 ∈ x_bw := ⟨RX12, TX12, 47, rfl, x_ab rfl, (x_bw_in (x_t6 (i := 84) rfl) rfl)⟩
theorem xf_RX12_102 : ∃ (C : String) (T : u_T) (N : Nat), (vwCl : List vw_C)[12]? = some (C, T, N) ∧ 8 < N ∧ Cond.fieldLink RX12 102 (T 8).1 (T 8).2.1 (T 8).2.2.1 ∈ x_bw := ⟨RX12, TX12, 47, rfl, x_ab rfl, (x_bw_in (x_t6 (i := 85) rfl) rfl)⟩
theorem xk_RX12_105 : x_okK RX12 105 210 1 x_mt false false := ⟨M_cX12_see, (x_g16 (x_g16 (x_g16 (x_g16 (x_g16 (x_g16 (x_g16 (x_g16 (x_g16 (x_g16 (x_g16 (x_g16 (x_g16 (x_g1 (x_g1 x_g0))))))))))))))), (x_bw_in (x_t7 (i := 12) rfl) rfl), rfl, (fun h => by cases h), (fun _ => by decide +kernel), xD_6⟩
theorem xp_RX12_102 : ∀ y : MethodName, ∃ (C : String) (T : u_T) (N : Nat), (vwCl : List vw_C)[12]? = some (C, T, N) ∧ 8 < N ∧ Cond.fieldLink RX12 102 (T 8).1 (T 8).2.1 (T 8).2.2.1 ∈ x_bw ∧ ((T 8).2.2.2 = true → (y : MethodName).name = "<init>" ∧ (T 8).1 = RX12) := fun y => ⟨RX12, TX12, 47, rfl, x_ab rfl, (x_bw_in (x_t6 (i := 85) rfl) rfl), fun h => by cases h⟩
theorem xf_RX12_109 : ∃ (C : String) (T : u_T) (N : Nat), (vwCl : List vw_C)[12]? = some (C, T, N) ∧ 9 < N ∧ Cond.fieldLink RX12 109 (T 9).1 (T 9).2.1 (T 9).2.2.1 ∈ x_bw := ⟨RX12, TX12, 47, rfl, x_ab rfl, (x_bw_in (x_t6 (i := 86) rfl) rfl)⟩
theorem xp_RX12_109 : ∀ y : MethodName, ∃ (C : String) (T : u_T) (N : Nat), (vwCl : List vw_C)[12]? = some (C, T, N) ∧ 9 < N ∧ Cond.fieldLink RX12 109 (T 9).1 (T 9).2.1 (T 9).2.2.1 ∈ x_bw ∧ ((T 9).2.2.2 = true → (y : MethodName).name = "<init>" ∧ (T 9).1 = RX12) := fun y => ⟨RX12, TX12, 47, rfl, x_ab rfl, (x_bw_in (x_t6 (i := 86) rfl) rfl), fun h => by cases h⟩
theorem xf_RX12_112 : ∃ (C : String) (T : u_T) (N : Nat), (vwCl : List vw_C)[12]? = some (C, T, N) ∧ 10 < N ∧ Cond.fieldLink RX12 112 (T 10).1 (T 10).2.1 (T 10).2.2.1 ∈ x_bw := ⟨RX12, TX12, 47, rfl, x_ab rfl, (x_bw_in (x_t6 (i := 87) rfl) rfl)⟩
theorem xp_RX12_112 : ∀ y : MethodName, ∃ (C : String) (T : u_T) (N : Nat), (vwCl : List vw_C)[12]? = some (C, T, N) ∧ 10 < N ∧ Cond.fieldLink RX12 112 (T 10).1 (T 10).2.1 (T 10).2.2.1 ∈ x_bw ∧ ((T 10).2.2.2 = true → (y : MethodName).name = "<init>" ∧ (T 10).1 = RX12) := fun y => ⟨RX12, TX12, 47, rfl, x_ab rfl, (x_bw_in (x_t6 (i := 87) rfl) rfl), fun h => by cases h⟩
theorem xc_RX12_115 : Cond.constantLong RX12 115 (Int64.ofNat 97) ∈ x_bw := (x_bw_in (x_t7 (i := 16) (by decide +kernel)) rfl)
theorem xc_RX12_117 : Cond.constantLong RX12 117 (Int64.ofNat 122) ∈ x_bw := (x_bw_in (x_t7 (i := 17) (by decide +kernel)) rfl)
theorem xc_RX12_119 : Cond.constantLong RX12 119 (Int64.ofNat 48) ∈ x_bw := (x_bw_in (x_t7 (i := 18) (by decide +kernel)) rfl)
theorem xc_RX12_121 : Cond.constantLong RX12 121 (Int64.ofNat 57) ∈ x_bw := (x_bw_in (x_t7 (i := 19) (by decide +kernel)) rfl)
theorem xf_RX12_123 : ∃ (C : String) (T : u_T) (N : Nat), (vwCl : List vw_C)[12]? = some (C, T, N) ∧ 11 < N ∧ Cond.fieldLink RX12 123 (T 11).1 (T 11).2.1 (T 11).2.2.1 ∈ x_bw := ⟨RX12, TX12, 47, rfl, x_ab rfl, (x_bw_in (x_t6 (i := 88) rfl) rfl)⟩
theorem xp_RX12_123 : ∀ y : MethodName, ∃ (C : String) (T : u_T) (N : Nat), (vwCl : List vw_C)[12]? = some (C, T, N) ∧ 11 < N ∧ Cond.fieldLink RX12 123 (T 11).1 (T 11).2.1 (T 11).2.2.1 ∈ x_bw ∧ ((T 11).2.2.2 = true → (y : MethodName).name = "<init>" ∧ (T 11).1 = RX12) := fun y => ⟨RX12, TX12, 47, rfl, x_ab rfl, (x_bw_in (x_t6 (i := 88) rfl) rfl), fun h => by cases h⟩
theorem xc_RX12_126 : Cond.constant RX12 126 (Int32.ofNat 99999) ∈ x_bw := (x_bw_in (x_t7 (i := 20) (by decide +kernel)) rfl)
theorem xo_RX12_127 : Cond.methodLink RX12 127 Lib.Math.min.name ∈ x_bw := (x_bw_in (x_t7 (i := 21) rfl) rfl)
theorem xf_RX12_133 : ∃ (C : String) (T : u_T) (N : Nat), (vwCl : List vw_C)[12]? = some (C, T, N) ∧ 12 < N ∧ Cond.fieldLink RX12 133 (T 12).1 (T 12).2.1 (T 12).2.2.1 ∈ x_bw := ⟨RX12, TX12, 47, rfl, x_ab rfl, (x_bw_in (x_t6 (i := 89) rfl) rfl)⟩
theorem xk_RX12_136 : x_okK RX12 136 212 0 x_mt false false := ⟨M_cX12_good, (x_g16 (x_g16 (x_g16 (x_g16 (x_g16 (x_g16 (x_g16 (x_g16 (x_g16 (x_g16 (x_g16 (x_g16 (x_g16 (x_g4 x_g0)))))))))))))), (x_bw_in (x_t7 (i := 22) rfl) rfl), rfl, (fun h => by cases h), (fun _ => by decide +kernel), xD_22⟩
theorem xp_RX12_133 : ∀ y : MethodName, ∃ (C : String) (T : u_T) (N : Nat), (vwCl : List vw_C)[12]? = some (C, T, N) ∧ 12 < N ∧ Cond.fieldLink RX12 133 (T 12).1 (T 12).2.1 (T 12).2.2.1 ∈ x_bw ∧ ((T 12).2.2.2 = true → (y : MethodName).name = "<init>" ∧ (T 12).1 = RX12) := fun y => ⟨RX12, TX12, 47, rfl, x_ab rfl, (x_bw_in (x_t6 (i := 89) rfl) rfl), fun h => by cases h⟩
theorem xo_RX12_140 : Cond.methodLink RX12 140 yJ0_length_8abf5 ∈ x_bw := (x_bw_in (x_t7 (i := 47) rfl) rfl)
theorem xo_RX12_145 : Cond.methodLink RX12 145 yJ0_charAt_5068e ∈ x_bw := (x_bw_in (x_t7 (i := 48) rfl) rfl)
theorem xD_42 : (parseMethodDescriptor "(Ljava/lang/String;)Z").map (fun d => d.parameters.length) = some 1 := by decide +kernel
theorem xk_RX12_149 : x_okK RX12 149 214 1 x_mt false false := ⟨M_cX12_is, (x_g16 (x_g16 (x_g16 (x_g16 (x_g16 (x_g16 (x_g16 (x_g16 (x_g16 (x_g16 (x_g16 (x_g16 (x_g16 (x_g4 (x_g1 (x_g1 x_g0)))))))))))))))), (x_bw_in (x_t7 (i := 43) rfl) rfl), rfl, (fun h => by cases h), (fun _ => by decide +kernel), xD_42⟩
theorem xk_RX12_153 : x_okK RX12 153 211 0 x_mt false false := ⟨M_cX12_advance, (x_g16 (x_g16 (x_g16 (x_g16 (x_g16 (x_g16 (x_g16 (x_g16 (x_g16 (x_g16 (x_g16 (x_g16 (x_g16 (x_g1 (x_g1 (x_g1 x_g0)))))))))))))))), (x_bw_in (x_t7 (i := 8) rfl) rfl), rfl, (fun h => by cases h), (fun _ => by decide +kernel), xD_8⟩
theorem xk_RX12_156 : x_okK RX12 156 215 1 x_mt false false := ⟨M_cX12_takes, (x_g16 (x_g16 (x_g16 (x_g16 (x_g16 (x_g16 (x_g16 (x_g16 (x_g16 (x_g16 (x_g16 (x_g16 (x_g16 (x_g4 (x_g1 (x_g1 (x_g1 x_g0))))))))))))))))), (x_bw_in (x_t7 (i := 39) rfl) rfl), rfl, (fun h => by cases h), (fun _ => by decide +kernel), xD_42⟩
theorem xk_RX12_159 : x_okK RX12 159 213 1 x_mt false false := ⟨M_cX12_errs, (x_g16 (x_g16 (x_g16 (x_g16 (x_g16 (x_g16 (x_g16 (x_g16 (x_g16 (x_g16 (x_g16 (x_g16 (x_g16 (x_g4 (x_g1 x_g0))))))))))))))), (x_bw_in (x_t7 (i := 49) rfl) rfl), rfl, (fun h => by cases h), (fun _ => by decide +kernel), xD_18⟩
theorem xD_43 : (parseMethodDescriptor "(Ljava/lang/String;)V").map (fun d => d.parameters.length) = some 1 := by decide +kernel
theorem xk_RX12_163 : x_okK RX12 163 216 1 x_mt false false := ⟨M_cX12_needs, (x_g16 (x_g16 (x_g16 (x_g16 (x_g16 (x_g16 (x_g16 (x_g16 (x_g16 (x_g16 (x_g16 (x_g16 (x_g16 (x_g4 (x_g4 x_g0))))))))))))))), (x_bw_in (x_t7 (i := 35) rfl) rfl), rfl, (fun h => by cases h), (fun _ => by decide +kernel), xD_43⟩
theorem xk_RX12_167 : x_okK RX12 167 217 2 x_mt false false := ⟨M_cX12_number, (x_g16 (x_g16 (x_g16 (x_g16 (x_g16 (x_g16 (x_g16 (x_g16 (x_g16 (x_g16 (x_g16 (x_g16 (x_g16 (x_g4 (x_g4 (x_g1 x_g0)))))))))))))))), (x_bw_in (x_t7 (i := 58) rfl) rfl), rfl, (fun h => by cases h), (fun _ => by decide +kernel), xD_3⟩
theorem xD_44 : (parseMethodDescriptor "(Ljava/lang/String;II)I").map (fun d => d.parameters.length) = some 3 := by decide +kernel
theorem xk_RX12_174 : x_okK RX12 174 218 3 x_mt false false := ⟨M_cX12_told, (x_g16 (x_g16 (x_g16 (x_g16 (x_g16 (x_g16 (x_g16 (x_g16 (x_g16 (x_g16 (x_g16 (x_g16 (x_g16 (x_g4 (x_g4 (x_g1 (x_g1 x_g0))))))))))))))))), (x_bw_in (x_t7 (i := 54) rfl) rfl), rfl, (fun h => by cases h), (fun _ => by decide +kernel), xD_44⟩
theorem xk_RX12_185 : x_okK RX12 185 222 1 x_mt false false := ⟨M_cX12_freshStay, (x_g16 (x_g16 (x_g16 (x_g16 (x_g16 (x_g16 (x_g16 (x_g16 (x_g16 (x_g16 (x_g16 (x_g16 (x_g16 (x_g4 (x_g4 (x_g4 (x_g1 (x_g1 x_g0)))))))))))))))))), (x_bw_in (x_t7 (i := 81) rfl) rfl), rfl, (fun h => by cases h), (fun _ => by decide +kernel), xD_6⟩
theorem xk_RX12_188 : x_okK RX12 188 220 0 x_mt false false := ⟨M_cX12_freshHoles, (x_g16 (x_g16 (x_g16 (x_g16 (x_g16 (x_g16 (x_g16 (x_g16 (x_g16 (x_g16 (x_g16 (x_g16 (x_g16 (x_g4 (x_g4 (x_g4 x_g0)))))))))))))))), (x_bw_in (x_t7 (i := 93) rfl) rfl), rfl, (fun h => by cases h), (fun _ => by decide +kernel), xD_2⟩
theorem xk_RX12_191 : x_okK RX12 191 224 0 x_mt false false := ⟨M_cX12_isNextHole, (x_g16 (x_g16 (x_g16 (x_g16 (x_g16 (x_g16 (x_g16 (x_g16 (x_g16 (x_g16 (x_g16 (x_g16 (x_g16 (x_g16 x_g0)))))))))))))), (x_bw_in (x_t7 (i := 89) rfl) rfl), rfl, (fun h => by cases h), (fun _ => by decide +kernel), xD_22⟩
theorem xk_RX12_194 : x_okK RX12 194 225 1 x_mt false false := ⟨M_cX12_isFreshComing, (x_g16 (x_g16 (x_g16 (x_g16 (x_g16 (x_g16 (x_g16 (x_g16 (x_g16 (x_g16 (x_g16 (x_g16 (x_g16 (x_g16 (x_g1 x_g0))))))))))))))), (x_bw_in (x_t7 (i := 97) rfl) rfl), rfl, (fun h => by cases h), (fun _ => by decide +kernel), xD_7⟩
theorem xk_RX12_198 : x_okK RX12 198 227 1 x_mt false false := ⟨M_cX12_readHole, (x_g16 (x_g16 (x_g16 (x_g16 (x_g16 (x_g16 (x_g16 (x_g16 (x_g16 (x_g16 (x_g16 (x_g16 (x_g16 (x_g16 (x_g1 (x_g1 (x_g1 x_g0))))))))))))))))), (x_bw_in (x_t7 (i := 105) rfl) rfl), rfl, (fun h => by cases h), (fun _ => by decide +kernel), xD_6⟩
theorem xk_RX12_224 : x_okK RX12 224 223 0 x_mt false false := ⟨M_cX12_readStay, (x_g16 (x_g16 (x_g16 (x_g16 (x_g16 (x_g16 (x_g16 (x_g16 (x_g16 (x_g16 (x_g16 (x_g16 (x_g16 (x_g4 (x_g4 (x_g4 (x_g1 (x_g1 (x_g1 x_g0))))))))))))))))))), (x_bw_in (x_t7 (i := 76) rfl) rfl), rfl, (fun h => by cases h), (fun _ => by decide +kernel), xD_8⟩
theorem xk_RX12_227 : x_okK RX12 227 226 0 x_mt false false := ⟨M_cX12_readShut, (x_g16 (x_g16 (x_g16 (x_g16 (x_g16 (x_g16 (x_g16 (x_g16 (x_g16 (x_g16 (x_g16 (x_g16 (x_g16 (x_g16 (x_g1 (x_g1 x_g0)))))))))))))))), (x_bw_in (x_t7 (i := 85) rfl) rfl), rfl, (fun h => by cases h), (fun _ => by decide +kernel), xD_8⟩
theorem xD_45 : (parseMethodDescriptor "(ZZ)V").map (fun d => d.parameters.length) = some 2 := by decide +kernel
theorem xk_RX12_230 : x_okK RX12 230 228 2 x_mt false false := ⟨M_cX12_readComing, (x_g16 (x_g16 (x_g16 (x_g16 (x_g16 (x_g16 (x_g16 (x_g16 (x_g16 (x_g16 (x_g16 (x_g16 (x_g16 (x_g16 (x_g4 x_g0))))))))))))))), (x_bw_in (x_t7 (i := 101) rfl) rfl), rfl, (fun h => by cases h), (fun _ => by decide +kernel), xD_45⟩
theorem xk_RX12_234 : x_okK RX12 234 229 0 x_mt false false := ⟨M_cX12_readPlayer, (x_g16 (x_g16 (x_g16 (x_g16 (x_g16 (x_g16 (x_g16 (x_g16 (x_g16 (x_g16 (x_g16 (x_g16 (x_g16 (x_g16 (x_g4 (x_g1 x_g0)))))))))))))))), (x_bw_in (x_t7 (i := 109) rfl) rfl), rfl, (fun h => by cases h), (fun _ => by decide +kernel), xD_8⟩
theorem xk_RX12_239 : x_okK RX12 239 221 0 x_mt false false := ⟨M_cX12_readFirst, (x_g16 (x_g16 (x_g16 (x_g16 (x_g16 (x_g16 (x_g16 (x_g16 (x_g16 (x_g16 (x_g16 (x_g16 (x_g16 (x_g4 (x_g4 (x_g4 (x_g1 x_g0))))))))))))))))), (x_bw_in (x_t7 (i := 30) rfl) rfl), rfl, (fun h => by cases h), (fun _ => by decide +kernel), xD_8⟩
theorem xk_RX12_242 : x_okK RX12 242 230 0 x_mt false false := ⟨M_cX12_readNext, (x_g16 (x_g16 (x_g16 (x_g16 (x_g16 (x_g16 (x_g16 (x_g16 (x_g16 (x_g16 (x_g16 (x_g16 (x_g16 (x_g16 (x_g4 (x_g1 (x_g1 x_g0))))))))))))))))), (x_bw_in (x_t7 (i := 65) rfl) rfl), rfl, (fun h => by cases h), (fun _ => by decide +kernel), xD_8⟩
theorem xp_RX12_99 : ∀ y : MethodName, ∃ (C : String) (T : u_T) (N : Nat), (vwCl : List vw_C)[12]? = some (C, T, N) ∧ 7 < N ∧ Cond.fieldLink RX12 99 (T 7).1 (T 7).2.1 (T 7).2.2.1 ∈ x_bw ∧ ((T 7).2.2.2 = true → (y : MethodName).name = "<init>" ∧ (T 7).1 = RX12) := fun y => ⟨RX12, TX12, 47, rfl, x_ab rfl, (x_bw_in (x_t6 (i := 84) rfl) rfl), fun h => by cases h⟩
theorem xk_RX12_245 : x_okK RX12 245 231 0 x_mt false false := ⟨M_cX12_readLine, (x_g16 (x_g16 (x_g16 (x_g16 (x_g16 (x_g16 (x_g16 (x_g16 (x_g16 (x_g16 (x_g16 (x_g16 (x_g16 (x_g16 (x_g4 (x_g1 (x_g1 (x_g1 x_g0)))))))))))))))))), (x_bw_in (x_t7 (i := 26) rfl) rfl), rfl, (fun h => by cases h), (fun _ => by decide +kernel), xD_8⟩
theorem xf_RX12_248 : ∃ (C : String) (T : u_T) (N : Nat), (vwCl : List vw_C)[12]? = some (C, T, N) ∧ 18 < N ∧ Cond.fieldLink RX12 248 (T 18).1 (T 18).2.1 (T 18).2.2.1 ∈ x_bw := ⟨RX12, TX12, 47, rfl, x_ab rfl, (x_bw_in (x_t6 (i := 95) rfl) rfl)⟩
theorem xk_RX12_251 : x_okK RX12 251 234 0 x_mt false false := ⟨M_cX12_nextTick, (x_g16 (x_g16 (x_g16 (x_g16 (x_g16 (x_g16 (x_g16 (x_g16 (x_g16 (x_g16 (x_g16 (x_g16 (x_g16 (x_g16 (x_g4 (x_g4 (x_g1 (x_g1 x_g0)))))))))))))))))), (x_bw_in (x_t7 (i := 172) rfl) rfl), rfl, (fun h => by cases h), (fun _ => by decide +kernel), xD_2⟩
theorem xk_RX12_254 : x_okK RX12 254 233 1 x_mt false false := ⟨M_cX12_stayIn, (x_g16 (x_g16 (x_g16 (x_g16 (x_g16 (x_g16 (x_g16 (x_g16 (x_g16 (x_g16 (x_g16 (x_g16 (x_g16 (x_g16 (x_g4 (x_g4 (x_g1 x_g0))))))))))))))))), (x_bw_in (x_t7 (i := 152) rfl) rfl), rfl, (fun h => by cases h), (fun _ => by decide +kernel), xD_6⟩
theorem xp_RX12_248 : ∀ y : MethodName, ∃ (C : String) (T : u_T) (N : Nat), (vwCl : List vw_C)[12]? = some (C, T, N) ∧ 18 < N ∧ Cond.fieldLink RX12 248 (T 18).1 (T 18).2.1 (T 18).2.2.1 ∈ x_bw ∧ ((T 18).2.2.2 = true → (y : MethodName).name = "<init>" ∧ (T 18).1 = RX12) := fun y => ⟨RX12, TX12, 47, rfl, x_ab rfl, (x_bw_in (x_t6 (i := 95) rfl) rfl), fun h => by cases h⟩
theorem xk_RX12_257 : x_okK RX12 257 235 0 x_mt false false := ⟨M_cX12_mayCome, (x_g16 (x_g16 (x_g16 (x_g16 (x_g16 (x_g16 (x_g16 (x_g16 (x_g16 (x_g16 (x_g16 (x_g16 (x_g16 (x_g16 (x_g4 (x_g4 (x_g1 (x_g1 (x_g1 x_g0))))))))))))))))))), (x_bw_in (x_t7 (i := 168) rfl) rfl), rfl, (fun h => by cases h), (fun _ => by decide +kernel), xD_22⟩
theorem xk_RX12_260 : x_okK RX12 260 206 2 x_mt false false := ⟨M_cX12_ofComing, (x_g16 (x_g16 (x_g16 (x_g16 (x_g16 (x_g16 (x_g16 (x_g16 (x_g16 (x_g16 (x_g16 (x_g16 (x_g4 (x_g4 (x_g4 (x_g1 (x_g1 x_g0))))))))))))))))), (x_bw_in (x_t7 (i := 127) rfl) rfl), rfl, (fun h => by cases h), (fun _ => by decide +kernel), xD_3⟩
theorem xk_RX12_263 : x_okK RX12 263 236 3 x_mt false false := ⟨M_cX12_come, (x_g16 (x_g16 (x_g16 (x_g16 (x_g16 (x_g16 (x_g16 (x_g16 (x_g16 (x_g16 (x_g16 (x_g16 (x_g16 (x_g16 (x_g4 (x_g4 (x_g4 x_g0))))))))))))))))), (x_bw_in (x_t7 (i := 176) rfl) rfl), rfl, (fun h => by cases h), (fun _ => by decide +kernel), xD_0⟩
theorem xk_RX12_267 : x_okK RX12 267 204 1 x_mt false false := ⟨M_cX12_isComing, (x_g16 (x_g16 (x_g16 (x_g16 (x_g16 (x_g16 (x_g16 (x_g16 (x_g16 (x_g16 (x_g16 (x_g16 (x_g4 (x_g4 (x_g4 x_g0))))))))))))))), (x_bw_in (x_t7 (i := 123) rfl) rfl), rfl, (fun h => by cases h), (fun _ => by decide +kernel), xD_7⟩
theorem xk_RX12_270 : x_okK RX12 270 205 1 x_mt false false := ⟨M_cX12_isPlayer, (x_g16 (x_g16 (x_g16 (x_g16 (x_g16 (x_g16 (x_g16 (x_g16 (x_g16 (x_g16 (x_g16 (x_g16 (x_g4 (x_g4 (x_g4 (x_g1 x_g0)))))))))))))))), (x_bw_in (x_t7 (i := 135) rfl) rfl), rfl, (fun h => by cases h), (fun _ => by decide +kernel), xD_7⟩
theorem xc_RX12_273 : Cond.constantLong RX12 273 (Int64.ofNat 4) ∈ x_bw := (x_bw_in (x_t7 (i := 139) (by decide +kernel)) rfl)
theorem xk_RX12_275 : x_okK RX12 275 207 2 x_mt false false := ⟨M_cX12_of, (x_g16 (x_g16 (x_g16 (x_g16 (x_g16 (x_g16 (x_g16 (x_g16 (x_g16 (x_g16 (x_g16 (x_g16 (x_g4 (x_g4 (x_g4 (x_g1 (x_g1 (x_g1 x_g0)))))))))))))))))), (x_bw_in (x_t7 (i := 140) rfl) rfl), rfl, (fun h => by cases h), (fun _ => by decide +kernel), xD_3⟩
theorem xD_46 : (parseMethodDescriptor "(J)Z").map (fun d => d.parameters.length) = some 1 := by decide +kernel
theorem xk_RX12_278 : x_okK RX12 278 203 1 x_mt false false := ⟨M_cX12_isTick, (x_g16 (x_g16 (x_g16 (x_g16 (x_g16 (x_g16 (x_g16 (x_g16 (x_g16 (x_g16 (x_g16 (x_g16 (x_g4 (x_g4 (x_g1 (x_g1 (x_g1 x_g0))))))))))))))))), (x_bw_in (x_t7 (i := 148) rfl) rfl), rfl, (fun h => by cases h), (fun _ => by decide +kernel), xD_46⟩
theorem xk_RX12_282 : x_okK RX12 282 199 0 x_mt false false := ⟨M_cX12_isBoard, (x_g16 (x_g16 (x_g16 (x_g16 (x_g16 (x_g16 (x_g16 (x_g16 (x_g16 (x_g16 (x_g16 (x_g16 (x_g4 (x_g1 (x_g1 (x_g1 x_g0)))))))))))))))), (x_bw_in (x_t7 (i := 160) rfl) rfl), rfl, (fun h => by cases h), (fun _ => by decide +kernel), xD_22⟩
theorem xk_RX12_285 : x_okK RX12 285 237 0 x_mt false false := ⟨M_cX12_lay, (x_g16 (x_g16 (x_g16 (x_g16 (x_g16 (x_g16 (x_g16 (x_g16 (x_g16 (x_g16 (x_g16 (x_g16 (x_g16 (x_g16 (x_g4 (x_g4 (x_g4 (x_g1 x_g0)))))))))))))))))), (x_bw_in (x_t7 (i := 164) rfl) rfl), rfl, (fun h => by cases h), (fun _ => by decide +kernel), xD_8⟩
theorem xk_RX12_288 : x_okK RX12 288 243 1 x_mt false false := ⟨M_cX12_isInGame, (x_g16 (x_g16 (x_g16 (x_g16 (x_g16 (x_g16 (x_g16 (x_g16 (x_g16 (x_g16 (x_g16 (x_g16 (x_g16 (x_g16 (x_g16 (x_g1 (x_g1 (x_g1 x_g0)))))))))))))))))), (x_bw_in (x_t7 (i := 184) rfl) rfl), rfl, (fun h => by cases h), (fun _ => by decide +kernel), xD_7⟩
theorem xk_RX12_291 : x_okK RX12 291 238 2 x_mt false false := ⟨M_cX12_inGame, (x_g16 (x_g16 (x_g16 (x_g16 (x_g16 (x_g16 (x_g16 (x_g16 (x_g16 (x_g16 (x_g16 (x_g16 (x_g16 (x_g16 (x_g4 (x_g4 (x_g4 (x_g1 (x_g1 x_g0))))))))))))))))))), (x_bw_in (x_t7 (i := 188) rfl) rfl), rfl, (fun h => by cases h), (fun _ => by decide +kernel), xD_3⟩
theorem xk_RX12_294 : x_okK RX12 294 245 1 x_mt false false := ⟨M_cX12_upIn, (x_g16 (x_g16 (x_g16 (x_g16 (x_g16 (x_g16 (x_g16 (x_g16 (x_g16 (x_g16 (x_g16 (x_g16 (x_g16 (x_g16 (x_g16 (x_g4 (x_g1 x_g0))))))))))))))))), (x_bw_in (x_t7 (i := 196) rfl) rfl), rfl, (fun h => by cases h), (fun _ => by decide +kernel), xD_6⟩
theorem xo_RX12_297 : Cond.methodLink RX12 297 Lib.Math.abs.name ∈ x_bw := (x_bw_in (x_t7 (i := 220) rfl) rfl)
theorem xk_RX12_300 : x_okK RX12 300 201 1 x_mt false false := ⟨M_cX12_isHole, (x_g16 (x_g16 (x_g16 (x_g16 (x_g16 (x_g16 (x_g16 (x_g16 (x_g16 (x_g16 (x_g16 (x_g16 (x_g4 (x_g4 (x_g1 x_g0))))))))))))))), (x_bw_in (x_t7 (i := 208) rfl) rfl), rfl, (fun h => by cases h), (fun _ => by decide +kernel), xD_46⟩
theorem xk_RX12_303 : x_okK RX12 303 248 2 x_mt false false := ⟨M_cX12_stepsOf, (x_g16 (x_g16 (x_g16 (x_g16 (x_g16 (x_g16 (x_g16 (x_g16 (x_g16 (x_g16 (x_g16 (x_g16 (x_g16 (x_g16 (x_g16 (x_g4 (x_g4 x_g0))))))))))))))))), (x_bw_in (x_t7 (i := 216) rfl) rfl), rfl, (fun h => by cases h), (fun _ => by decide +kernel), xD_3⟩
theorem xk_RX12_306 : x_okK RX12 306 250 2 x_mt false false := ⟨M_cX12_paceIn, (x_g16 (x_g16 (x_g16 (x_g16 (x_g16 (x_g16 (x_g16 (x_g16 (x_g16 (x_g16 (x_g16 (x_g16 (x_g16 (x_g16 (x_g16 (x_g4 (x_g4 (x_g1 (x_g1 x_g0))))))))))))))))))), (x_bw_in (x_t7 (i := 225) rfl) rfl), rfl, (fun h => by cases h), (fun _ => by decide +kernel), xD_3⟩
theorem xf_RX12_309 : ∃ (C : String) (T : u_T) (N : Nat), (vwCl : List vw_C)[12]? = some (C, T, N) ∧ 19 < N ∧ Cond.fieldLink RX12 309 (T 19).1 (T 19).2.1 (T 19).2.2.1 ∈ x_bw := ⟨RX12, TX12, 47, rfl, x_ab rfl, (x_bw_in (x_t6 (i := 96) rfl) rfl)⟩
theorem xp_RX12_309 : ∀ y : MethodName, ∃ (C : String) (T : u_T) (N : Nat), (vwCl : List vw_C)[12]? = some (C, T, N) ∧ 19 < N ∧ Cond.fieldLink RX12 309 (T 19).1 (T 19).2.1 (T 19).2.2.1 ∈ x_bw ∧ ((T 19).2.2.2 = true → (y : MethodName).name = "<init>" ∧ (T 19).1 = RX12) := fun y => ⟨RX12, TX12, 47, rfl, x_ab rfl, (x_bw_in (x_t6 (i := 96) rfl) rfl), fun h => by cases h⟩
theorem xf_RX12_312 : ∃ (C : String) (T : u_T) (N : Nat), (vwCl : List vw_C)[12]? = some (C, T, N) ∧ 20 < N ∧ Cond.fieldLink RX12 312 (T 20).1 (T 20).2.1 (T 20).2.2.1 ∈ x_bw := ⟨RX12, TX12, 47, rfl, x_ab rfl, (x_bw_in (x_t6 (i := 97) rfl) rfl)⟩
theorem xp_RX12_312 : ∀ y : MethodName, ∃ (C : String) (T : u_T) (N : Nat), (vwCl : List vw_C)[12]? = some (C, T, N) ∧ 20 < N ∧ Cond.fieldLink RX12 312 (T 20).1 (T 20).2.1 (T 20).2.2.1 ∈ x_bw ∧ ((T 20).2.2.2 = true → (y : MethodName).name = "<init>" ∧ (T 20).1 = RX12) := fun y => ⟨RX12, TX12, 47, rfl, x_ab rfl, (x_bw_in (x_t6 (i := 97) rfl) rfl), fun h => by cases h⟩
theorem xf_RX12_315 : ∃ (C : String) (T : u_T) (N : Nat), (vwCl : List vw_C)[12]? = some (C, T, N) ∧ 21 < N ∧ Cond.fieldLink RX12 315 (T 21).1 (T 21).2.1 (T 21).2.2.1 ∈ x_bw := ⟨RX12, TX12, 47, rfl, x_ab rfl, (x_bw_in (x_t6 (i := 98) rfl) rfl)⟩
theorem xp_RX12_315 : ∀ y : MethodName, ∃ (C : String) (T : u_T) (N : Nat), (vwCl : List vw_C)[12]? = some (C, T, N) ∧ 21 < N ∧ Cond.fieldLink RX12 315 (T 21).1 (T 21).2.1 (T 21).2.2.1 ∈ x_bw ∧ ((T 21).2.2.2 = true → (y : MethodName).name = "<init>" ∧ (T 21).1 = RX12) := fun y => ⟨RX12, TX12, 47, rfl, x_ab rfl, (x_bw_in (x_t6 (i := 98) rfl) rfl), fun h => by cases h⟩
theorem xf_RX12_318 : ∃ (C : String) (T : u_T) (N : Nat), (vwCl : List vw_C)[12]? = some (C, T, N) ∧ 22 < N ∧ Cond.fieldLink RX12 318 (T 22).1 (T 22).2.1 (T 22).2.2.1 ∈ x_bw := ⟨RX12, TX12, 47, rfl, x_ab rfl, (x_bw_in (x_t6 (i := 99) rfl) rfl)⟩
theorem xp_RX12_318 : ∀ y : MethodName, ∃ (C : String) (T : u_T) (N : Nat), (vwCl : List vw_C)[12]? = some (C, T, N) ∧ 22 < N ∧ Cond.fieldLink RX12 318 (T 22).1 (T 22).2.1 (T 22).2.2.1 ∈ x_bw ∧ ((T 22).2.2.2 = true → (y : MethodName).name = "<init>" ∧ (T 22).1 = RX12) := fun y => ⟨RX12, TX12, 47, rfl, x_ab rfl, (x_bw_in (x_t6 (i := 99) rfl) rfl), fun h => by cases h⟩
theorem xf_RX12_321 : ∃ (C : String) (T : u_T) (N : Nat), (vwCl : List vw_C)[12]? = some (C, T, N) ∧ 23 < N ∧ Cond.fieldLink RX12 321 (T 23).1 (T 23).2.1 (T 23).2.2.1 ∈ x_bw := ⟨RX12, TX12, 47, rfl, x_ab rfl, (x_bw_in (x_t6 (i := 100) rfl) rfl)⟩
theorem xp_RX12_321 : ∀ y : MethodName, ∃ (C : String) (T : u_T) (N : Nat), (vwCl : List vw_C)[12]? = some (C, T, N) ∧ 23 < N ∧ Cond.fieldLink RX12 321 (T 23).1 (T 23).2.1 (T 23).2.2.1 ∈ x_bw ∧ ((T 23).2.2.2 = true → (y : MethodName).name = "<init>" ∧ (T 23).1 = RX12) := fun y => ⟨RX12, TX12, 47, rfl, x_ab rfl, (x_bw_in (x_t6 (i := 100) rfl) rfl), fun h => by cases h⟩
theorem xf_RX12_324 : ∃ (C : String) (T : u_T) (N : Nat), (vwCl : List vw_C)[12]? = some (C, T, N) ∧ 24 < N ∧ Cond.fieldLink RX12 324 (T 24).1 (T 24).2.1 (T 24).2.2.1 ∈ x_bw := ⟨RX12, TX12, 47, rfl, x_ab rfl, (x_bw_in (x_t6 (i := 101) rfl) rfl)⟩
theorem xp_RX12_324 : ∀ y : MethodName, ∃ (C : String) (T : u_T) (N : Nat), (vwCl : List vw_C)[12]? = some (C, T, N) ∧ 24 < N ∧ Cond.fieldLink RX12 324 (T 24).1 (T 24).2.1 (T 24).2.2.1 ∈ x_bw ∧ ((T 24).2.2.2 = true → (y : MethodName).name = "<init>" ∧ (T 24).1 = RX12) := fun y => ⟨RX12, TX12, 47, rfl, x_ab rfl, (x_bw_in (x_t6 (i := 101) rfl) rfl), fun h => by cases h⟩
theorem xk_RX12_328 : x_okK RX12 328 252 1 x_mt false false := ⟨M_cX12_asTold, (x_g16 (x_g16 (x_g16 (x_g16 (x_g16 (x_g16 (x_g16 (x_g16 (x_g16 (x_g16 (x_g16 (x_g16 (x_g16 (x_g16 (x_g16 (x_g4 (x_g4 (x_g4 x_g0)))))))))))))))))), (x_bw_in (x_t7 (i := 233) rfl) rfl), rfl, (fun h => by cases h), (fun _ => by decide +kernel), xD_18⟩
theorem xk_RX12_331 : x_okK RX12 331 253 1 x_mt false false := ⟨M_cX12_awareOf, (x_g16 (x_g16 (x_g16 (x_g16 (x_g16 (x_g16 (x_g16 (x_g16 (x_g16 (x_g16 (x_g16 (x_g16 (x_g16 (x_g16 (x_g16 (x_g4 (x_g4 (x_g4 (x_g1 x_g0))))))))))))))))))), (x_bw_in (x_t7 (i := 237) rfl) rfl), rfl, (fun h => by cases h), (fun _ => by decide +kernel), xD_6⟩
theorem xf_RX12_334 : ∃ (C : String) (T : u_T) (N : Nat), (vwCl : List vw_C)[12]? = some (C, T, N) ∧ 32 < N ∧ Cond.fieldLink RX12 334 (T 32).1 (T 32).2.1 (T 32).2.2.1 ∈ x_bw := ⟨RX12, TX12, 47, rfl, x_ab rfl, (x_bw_in (x_t6 (i := 109) rfl) rfl)⟩
theorem xo_RX12_337 : Cond.methodLink RX12 337 Lib.Math.max.name ∈ x_bw := (x_bw_in (x_t8 (i := 25) rfl) rfl)
theorem xf_RX12_340 : ∃ (C : String) (T : u_T) (N : Nat), (vwCl : List vw_C)[12]? = some (C, T, N) ∧ 31 < N ∧ Cond.fieldLink RX12 340 (T 31).1 (T 31).2.1 (T 31).2.2.1 ∈ x_bw := ⟨RX12, TX12, 47, rfl, x_ab rfl, (x_bw_in (x_t6 (i := 108) rfl) rfl)⟩
theorem xf_RX12_343 : ∃ (C : String) (T : u_T) (N : Nat), (vwCl : List vw_C)[12]? = some (C, T, N) ∧ 33 < N ∧ Cond.fieldLink RX12 343 (T 33).1 (T 33).2.1 (T 33).2.2.1 ∈ x_bw := ⟨RX12, TX12, 47, rfl, x_ab rfl, (x_bw_in (x_t6 (i := 110) rfl) rfl)⟩
theorem xp_RX12_343 : ∀ y : MethodName, ∃ (C : String) (T : u_T) (N : Nat), (vwCl : List vw_C)[12]? = some (C, T, N) ∧ 33 < N ∧ Cond.fieldLink RX12 343 (T 33).1 (T 33).2.1 (T 33).2.2.1 ∈ x_bw ∧ ((T 33).2.2.2 = true → (y : MethodName).name = "<init>" ∧ (T 33).1 = RX12) := fun y => ⟨RX12, TX12, 47, rfl, x_ab rfl, (x_bw_in (x_t6 (i := 110) rfl) rfl), fun h => by cases h⟩
theorem xp_RX12_340 : ∀ y : MethodName, ∃ (C : String) (T : u_T) (N : Nat), (vwCl : List vw_C)[12]? = some (C, T, N) ∧ 31 < N ∧ Cond.fieldLink RX12 340 (T 31).1 (T 31).2.1 (T 31).2.2.1 ∈ x_bw ∧ ((T 31).2.2.2 = true → (y : MethodName).name = "<init>" ∧ (T 31).1 = RX12) := fun y => ⟨RX12, TX12, 47, rfl, x_ab rfl, (x_bw_in (x_t6 (i := 108) rfl) rfl), fun h => by cases h⟩
theorem xp_RX12_334 : ∀ y : MethodName, ∃ (C : String) (T : u_T) (N : Nat), (vwCl : List vw_C)[12]? = some (C, T, N) ∧ 32 < N ∧ Cond.fieldLink RX12 334 (T 32).1 (T 32).2.1 (T 32).2.2.1 ∈ x_bw ∧ ((T 32).2.2.2 = true → (y : MethodName).name = "<init>" ∧ (T 32).1 = RX12) := fun y => ⟨RX12, TX12, 47, rfl, x_ab rfl, (x_bw_in (x_t6 (i := 109) rfl) rfl), fun h => by cases h⟩
theorem xf_RX12_346 : ∃ (C : String) (T : u_T) (N : Nat), (vwCl : List vw_C)[12]? = some (C, T, N) ∧ 29 < N ∧ Cond.fieldLink RX12 346 (T 29).1 (T 29).2.1 (T 29).2.2.1 ∈ x_bw := ⟨RX12, TX12, 47, rfl, x_ab rfl, (x_bw_in (x_t6 (i := 106) rfl) rfl)⟩
theorem xp_RX12_346 : ∀ y : MethodName, ∃ (C : String) (T : u_T) (N : Nat), (vwCl : List vw_C)[12]? = some (C, T, N) ∧ 29 < N ∧ Cond.fieldLink RX12 346 (T 29).1 (T 29).2.1 (T 29).2.2.1 ∈ x_bw ∧ ((T 29).2.2.2 = true → (y : MethodName).name = "<init>" ∧ (T 29).1 = RX12) := fun y => ⟨RX12, TX12, 47, rfl, x_ab rfl, (x_bw_in (x_t6 (i := 106) rfl) rfl), fun h => by cases h⟩
theorem xf_RX12_349 : ∃ (C : String) (T : u_T) (N : Nat), (vwCl : List vw_C)[12]? = some (C, T, N) ∧ 30 < N ∧ Cond.fieldLink RX12 349 (T 30).1 (T 30).2.1 (T 30).2.2.1 ∈ x_bw := ⟨RX12, TX12, 47, rfl, x_ab rfl, (x_bw_in (x_t6 (i := 107) rfl) rfl)⟩
theorem xp_RX12_349 : ∀ y : MethodName, ∃ (C : String) (T : u_T) (N : Nat), (vwCl : List vw_C)[12]? = some (C, T, N) ∧ 30 < N ∧ Cond.fieldLink RX12 349 (T 30).1 (T 30).2.1 (T 30).2.2.1 ∈ x_bw ∧ ((T 30).2.2.2 = true → (y : MethodName).name = "<init>" ∧ (T 30).1 = RX12) := fun y => ⟨RX12, TX12, 47, rfl, x_ab rfl, (x_bw_in (x_t6 (i := 107) rfl) rfl), fun h => by cases h⟩
theorem xk_RX12_352 : x_okK RX12 352 256 1 x_mt false false := ⟨M_cX12_isHis, (x_g16 (x_g16 (x_g16 (x_g16 (x_g16 (x_g16 (x_g16 (x_g16 (x_g16 (x_g16 (x_g16 (x_g16 (x_g16 (x_g16 (x_g16 (x_g16 x_g0)))))))))))))))), (x_bw_in (x_t8 (i := 17) rfl) rfl), rfl, (fun h => by cases h), (fun _ => by decide +kernel), xD_7⟩
theorem xk_RX12_355 : x_okK RX12 355 255 2 x_mt false false := ⟨M_cX12_goes, (x_g16 (x_g16 (x_g16 (x_g16 (x_g16 (x_g16 (x_g16 (x_g16 (x_g16 (x_g16 (x_g16 (x_g16 (x_g16 (x_g16 (x_g16 (x_g4 (x_g4 (x_g4 (x_g1 (x_g1 (x_g1 x_g0))))))))))))))))))))), (x_bw_in (x_t8 (i := 21) rfl) rfl), rfl, (fun h => by cases h), (fun _ => by decide +kernel), xD_23⟩
theorem xk_RX12_359 : x_okK RX12 359 257 1 x_mt false false := ⟨M_cX12_goesFor, (x_g16 (x_g16 (x_g16 (x_g16 (x_g16 (x_g16 (x_g16 (x_g16 (x_g16 (x_g16 (x_g16 (x_g16 (x_g16 (x_g16 (x_g16 (x_g16 (x_g1 x_g0))))))))))))))))), (x_bw_in (x_t8 (i := 13) rfl) rfl), rfl, (fun h => by cases h), (fun _ => by decide +kernel), xD_18⟩
theorem xk_RX12_362 : x_okK RX12 362 258 0 x_mt false false := ⟨M_cX12_run, (x_g16 (x_g16 (x_g16 (x_g16 (x_g16 (x_g16 (x_g16 (x_g16 (x_g16 (x_g16 (x_g16 (x_g16 (x_g16 (x_g16 (x_g16 (x_g16 (x_g1 (x_g1 x_g0)))))))))))))))))), (x_bw_in (x_t8 (i := 9) rfl) rfl), rfl, (fun h => by cases h), (fun _ => by decide +kernel), xD_8⟩
theorem xk_RX12_365 : x_okK RX12 365 259 1 x_mt false false := ⟨M_cX12_runAsTold, (x_g16 (x_g16 (x_g16 (x_g16 (x_g16 (x_g16 (x_g16 (x_g16 (x_g16 (x_g16 (x_g16 (x_g16 (x_g16 (x_g16 (x_g16 (x_g16 (x_g1 (x_g1 (x_g1 x_g0))))))))))))))))))), (x_bw_in (x_t8 (i := 5) rfl) rfl), rfl, (fun h => by cases h), (fun _ => by decide +kernel), xD_18⟩
theorem xk_RX12_368 : x_okK RX12 368 266 2 x_mt false true := ⟨M_cX12_cell, (x_g16 (x_g16 (x_g16 (x_g16 (x_g16 (x_g16 (x_g16 (x_g16 (x_g16 (x_g16 (x_g16 (x_g16 (x_g16 (x_g16 (x_g16 (x_g16 (x_g4 (x_g4 (x_g1 (x_g1 x_g0)))))))))))))))))))), (x_bw_in (x_t8 (i := 55) rfl) rfl), rfl, (fun h => by cases h), (fun _ => by decide +kernel), xD_3⟩
theorem xc_RX12_371 : Cond.constant RX12 371 (Int32.ofNat 1000000) ∈ x_bw := (x_bw_in (x_t8 (i := 54) (by decide +kernel)) rfl)
theorem xk_RX12_372 : x_okK RX12 372 268 4 x_mt false false := ⟨M_cX12_behind, (x_g16 (x_g16 (x_g16 (x_g16 (x_g16 (x_g16 (x_g16 (x_g16 (x_g16 (x_g16 (x_g16 (x_g16 (x_g16 (x_g16 (x_g16 (x_g16 (x_g4 (x_g4 (x_g4 x_g0))))))))))))))))))), (x_bw_in (x_t8 (i := 62) rfl) rfl), rfl, (fun h => by cases h), (fun _ => by decide +kernel), xD_39⟩
theorem xk_RX12_376 : x_okK RX12 376 267 3 x_mt false false := ⟨M_cX12_sooner, (x_g16 (x_g16 (x_g16 (x_g16 (x_g16 (x_g16 (x_g16 (x_g16 (x_g16 (x_g16 (x_g16 (x_g16 (x_g16 (x_g16 (x_g16 (x_g16 (x_g4 (x_g4 (x_g1 (x_g1 (x_g1 x_g0))))))))))))))))))))), (x_bw_in (x_t8 (i := 66) rfl) rfl), rfl, (fun h => by cases h), (fun _ => by decide +kernel), xD_0⟩
theorem xk_RX12_379 : x_okK RX12 379 269 3 x_mt false false := ⟨M_cX12_mayHit, (x_g16 (x_g16 (x_g16 (x_g16 (x_g16 (x_g16 (x_g16 (x_g16 (x_g16 (x_g16 (x_g16 (x_g16 (x_g16 (x_g16 (x_g16 (x_g16 (x_g4 (x_g4 (x_g4 (x_g1 x_g0)))))))))))))))))))), (x_bw_in (x_t8 (i := 58) rfl) rfl), rfl, (fun h => by cases h), (fun _ => by decide +kernel), xD_0⟩
theorem xk_RX12_382 : x_okK RX12 382 270 2 x_mt false false := ⟨M_cX12_bestOf, (x_g16 (x_g16 (x_g16 (x_g16 (x_g16 (x_g16 (x_g16 (x_g16 (x_g16 (x_g16 (x_g16 (x_g16 (x_g16 (x_g16 (x_g16 (x_g16 (x_g4 (x_g4 (x_g4 (x_g1 (x_g1 x_g0))))))))))))))))))))), (x_bw_in (x_t8 (i := 50) rfl) rfl), rfl, (fun h => by cases h), (fun _ => by decide +kernel), xD_3⟩
theorem xc_RX12_385 : Cond.constantLong RX12 385 (Int64.ofNat 60) ∈ x_bw := (x_bw_in (x_t8 (i := 74) (by decide +kernel)) rfl)
theorem xc_RX12_387 : Cond.constantLong RX12 387 (Int64.ofNat 9) ∈ x_bw := (x_bw_in (x_t8 (i := 79) (by decide +kernel)) rfl)
theorem xk_RX12_389 : x_okK RX12 389 273 2 x_mt false false := ⟨M_cX12_learnsBy, (x_g16 (x_g16 (x_g16 (x_g16 (x_g16 (x_g16 (x_g16 (x_g16 (x_g16 (x_g16 (x_g16 (x_g16 (x_g16 (x_g16 (x_g16 (x_g16 (x_g16 (x_g1 x_g0)))))))))))))))))), (x_bw_in (x_t8 (i := 80) rfl) rfl), rfl, (fun h => by cases h), (fun _ => by decide +kernel), xD_3⟩
theorem xk_RX12_392 : x_okK RX12 392 276 2 x_mt false false := ⟨M_cX12_waitingAt, (x_g16 (x_g16 (x_g16 (x_g16 (x_g16 (x_g16 (x_g16 (x_g16 (x_g16 (x_g16 (x_g16 (x_g16 (x_g16 (x_g16 (x_g16 (x_g16 (x_g16 (x_g4 x_g0)))))))))))))))))), (x_bw_in (x_t8 (i := 92) rfl) rfl), rfl, (fun h => by cases h), (fun _ => by decide +kernel), xD_3⟩
theorem xk_RX12_395 : x_okK RX12 395 202 1 x_mt false false := ⟨M_cX12_isShut, (x_g16 (x_g16 (x_g16 (x_g16 (x_g16 (x_g16 (x_g16 (x_g16 (x_g16 (x_g16 (x_g16 (x_g16 (x_g4 (x_g4 (x_g1 (x_g1 x_g0)))))))))))))))), (x_bw_in (x_t8 (i := 104) rfl) rfl), rfl, (fun h => by cases h), (fun _ => by decide +kernel), xD_7⟩
theorem xk_RX12_398 : x_okK RX12 398 278 0 x_mt false false := ⟨M_cX12_openHoles, (x_g16 (x_g16 (x_g16 (x_g16 (x_g16 (x_g16 (x_g16 (x_g16 (x_g16 (x_g16 (x_g16 (x_g16 (x_g16 (x_g16 (x_g16 (x_g16 (x_g16 (x_g4 (x_g1 (x_g1 x_g0)))))))))))))))))))), (x_bw_in (x_t8 (i := 100) rfl) rfl), rfl, (fun h => by cases h), (fun _ => by decide +kernel), xD_2⟩
theorem xk_RX12_401 : x_okK RX12 401 279 1 x_mt false false := ⟨M_cX12_stepsToAll, (x_g16 (x_g16 (x_g16 (x_g16 (x_g16 (x_g16 (x_g16 (x_g16 (x_g16 (x_g16 (x_g16 (x_g16 (x_g16 (x_g16 (x_g16 (x_g16 (x_g16 (x_g4 (x_g1 (x_g1 (x_g1 x_g0))))))))))))))))))))), (x_bw_in (x_t8 (i := 108) rfl) rfl), rfl, (fun h => by cases h), (fun _ => by decide +kernel), xD_6⟩
theorem xk_RX12_404 : x_okK RX12 404 280 2 x_mt false true := ⟨M_cX12_divisor, (x_g16 (x_g16 (x_g16 (x_g16 (x_g16 (x_g16 (x_g16 (x_g16 (x_g16 (x_g16 (x_g16 (x_g16 (x_g16 (x_g16 (x_g16 (x_g16 (x_g16 (x_g4 (x_g4 x_g0))))))))))))))))))), (x_bw_in (x_t8 (i := 112) rfl) rfl), rfl, (fun h => by cases h), (fun _ => by decide +kernel), xD_3⟩
theorem xk_RX12_407 : x_okK RX12 407 283 2 x_mt false false := ⟨M_cX12_reachOf, (x_g16 (x_g16 (x_g16 (x_g16 (x_g16 (x_g16 (x_g16 (x_g16 (x_g16 (x_g16 (x_g16 (x_g16 (x_g16 (x_g16 (x_g16 (x_g16 (x_g16 (x_g4 (x_g4 (x_g1 (x_g1 (x_g1 x_g0)))))))))))))))))))))), (x_bw_in (x_t8 (i := 123) rfl) rfl), rfl, (fun h => by cases h), (fun _ => by decide +kernel), xD_3⟩
theorem xk_RX12_410 : x_okK RX12 410 285 1 x_mt false true := ⟨M_cX12_bits, (x_g16 (x_g16 (x_g16 (x_g16 (x_g16 (x_g16 (x_g16 (x_g16 (x_g16 (x_g16 (x_g16 (x_g16 (x_g16 (x_g16 (x_g16 (x_g16 (x_g16 (x_g4 (x_g4 (x_g4 (x_g1 x_g0))))))))))))))))))))), (x_bw_in (x_t8 (i := 131) rfl) rfl), rfl, (fun h => by cases h), (fun _ => by decide +kernel), xD_6⟩
theorem xk_RX12_413 : x_okK RX12 413 287 2 x_mt false false := ⟨M_cX12_lagging, (x_g16 (x_g16 (x_g16 (x_g16 (x_g16 (x_g16 (x_g16 (x_g16 (x_g16 (x_g16 (x_g16 (x_g16 (x_g16 (x_g16 (x_g16 (x_g16 (x_g16 (x_g4 (x_g4 (x_g4 (x_g1 (x_g1 (x_g1 x_g0))))))))))))))))))))))), (x_bw_in (x_t8 (i := 138) rfl) rfl), rfl, (fun h => by cases h), (fun _ => by decide +kernel), xD_3⟩
theorem xc_RX12_416 : Cond.constantLong RX12 416 (Int64.ofNat 3) ∈ x_bw := (x_bw_in (x_t8 (i := 149) (by decide +kernel)) rfl)
theorem xk_RX12_418 : x_okK RX12 418 290 4 x_mt false false := ⟨M_cX12_lets, (x_g16 (x_g16 (x_g16 (x_g16 (x_g16 (x_g16 (x_g16 (x_g16 (x_g16 (x_g16 (x_g16 (x_g16 (x_g16 (x_g16 (x_g16 (x_g16 (x_g16 (x_g16 (x_g1 (x_g1 x_g0)))))))))))))))))))), (x_bw_in (x_t8 (i := 156) rfl) rfl), rfl, (fun h => by cases h), (fun _ => by decide +kernel), xD_13⟩
theorem xk_RX12_422 : x_okK RX12 422 289 1 x_mt false true := ⟨M_cX12_isLaw, (x_g16 (x_g16 (x_g16 (x_g16 (x_g16 (x_g16 (x_g16 (x_g16 (x_g16 (x_g16 (x_g16 (x_g16 (x_g16 (x_g16 (x_g16 (x_g16 (x_g16 (x_g16 (x_g1 x_g0))))))))))))))))))), (x_bw_in (x_t8 (i := 146) rfl) rfl), rfl, (fun h => by cases h), (fun _ => by decide +kernel), xD_7⟩
theorem xc_RX12_425 : Cond.constantLong RX12 425 (Int64.ofNat 12) ∈ x_bw := (x_bw_in (x_t8 (i := 150) (by decide +kernel)) rfl)
theorem xc_RX12_427 : Cond.constantLong RX12 427 (Int64.ofNat 18446744073709551614) ∈ x_bw := (x_bw_in (x_t8 (i := 151) (by decide +kernel)) rfl)
theorem xk_RX12_429 : x_okK RX12 429 291 2 x_mt false false := ⟨M_cX12_fillRows, (x_g16 (x_g16 (x_g16 (x_g16 (x_g16 (x_g16 (x_g16 (x_g16 (x_g16 (x_g16 (x_g16 (x_g16 (x_g16 (x_g16 (x_g16 (x_g16 (x_g16 (x_g16 (x_g1 (x_g1 (x_g1 x_g0))))))))))))))))))))), (x_bw_in (x_t8 (i := 152) rfl) rfl), rfl, (fun h => by cases h), (fun _ => by decide +kernel), xD_24⟩
theorem xD_47 : (parseMethodDescriptor "(I)J").map (fun d => d.parameters.length) = some 1 := by decide +kernel
theorem xk_RX12_433 : x_okK RX12 433 292 1 x_mt false false := ⟨M_cX12_endingIn, (x_g16 (x_g16 (x_g16 (x_g16 (x_g16 (x_g16 (x_g16 (x_g16 (x_g16 (x_g16 (x_g16 (x_g16 (x_g16 (x_g16 (x_g16 (x_g16 (x_g16 (x_g16 (x_g4 x_g0))))))))))))))))))), (x_bw_in (x_t8 (i := 160) rfl) rfl), rfl, (fun h => by cases h), (fun _ => by decide +kernel), xD_47⟩
theorem xk_RX12_437 : x_okK RX12 437 357 2 x_mt false true := ⟨M_cJ9_floorMod_7cf53, (x_g16 (x_g16 (x_g16 (x_g16 (x_g16 (x_g16 (x_g16 (x_g16 (x_g16 (x_g16 (x_g16 (x_g16 (x_g16 (x_g16 (x_g16 (x_g16 (x_g16 (x_g16 (x_g16 (x_g16 (x_g16 (x_g16 (x_g4 (x_g1 x_g0)))))))))))))))))))))))), (x_bw_in (x_t8 (i := 180) rfl) rfl), rfl, (fun h => by cases h), (fun _ => by decide +kernel), xD_3⟩
theorem xk_RX12_440 : x_okK RX12 440 296 1 x_mt false false := ⟨M_cX12_holeAt, (x_g16 (x_g16 (x_g16 (x_g16 (x_g16 (x_g16 (x_g16 (x_g16 (x_g16 (x_g16 (x_g16 (x_g16 (x_g16 (x_g16 (x_g16 (x_g16 (x_g16 (x_g16 (x_g4 (x_g4 x_g0)))))))))))))))))))), (x_bw_in (x_t8 (i := 176) rfl) rfl), rfl, (fun h => by cases h), (fun _ => by decide +kernel), xD_6⟩
theorem xk_RX12_443 : x_okK RX12 443 351 1 x_mt false true := ⟨M_cX12_isSlot, (x_g16 (x_g16 (x_g16 (x_g16 (x_g16 (x_g16 (x_g16 (x_g16 (x_g16 (x_g16 (x_g16 (x_g16 (x_g16 (x_g16 (x_g16 (x_g16 (x_g16 (x_g16 (x_g16 (x_g16 (x_g16 (x_g4 (x_g4 (x_g4 (x_g1 (x_g1 (x_g1 x_g0))))))))))))))))))))))))))), (x_bw_in (x_t8 (i := 189) rfl) rfl), rfl, (fun h => by cases h), (fun _ => by decide +kernel), xD_7⟩
theorem xk_RX12_446 : x_okK RX12 446 298 2 x_mt false false := ⟨M_cX12_numberAt, (x_g16 (x_g16 (x_g16 (x_g16 (x_g16 (x_g16 (x_g16 (x_g16 (x_g16 (x_g16 (x_g16 (x_g16 (x_g16 (x_g16 (x_g16 (x_g16 (x_g16 (x_g16 (x_g4 (x_g4 (x_g1 (x_g1 x_g0)))))))))))))))))))))), (x_bw_in (x_t8 (i := 192) rfl) rfl), rfl, (fun h => by cases h), (fun _ => by decide +kernel), xD_16⟩
theorem xk_RX12_450 : x_okK RX12 450 300 2 x_mt false false := ⟨M_cX12_isPeriod, (x_g16 (x_g16 (x_g16 (x_g16 (x_g16 (x_g16 (x_g16 (x_g16 (x_g16 (x_g16 (x_g16 (x_g16 (x_g16 (x_g16 (x_g16 (x_g16 (x_g16 (x_g16 (x_g4 (x_g4 (x_g4 x_g0))))))))))))))))))))), (x_bw_in (x_t8 (i := 200) rfl) rfl), rfl, (fun h => by cases h), (fun _ => by decide +kernel), xD_23⟩
theorem xk_RX12_453 : x_okK RX12 453 299 1 x_mt false false := ⟨M_cX12_asksHeard, (x_g16 (x_g16 (x_g16 (x_g16 (x_g16 (x_g16 (x_g16 (x_g16 (x_g16 (x_g16 (x_g16 (x_g16 (x_g16 (x_g16 (x_g16 (x_g16 (x_g16 (x_g16 (x_g4 (x_g4 (x_g1 (x_g1 (x_g1 x_g0))))))))))))))))))))))), (x_bw_in (x_t8 (i := 185) rfl) rfl), rfl, (fun h => by cases h), (fun _ => by decide +kernel), xD_6⟩
theorem xk_RX12_456 : x_okK RX12 456 301 1 x_mt false false := ⟨M_cX12_leastPeriod, (x_g16 (x_g16 (x_g16 (x_g16 (x_g16 (x_g16 (x_g16 (x_g16 (x_g16 (x_g16 (x_g16 (x_g16 (x_g16 (x_g16 (x_g16 (x_g16 (x_g16 (x_g16 (x_g4 (x_g4 (x_g4 (x_g1 x_g0)))))))))))))))))))))), (x_bw_in (x_t8 (i := 196) rfl) rfl), rfl, (fun h => by cases h), (fun _ => by decide +kernel), xD_6⟩
theorem xc_RX12_459 : Cond.constantLong RX12 459 (Int64.ofNat 1000000000) ∈ x_bw := (x_bw_in (x_t8 (i := 212) (by decide +kernel)) rfl)
theorem xk_RX12_461 : x_okK RX12 461 305 2 x_mt false false := ⟨M_cX12_fitsFrom, (x_g16 (x_g16 (x_g16 (x_g16 (x_g16 (x_g16 (x_g16 (x_g16 (x_g16 (x_g16 (x_g16 (x_g16 (x_g16 (x_g16 (x_g16 (x_g16 (x_g16 (x_g16 (x_g16 (x_g1 x_g0)))))))))))))))))))), (x_bw_in (x_t8 (i := 217) rfl) rfl), rfl, (fun h => by cases h), (fun _ => by decide +kernel), xD_23⟩
theorem xD_48 : (parseMethodDescriptor "(III)Z").map (fun d => d.parameters.length) = some 3 := by decide +kernel
theorem xk_RX12_464 : x_okK RX12 464 309 3 x_mt false false := ⟨M_cX12_goesAlike, (x_g16 (x_g16 (x_g16 (x_g16 (x_g16 (x_g16 (x_g16 (x_g16 (x_g16 (x_g16 (x_g16 (x_g16 (x_g16 (x_g16 (x_g16 (x_g16 (x_g16 (x_g16 (x_g16 (x_g4 (x_g1 x_g0))))))))))))))))))))), (x_bw_in (x_t8 (i := 237) rfl) rfl), rfl, (fun h => by cases h), (fun _ => by decide +kernel), xD_48⟩
theorem xk_RX12_468 : x_okK RX12 468 310 1 x_mt false false := ⟨M_cX12_neededFrom, (x_g16 (x_g16 (x_g16 (x_g16 (x_g16 (x_g16 (x_g16 (x_g16 (x_g16 (x_g16 (x_g16 (x_g16 (x_g16 (x_g16 (x_g16 (x_g16 (x_g16 (x_g16 (x_g16 (x_g4 (x_g1 (x_g1 x_g0)))))))))))))))))))))), (x_bw_in (x_t8 (i := 233) rfl) rfl), rfl, (fun h => by cases h), (fun _ => by decide +kernel), xD_6⟩
theorem xk_RX12_471 : x_okK RX12 471 313 1 x_mt false false := ⟨M_cX12_rashOf, (x_g16 (x_g16 (x_g16 (x_g16 (x_g16 (x_g16 (x_g16 (x_g16 (x_g16 (x_g16 (x_g16 (x_g16 (x_g16 (x_g16 (x_g16 (x_g16 (x_g16 (x_g16 (x_g16 (x_g4 (x_g4 (x_g1 x_g0)))))))))))))))))))))), (x_bw_in (x_t9 (i := 9) rfl) rfl), rfl, (fun h => by cases h), (fun _ => by decide +kernel), xD_6⟩
theorem xc_RX12_474 : Cond.constantLong RX12 474 (Int64.ofNat 20) ∈ x_bw := (x_bw_in (x_t9 (i := 17) (by decide +kernel)) rfl)
theorem xk_RX12_476 : x_okK RX12 476 315 2 x_mt false false := ⟨M_cX12_lookOf, (x_g16 (x_g16 (x_g16 (x_g16 (x_g16 (x_g16 (x_g16 (x_g16 (x_g16 (x_g16 (x_g16 (x_g16 (x_g16 (x_g16 (x_g16 (x_g16 (x_g16 (x_g16 (x_g16 (x_g4 (x_g4 (x_g1 (x_g1 (x_g1 x_g0)))))))))))))))))))))))), (x_bw_in (x_t9 (i := 18) rfl) rfl), rfl, (fun h => by cases h), (fun _ => by decide +kernel), xD_3⟩
theorem xk_RX12_479 : x_okK RX12 479 318 2 x_mt false false := ⟨M_cX12_hitsOn, (x_g16 (x_g16 (x_g16 (x_g16 (x_g16 (x_g16 (x_g16 (x_g16 (x_g16 (x_g16 (x_g16 (x_g16 (x_g16 (x_g16 (x_g16 (x_g16 (x_g16 (x_g16 (x_g16 (x_g4 (x_g4 (x_g4 (x_g1 (x_g1 x_g0)))))))))))))))))))))))), (x_bw_in (x_t9 (i := 30) rfl) rfl), rfl, (fun h => by cases h), (fun _ => by decide +kernel), xD_3⟩
theorem xk_RX12_482 : x_okK RX12 482 320 1 x_mt false false := ⟨M_cX12_ticketsOf, (x_g16 (x_g16 (x_g16 (x_g16 (x_g16 (x_g16 (x_g16 (x_g16 (x_g16 (x_g16 (x_g16 (x_g16 (x_g16 (x_g16 (x_g16 (x_g16 (x_g16 (x_g16 (x_g16 (x_g16 x_g0)))))))))))))))))))), (x_bw_in (x_t9 (i := 38) rfl) rfl), rfl, (fun h => by cases h), (fun _ => by decide +kernel), xD_6⟩
theorem xf_RX12_485 : ∃ (C : String) (T : u_T) (N : Nat), (vwCl : List vw_C)[12]? = some (C, T, N) ∧ 39 < N ∧ Cond.fieldLink RX12 485 (T 39).1 (T 39).2.1 (T 39).2.2.1 ∈ x_bw := ⟨RX12, TX12, 47, rfl, x_ab rfl, (x_bw_in (x_t6 (i := 116) rfl) rfl)⟩
theorem xp_RX12_485 : ∀ y : MethodName, ∃ (C : String) (T : u_T) (N : Nat), (vwCl : List vw_C)[12]? = some (C, T, N) ∧ 39 < N ∧ Cond.fieldLink RX12 485 (T 39).1 (T 39).2.1 (T 39).2.2.1 ∈ x_bw ∧ ((T 39).2.2.2 = true → (y : MethodName).name = "<init>" ∧ (T 39).1 = RX12) := fun y => ⟨RX12, TX12, 47, rfl, x_ab rfl, (x_bw_in (x_t6 (i := 116) rfl) rfl), fun h => by cases h⟩
theorem xf_RX12_488 : ∃ (C : String) (T : u_T) (N : Nat), (vwCl : List vw_C)[12]? = some (C, T, N) ∧ 40 < N ∧ Cond.fieldLink RX12 488 (T 40).1 (T 40).2.1 (T 40).2.2.1 ∈ x_bw := ⟨RX12, TX12, 47, rfl, x_ab rfl, (x_bw_in (x_t6 (i := 117) rfl) rfl)⟩
theorem xp_RX12_488 : ∀ y : MethodName, ∃ (C : String) (T : u_T) (N : Nat), (vwCl : List vw_C)[12]? = some (C, T, N) ∧ 40 < N ∧ Cond.fieldLink RX12 488 (T 40).1 (T 40).2.1 (T 40).2.2.1 ∈ x_bw ∧ ((T 40).2.2.2 = true → (y : MethodName).name = "<init>" ∧ (T 40).1 = RX12) := fun y => ⟨RX12, TX12, 47, rfl, x_ab rfl, (x_bw_in (x_t6 (i := 117) rfl) rfl), fun h => by cases h⟩
theorem xf_RX12_491 : ∃ (C : String) (T : u_T) (N : Nat), (vwCl : List vw_C)[12]? = some (C, T, N) ∧ 41 < N ∧ Cond.fieldLink RX12 491 (T 41).1 (T 41).2.1 (T 41).2.2.1 ∈ x_bw := ⟨RX12, TX12, 47, rfl, x_ab rfl, (x_bw_in (x_t6 (i := 118) rfl) rfl)⟩
theorem xp_RX12_491 : ∀ y : MethodName, ∃ (C : String) (T : u_T) (N : Nat), (vwCl : List vw_C)[12]? = some (C, T, N) ∧ 41 < N ∧ Cond.fieldLink RX12 491 (T 41).1 (T 41).2.1 (T 41).2.2.1 ∈ x_bw ∧ ((T 41).2.2.2 = true → (y : MethodName).name = "<init>" ∧ (T 41).1 = RX12) := fun y => ⟨RX12, TX12, 47, rfl, x_ab rfl, (x_bw_in (x_t6 (i := 118) rfl) rfl), fun h => by cases h⟩
theorem xk_RX12_494 : x_okK RX12 494 324 3 x_mt false false := ⟨M_cX12_strike, (x_g16 (x_g16 (x_g16 (x_g16 (x_g16 (x_g16 (x_g16 (x_g16 (x_g16 (x_g16 (x_g16 (x_g16 (x_g16 (x_g16 (x_g16 (x_g16 (x_g16 (x_g16 (x_g16 (x_g16 (x_g4 x_g0))))))))))))))))))))), (x_bw_in (x_t9 (i := 58) rfl) rfl), rfl, (fun h => by cases h), (fun _ => by decide +kernel), xD_0⟩
theorem xk_RX12_497 : x_okK RX12 497 323 1 x_mt false false := ⟨M_cX12_asksBlows, (x_g16 (x_g16 (x_g16 (x_g16 (x_g16 (x_g16 (x_g16 (x_g16 (x_g16 (x_g16 (x_g16 (x_g16 (x_g16 (x_g16 (x_g16 (x_g16 (x_g16 (x_g16 (x_g16 (x_g16 (x_g1 (x_g1 (x_g1 x_g0))))))))))))))))))))))), (x_bw_in (x_t9 (i := 50) rfl) rfl), rfl, (fun h => by cases h), (fun _ => by decide +kernel), xD_6⟩
theorem xk_RX12_500 : x_okK RX12 500 325 2 x_mt false false := ⟨M_cX12_layBlows, (x_g16 (x_g16 (x_g16 (x_g16 (x_g16 (x_g16 (x_g16 (x_g16 (x_g16 (x_g16 (x_g16 (x_g16 (x_g16 (x_g16 (x_g16 (x_g16 (x_g16 (x_g16 (x_g16 (x_g16 (x_g4 (x_g1 x_g0)))))))))))))))))))))), (x_bw_in (x_t9 (i := 54) rfl) rfl), rfl, (fun h => by cases h), (fun _ => by decide +kernel), xD_24⟩
theorem xk_RX12_503 : x_okK RX12 503 329 1 x_mt false false := ⟨M_cX12_oftenOf, (x_g16 (x_g16 (x_g16 (x_g16 (x_g16 (x_g16 (x_g16 (x_g16 (x_g16 (x_g16 (x_g16 (x_g16 (x_g16 (x_g16 (x_g16 (x_g16 (x_g16 (x_g16 (x_g16 (x_g16 (x_g4 (x_g4 (x_g1 x_g0))))))))))))))))))))))), (x_bw_in (x_t9 (i := 74) rfl) rfl), rfl, (fun h => by cases h), (fun _ => by decide +kernel), xD_6⟩
theorem xk_RX12_506 : x_okK RX12 506 332 0 x_mt false false := ⟨M_cX12_pathOf, (x_g16 (x_g16 (x_g16 (x_g16 (x_g16 (x_g16 (x_g16 (x_g16 (x_g16 (x_g16 (x_g16 (x_g16 (x_g16 (x_g16 (x_g16 (x_g16 (x_g16 (x_g16 (x_g16 (x_g16 (x_g4 (x_g4 (x_g4 x_g0))))))))))))))))))))))), (x_bw_in (x_t9 (i := 86) rfl) rfl), rfl, (fun h => by cases h), (fun _ => by decide +kernel), xD_2⟩
theorem xk_RX12_509 : x_okK RX12 509 334 2 x_mt false false := ⟨M_cX12_trade, (x_g16 (x_g16 (x_g16 (x_g16 (x_g16 (x_g16 (x_g16 (x_g16 (x_g16 (x_g16 (x_g16 (x_g16 (x_g16 (x_g16 (x_g16 (x_g16 (x_g16 (x_g16 (x_g16 (x_g16 (x_g4 (x_g4 (x_g4 (x_g1 (x_g1 x_g0))))))))))))))))))))))))), (x_bw_in (x_t9 (i := 94) rfl) rfl), rfl, (fun h => by cases h), (fun _ => by decide +kernel), xD_24⟩
theorem xc_RX12_512 : Cond.constantLong RX12 512 (Int64.ofNat 99) ∈ x_bw := (x_bw_in (x_t9 (i := 122) (by decide +kernel)) rfl)
theorem xc_RX12_514 : Cond.constantLong RX12 514 (Int64.ofNat 1103515245) ∈ x_bw := (x_bw_in (x_t9 (i := 143) (by decide +kernel)) rfl)
theorem xf_RX12_516 : ∃ (C : String) (T : u_T) (N : Nat), (vwCl : List vw_C)[12]? = some (C, T, N) ∧ 42 < N ∧ Cond.fieldLink RX12 516 (T 42).1 (T 42).2.1 (T 42).2.2.1 ∈ x_bw := ⟨RX12, TX12, 47, rfl, x_ab rfl, (x_bw_in (x_t6 (i := 119) rfl) rfl)⟩
theorem xc_RX12_520 : Cond.constantLong RX12 520 (Int64.ofNat 12345) ∈ x_bw := (x_bw_in (x_t9 (i := 144) (by decide +kernel)) rfl)
theorem xc_RX12_522 : Cond.constantLong RX12 522 (Int64.ofNat 2147483648) ∈ x_bw := (x_bw_in (x_t9 (i := 145) (by decide +kernel)) rfl)
theorem xp_RX12_516 : ∀ y : MethodName, ∃ (C : String) (T : u_T) (N : Nat), (vwCl : List vw_C)[12]? = some (C, T, N) ∧ 42 < N ∧ Cond.fieldLink RX12 516 (T 42).1 (T 42).2.1 (T 42).2.2.1 ∈ x_bw ∧ ((T 42).2.2.2 = true → (y : MethodName).name = "<init>" ∧ (T 42).1 = RX12) := fun y => ⟨RX12, TX12, 47, rfl, x_ab rfl, (x_bw_in (x_t6 (i := 119) rfl) rfl), fun h => by cases h⟩
theorem xc_RX12_524 : Cond.constantLong RX12 524 (Int64.ofNat 65536) ∈ x_bw := (x_bw_in (x_t9 (i := 146) (by decide +kernel)) rfl)
theorem xk_RX12_526 : x_okK RX12 526 342 1 x_mt false false := ⟨M_cX12_draw, (x_g16 (x_g16 (x_g16 (x_g16 (x_g16 (x_g16 (x_g16 (x_g16 (x_g16 (x_g16 (x_g16 (x_g16 (x_g16 (x_g16 (x_g16 (x_g16 (x_g16 (x_g16 (x_g16 (x_g16 (x_g16 (x_g4 (x_g1 (x_g1 x_g0)))))))))))))))))))))))), (x_bw_in (x_t9 (i := 139) rfl) rfl), rfl, (fun h => by cases h), (fun _ => by decide +kernel), xD_6⟩
theorem xk_RX12_529 : x_okK RX12 529 343 1 x_mt false false := ⟨M_cX12_holeByLot, (x_g16 (x_g16 (x_g16 (x_g16 (x_g16 (x_g16 (x_g16 (x_g16 (x_g16 (x_g16 (x_g16 (x_g16 (x_g16 (x_g16 (x_g16 (x_g16 (x_g16 (x_g16 (x_g16 (x_g16 (x_g16 (x_g4 (x_g1 (x_g1 (x_g1 x_g0))))))))))))))))))))))))), (x_bw_in (x_t9 (i := 135) rfl) rfl), rfl, (fun h => by cases h), (fun _ => by decide +kernel), xD_6⟩
theorem xc_RX12_532 : Cond.constantLong RX12 532 (Int64.ofNat 2000000000) ∈ x_bw := (x_bw_in (x_t9 (i := 130) (by decide +kernel)) rfl)
theorem xk_RX12_534 : x_okK RX12 534 345 1 x_mt false true := ⟨M_cX12_isSeed, (x_g16 (x_g16 (x_g16 (x_g16 (x_g16 (x_g16 (x_g16 (x_g16 (x_g16 (x_g16 (x_g16 (x_g16 (x_g16 (x_g16 (x_g16 (x_g16 (x_g16 (x_g16 (x_g16 (x_g16 (x_g16 (x_g4 (x_g4 (x_g1 x_g0)))))))))))))))))))))))), (x_bw_in (x_t9 (i := 127) rfl) rfl), rfl, (fun h => by cases h), (fun _ => by decide +kernel), xD_7⟩
theorem xD_49 : (parseMethodDescriptor "(JI)V").map (fun d => d.parameters.length) = some 2 := by decide +kernel
theorem xk_RX12_537 : x_okK RX12 537 344 2 x_mt false false := ⟨M_cX12_layNight, (x_g16 (x_g16 (x_g16 (x_g16 (x_g16 (x_g16 (x_g16 (x_g16 (x_g16 (x_g16 (x_g16 (x_g16 (x_g16 (x_g16 (x_g16 (x_g16 (x_g16 (x_g16 (x_g16 (x_g16 (x_g16 (x_g4 (x_g4 x_g0))))))))))))))))))))))), (x_bw_in (x_t9 (i := 131) rfl) rfl), rfl, (fun h => by cases h), (fun _ => by decide +kernel), xD_49⟩
theorem xD_50 : (parseMethodDescriptor "(JII)I").map (fun d => d.parameters.length) = some 3 := by decide +kernel
theorem xk_RX12_541 : x_okK RX12 541 347 3 x_mt false false := ⟨M_cX12_nightOf, (x_g16 (x_g16 (x_g16 (x_g16 (x_g16 (x_g16 (x_g16 (x_g16 (x_g16 (x_g16 (x_g16 (x_g16 (x_g16 (x_g16 (x_g16 (x_g16 (x_g16 (x_g16 (x_g16 (x_g16 (x_g16 (x_g4 (x_g4 (x_g1 (x_g1 (x_g1 x_g0)))))))))))))))))))))))))), (x_bw_in (x_t9 (i := 151) rfl) rfl), rfl, (fun h => by cases h), (fun _ => by decide +kernel), xD_50⟩
theorem xD_51 : (parseMethodDescriptor "(JI)J").map (fun d => d.parameters.length) = some 2 := by decide +kernel
theorem xk_RX12_545 : x_okK RX12 545 352 2 x_mt false true := ⟨M_cX12_cut, (x_g16 (x_g16 (x_g16 (x_g16 (x_g16 (x_g16 (x_g16 (x_g16 (x_g16 (x_g16 (x_g16 (x_g16 (x_g16 (x_g16 (x_g16 (x_g16 (x_g16 (x_g16 (x_g16 (x_g16 (x_g16 (x_g16 x_g0)))))))))))))))))))))), (x_bw_in (x_t9 (i := 171) rfl) rfl), rfl, (fun h => by cases h), (fun _ => by decide +kernel), xD_51⟩
theorem xc_RJ6_265 : Cond.constant RJ6 265 (Int32.ofNat 1431655765) ∈ x_bw := (x_bw_in (x_t4 (i := 113) (by decide +kernel)) rfl)
theorem xc_RJ6_266 : Cond.constant RJ6 266 (Int32.ofNat 858993459) ∈ x_bw := (x_bw_in (x_t4 (i := 114) (by decide +kernel)) rfl)
theorem xc_RJ6_267 : Cond.constant RJ6 267 (Int32.ofNat 252645135) ∈ x_bw := (x_bw_in (x_t4 (i := 115) (by decide +kernel)) rfl)
theorem xw_RL_7 : ∃ (C : String) (T : u_T), (vwCl : List vw_C)[11]? = some (C, T, 11) ∧ Cond.classLink RL 7 C ∈ x_bw := ⟨RX11, TX11, rfl, (x_bw_in (x_t1 (i := 21) rfl) rfl)⟩
theorem xk_RL_9 : x_okK RL 9 111 0 x_mt true false := ⟨M_cX11_init, (x_g16 (x_g16 (x_g16 (x_g16 (x_g16 (x_g16 (x_g4 (x_g4 (x_g4 (x_g1 (x_g1 (x_g1 x_g0)))))))))))), (x_bw_in (x_t1 (i := 23) rfl) rfl), rfl, fun _ => ⟨rfl, rfl⟩, (fun h => by cases h), xD_8⟩
theorem xw_RL_10 : ∃ (C : String) (T : u_T), (vwCl : List vw_C)[12]? = some (C, T, 47) ∧ Cond.classLink RL 10 C ∈ x_bw := ⟨RX12, TX12, rfl, (x_bw_in (x_t6 (i := 72) rfl) rfl)⟩
theorem xk_RL_12 : x_okK RL 12 195 0 x_mt true false := ⟨M_cX12_init, (x_g16 (x_g16 (x_g16 (x_g16 (x_g16 (x_g16 (x_g16 (x_g16 (x_g16 (x_g16 (x_g16 (x_g16 (x_g1 (x_g1 (x_g1 x_g0))))))))))))))), (x_bw_in (x_t6 (i := 74) rfl) rfl), rfl, fun _ => ⟨rfl, rfl⟩, (fun h => by cases h), xD_8⟩
theorem xD_52 : (parseMethodDescriptor "(IIIII)I").map (fun d => d.parameters.length) = some 5 := by decide +kernel
theorem xk_RL_13 : x_okK RL 13 112 5 x_mt false false := ⟨M_cX11_feed, (x_g16 (x_g16 (x_g16 (x_g16 (x_g16 (x_g16 (x_g16 x_g0))))))), (x_bw_in (x_t2 (i := 170) rfl) rfl), rfl, (fun h => by cases h), (fun _ => by decide +kernel), xD_52⟩
theorem xk_RL_17 : x_okK RL 17 208 5 x_mt false false := ⟨M_cX12_feed, (x_g16 (x_g16 (x_g16 (x_g16 (x_g16 (x_g16 (x_g16 (x_g16 (x_g16 (x_g16 (x_g16 (x_g16 (x_g16 x_g0))))))))))))), (x_bw_in (x_t6 (i := 232) rfl) rfl), rfl, (fun h => by cases h), (fun _ => by decide +kernel), xD_52⟩
theorem xk_RL_18 : x_okK RL 18 113 1 x_mt false false := ⟨M_cX11_end, (x_g16 (x_g16 (x_g16 (x_g16 (x_g16 (x_g16 (x_g16 (x_g1 x_g0)))))))), (x_bw_in (x_t2 (i := 178) rfl) rfl), rfl, (fun h => by cases h), (fun _ => by decide +kernel), xD_6⟩
theorem xk_RL_22 : x_okK RL 22 209 1 x_mt false false := ⟨M_cX12_end, (x_g16 (x_g16 (x_g16 (x_g16 (x_g16 (x_g16 (x_g16 (x_g16 (x_g16 (x_g16 (x_g16 (x_g16 (x_g16 (x_g1 x_g0)))))))))))))), (x_bw_in (x_t6 (i := 236) rfl) rfl), rfl, (fun h => by cases h), (fun _ => by decide +kernel), xD_6⟩
theorem xk_RL_23 : x_okK RL 23 114 0 x_mt false false := ⟨M_cX11_board, (x_g16 (x_g16 (x_g16 (x_g16 (x_g16 (x_g16 (x_g16 (x_g1 (x_g1 x_g0))))))))), (x_bw_in (x_t2 (i := 182) rfl) rfl), rfl, (fun h => by cases h), (fun _ => by decide +kernel), xD_2⟩
theorem xk_RL_27 : x_okK RL 27 232 0 x_mt false false := ⟨M_cX12_board, (x_g16 (x_g16 (x_g16 (x_g16 (x_g16 (x_g16 (x_g16 (x_g16 (x_g16 (x_g16 (x_g16 (x_g16 (x_g16 (x_g16 (x_g4 (x_g4 x_g0)))))))))))))))), (x_bw_in (x_t7 (i := 4) rfl) rfl), rfl, (fun h => by cases h), (fun _ => by decide +kernel), xD_2⟩
theorem xk_RL_28 : x_okK RL 28 115 1 x_mt false false := ⟨M_cX11_fault, (x_g16 (x_g16 (x_g16 (x_g16 (x_g16 (x_g16 (x_g16 (x_g1 (x_g1 (x_g1 x_g0)))))))))), (x_bw_in (x_t3 (i := 146) rfl) rfl), rfl, (fun h => by cases h), (fun _ => by decide +kernel), xD_6⟩
theorem xk_RL_31 : x_okK RL 31 219 1 x_mt false false := ⟨M_cX12_fault, (x_g16 (x_g16 (x_g16 (x_g16 (x_g16 (x_g16 (x_g16 (x_g16 (x_g16 (x_g16 (x_g16 (x_g16 (x_g16 (x_g4 (x_g4 (x_g1 (x_g1 (x_g1 x_g0)))))))))))))))))), (x_bw_in (x_t7 (i := 0) rfl) rfl), rfl, (fun h => by cases h), (fun _ => by decide +kernel), xD_6⟩
theorem xk_RL_32 : x_okK RL 32 116 2 x_mt false false := ⟨M_cX11_drum, (x_g16 (x_g16 (x_g16 (x_g16 (x_g16 (x_g16 (x_g16 (x_g4 x_g0)))))))), (x_bw_in (x_t3 (i := 150) rfl) rfl), rfl, (fun h => by cases h), (fun _ => by decide +kernel), xD_3⟩
theorem xk_RL_36 : x_okK RL 36 239 2 x_mt false false := ⟨M_cX12_drum, (x_g16 (x_g16 (x_g16 (x_g16 (x_g16 (x_g16 (x_g16 (x_g16 (x_g16 (x_g16 (x_g16 (x_g16 (x_g16 (x_g16 (x_g4 (x_g4 (x_g4 (x_g1 (x_g1 (x_g1 x_g0)))))))))))))))))))), (x_bw_in (x_t7 (i := 119) rfl) rfl), rfl, (fun h => by cases h), (fun _ => by decide +kernel), xD_3⟩
theorem xk_RL_37 : x_okK RL 37 117 2 x_mt false false := ⟨M_cX11_player, (x_g16 (x_g16 (x_g16 (x_g16 (x_g16 (x_g16 (x_g16 (x_g4 (x_g1 x_g0))))))))), (x_bw_in (x_t3 (i := 158) rfl) rfl), rfl, (fun h => by cases h), (fun _ => by decide +kernel), xD_3⟩
theorem xk_RL_40 : x_okK RL 40 240 2 x_mt false false := ⟨M_cX12_player, (x_g16 (x_g16 (x_g16 (x_g16 (x_g16 (x_g16 (x_g16 (x_g16 (x_g16 (x_g16 (x_g16 (x_g16 (x_g16 (x_g16 (x_g16 x_g0))))))))))))))), (x_bw_in (x_t7 (i := 131) rfl) rfl), rfl, (fun h => by cases h), (fun _ => by decide +kernel), xD_3⟩
theorem xk_RL_41 : x_okK RL 41 118 1 x_mt false false := ⟨M_cX11_stay, (x_g16 (x_g16 (x_g16 (x_g16 (x_g16 (x_g16 (x_g16 (x_g4 (x_g1 (x_g1 x_g0)))))))))), (x_bw_in (x_t3 (i := 170) rfl) rfl), rfl, (fun h => by cases h), (fun _ => by decide +kernel), xD_6⟩
theorem xk_RL_44 : x_okK RL 44 241 1 x_mt false false := ⟨M_cX12_stay, (x_g16 (x_g16 (x_g16 (x_g16 (x_g16 (x_g16 (x_g16 (x_g16 (x_g16 (x_g16 (x_g16 (x_g16 (x_g16 (x_g16 (x_g16 (x_g1 x_g0)))))))))))))))), (x_bw_in (x_t7 (i := 144) rfl) rfl), rfl, (fun h => by cases h), (fun _ => by decide +kernel), xD_6⟩
theorem xk_RL_45 : x_okK RL 45 120 0 x_mt false false := ⟨M_cX11_comings, (x_g16 (x_g16 (x_g16 (x_g16 (x_g16 (x_g16 (x_g16 (x_g4 (x_g4 x_g0))))))))), (x_bw_in (x_t3 (i := 191) rfl) rfl), rfl, (fun h => by cases h), (fun _ => by decide +kernel), xD_2⟩
theorem xk_RL_48 : x_okK RL 48 242 0 x_mt false false := ⟨M_cX12_comings, (x_g16 (x_g16 (x_g16 (x_g16 (x_g16 (x_g16 (x_g16 (x_g16 (x_g16 (x_g16 (x_g16 (x_g16 (x_g16 (x_g16 (x_g16 (x_g1 (x_g1 x_g0))))))))))))))))), (x_bw_in (x_t7 (i := 156) rfl) rfl), rfl, (fun h => by cases h), (fun _ => by decide +kernel), xD_2⟩
theorem xk_RL_49 : x_okK RL 49 121 2 x_mt false false := ⟨M_cX11_comes, (x_g16 (x_g16 (x_g16 (x_g16 (x_g16 (x_g16 (x_g16 (x_g4 (x_g4 (x_g1 x_g0)))))))))), (x_bw_in (x_t3 (i := 218) rfl) rfl), rfl, (fun h => by cases h), (fun _ => by decide +kernel), xD_3⟩
theorem xk_RL_52 : x_okK RL 52 244 2 x_mt false false := ⟨M_cX12_comes, (x_g16 (x_g16 (x_g16 (x_g16 (x_g16 (x_g16 (x_g16 (x_g16 (x_g16 (x_g16 (x_g16 (x_g16 (x_g16 (x_g16 (x_g16 (x_g4 x_g0)))))))))))))))), (x_bw_in (x_t7 (i := 180) rfl) rfl), rfl, (fun h => by cases h), (fun _ => by decide +kernel), xD_3⟩
theorem xk_RL_53 : x_okK RL 53 122 1 x_mt false false := ⟨M_cX11_up, (x_g16 (x_g16 (x_g16 (x_g16 (x_g16 (x_g16 (x_g16 (x_g4 (x_g4 (x_g1 (x_g1 x_g0))))))))))), (x_bw_in (x_t3 (i := 226) rfl) rfl), rfl, (fun h => by cases h), (fun _ => by decide +kernel), xD_6⟩
theorem xk_RL_56 : x_okK RL 56 246 1 x_mt false false := ⟨M_cX12_up, (x_g16 (x_g16 (x_g16 (x_g16 (x_g16 (x_g16 (x_g16 (x_g16 (x_g16 (x_g16 (x_g16 (x_g16 (x_g16 (x_g16 (x_g16 (x_g4 (x_g1 (x_g1 x_g0)))))))))))))))))), (x_bw_in (x_t7 (i := 192) rfl) rfl), rfl, (fun h => by cases h), (fun _ => by decide +kernel), xD_6⟩
theorem xk_RL_57 : x_okK RL 57 123 0 x_mt false false := ⟨M_cX11_calm, (x_g16 (x_g16 (x_g16 (x_g16 (x_g16 (x_g16 (x_g16 (x_g4 (x_g4 (x_g1 (x_g1 (x_g1 x_g0)))))))))))), (x_bw_in (x_t3 (i := 239) rfl) rfl), rfl, (fun h => by cases h), (fun _ => by decide +kernel), xD_2⟩
theorem xk_RL_60 : x_okK RL 60 247 0 x_mt false false := ⟨M_cX12_calm, (x_g16 (x_g16 (x_g16 (x_g16 (x_g16 (x_g16 (x_g16 (x_g16 (x_g16 (x_g16 (x_g16 (x_g16 (x_g16 (x_g16 (x_g16 (x_g4 (x_g1 (x_g1 (x_g1 x_g0))))))))))))))))))), (x_bw_in (x_t7 (i := 200) rfl) rfl), rfl, (fun h => by cases h), (fun _ => by decide +kernel), xD_2⟩
theorem xk_RL_61 : x_okK RL 61 124 2 x_mt false false := ⟨M_cX11_steps, (x_g16 (x_g16 (x_g16 (x_g16 (x_g16 (x_g16 (x_g16 (x_g4 (x_g4 (x_g4 x_g0)))))))))), (x_bw_in (x_t4 (i := 3) rfl) rfl), rfl, (fun h => by cases h), (fun _ => by decide +kernel), xD_3⟩
theorem xk_RL_64 : x_okK RL 64 249 2 x_mt false false := ⟨M_cX12_steps, (x_g16 (x_g16 (x_g16 (x_g16 (x_g16 (x_g16 (x_g16 (x_g16 (x_g16 (x_g16 (x_g16 (x_g16 (x_g16 (x_g16 (x_g16 (x_g4 (x_g4 (x_g1 x_g0)))))))))))))))))), (x_bw_in (x_t7 (i := 204) rfl) rfl), rfl, (fun h => by cases h), (fun _ => by decide +kernel), xD_3⟩
theorem xk_RL_65 : x_okK RL 65 125 2 x_mt false false := ⟨M_cX11_pace, (x_g16 (x_g16 (x_g16 (x_g16 (x_g16 (x_g16 (x_g16 (x_g4 (x_g4 (x_g4 (x_g1 x_g0))))))))))), (x_bw_in (x_t4 (i := 15) rfl) rfl), rfl, (fun h => by cases h), (fun _ => by decide +kernel), xD_3⟩
theorem xk_RL_68 : x_okK RL 68 251 2 x_mt false false := ⟨M_cX12_pace, (x_g16 (x_g16 (x_g16 (x_g16 (x_g16 (x_g16 (x_g16 (x_g16 (x_g16 (x_g16 (x_g16 (x_g16 (x_g16 (x_g16 (x_g16 (x_g4 (x_g4 (x_g1 (x_g1 (x_g1 x_g0)))))))))))))))))))), (x_bw_in (x_t7 (i := 221) rfl) rfl), rfl, (fun h => by cases h), (fun _ => by decide +kernel), xD_3⟩
theorem xk_RL_69 : x_okK RL 69 126 2 x_mt false false := ⟨M_cX11_aware, (x_g16 (x_g16 (x_g16 (x_g16 (x_g16 (x_g16 (x_g16 (x_g4 (x_g4 (x_g4 (x_g1 (x_g1 x_g0)))))))))))), (x_bw_in (x_t4 (i := 28) rfl) rfl), rfl, (fun h => by cases h), (fun _ => by decide +kernel), xD_3⟩
theorem xk_RL_72 : x_okK RL 72 254 2 x_mt false false := ⟨M_cX12_aware, (x_g16 (x_g16 (x_g16 (x_g16 (x_g16 (x_g16 (x_g16 (x_g16 (x_g16 (x_g16 (x_g16 (x_g16 (x_g16 (x_g16 (x_g16 (x_g4 (x_g4 (x_g4 (x_g1 (x_g1 x_g0)))))))))))))))))))), (x_bw_in (x_t7 (i := 229) rfl) rfl), rfl, (fun h => by cases h), (fun _ => by decide +kernel), xD_3⟩
theorem xk_RL_73 : x_okK RL 73 127 1 x_mt false false := ⟨M_cX11_hits, (x_g16 (x_g16 (x_g16 (x_g16 (x_g16 (x_g16 (x_g16 (x_g4 (x_g4 (x_g4 (x_g1 (x_g1 (x_g1 x_g0))))))))))))), (x_bw_in (x_t4 (i := 42) rfl) rfl), rfl, (fun h => by cases h), (fun _ => by decide +kernel), xD_6⟩
theorem xk_RL_76 : x_okK RL 76 260 1 x_mt false false := ⟨M_cX12_hits, (x_g16 (x_g16 (x_g16 (x_g16 (x_g16 (x_g16 (x_g16 (x_g16 (x_g16 (x_g16 (x_g16 (x_g16 (x_g16 (x_g16 (x_g16 (x_g16 (x_g4 x_g0))))))))))))))))), (x_bw_in (x_t8 (i := 1) rfl) rfl), rfl, (fun h => by cases h), (fun _ => by decide +kernel), xD_6⟩
theorem xk_RL_77 : x_okK RL 77 128 2 x_mt false false := ⟨M_cX11_hit, (x_g16 (x_g16 (x_g16 (x_g16 (x_g16 (x_g16 (x_g16 (x_g16 x_g0)))))))), (x_bw_in (x_t4 (i := 85) rfl) rfl), rfl, (fun h => by cases h), (fun _ => by decide +kernel), xD_3⟩
theorem xk_RL_80 : x_okK RL 80 261 2 x_mt false false := ⟨M_cX12_hit, (x_g16 (x_g16 (x_g16 (x_g16 (x_g16 (x_g16 (x_g16 (x_g16 (x_g16 (x_g16 (x_g16 (x_g16 (x_g16 (x_g16 (x_g16 (x_g16 (x_g4 (x_g1 x_g0)))))))))))))))))), (x_bw_in (x_t8 (i := 26) rfl) rfl), rfl, (fun h => by cases h), (fun _ => by decide +kernel), xD_3⟩
theorem xk_RL_81 : x_okK RL 81 129 2 x_mt false false := ⟨M_cX11_twice, (x_g16 (x_g16 (x_g16 (x_g16 (x_g16 (x_g16 (x_g16 (x_g16 (x_g1 x_g0))))))))), (x_bw_in (x_t4 (i := 89) rfl) rfl), rfl, (fun h => by cases h), (fun _ => by decide +kernel), xD_3⟩
theorem xk_RL_84 : x_okK RL 84 262 2 x_mt false false := ⟨M_cX12_twice, (x_g16 (x_g16 (x_g16 (x_g16 (x_g16 (x_g16 (x_g16 (x_g16 (x_g16 (x_g16 (x_g16 (x_g16 (x_g16 (x_g16 (x_g16 (x_g16 (x_g4 (x_g1 (x_g1 x_g0))))))))))))))))))), (x_bw_in (x_t8 (i := 30) rfl) rfl), rfl, (fun h => by cases h), (fun _ => by decide +kernel), xD_3⟩
theorem xk_RL_85 : x_okK RL 85 130 2 x_mt false false := ⟨M_cX11_where, (x_g16 (x_g16 (x_g16 (x_g16 (x_g16 (x_g16 (x_g16 (x_g16 (x_g1 (x_g1 x_g0)))))))))), (x_bw_in (x_t4 (i := 93) rfl) rfl), rfl, (fun h => by cases h), (fun _ => by decide +kernel), xD_3⟩
theorem xk_RL_88 : x_okK RL 88 263 2 x_mt false false := ⟨M_cX12_where, (x_g16 (x_g16 (x_g16 (x_g16 (x_g16 (x_g16 (x_g16 (x_g16 (x_g16 (x_g16 (x_g16 (x_g16 (x_g16 (x_g16 (x_g16 (x_g16 (x_g4 (x_g1 (x_g1 (x_g1 x_g0)))))))))))))))))))), (x_bw_in (x_t8 (i := 34) rfl) rfl), rfl, (fun h => by cases h), (fun _ => by decide +kernel), xD_3⟩
theorem xk_RL_89 : x_okK RL 89 131 1 x_mt false false := ⟨M_cX11_missed, (x_g16 (x_g16 (x_g16 (x_g16 (x_g16 (x_g16 (x_g16 (x_g16 (x_g1 (x_g1 (x_g1 x_g0))))))))))), (x_bw_in (x_t4 (i := 101) rfl) rfl), rfl, (fun h => by cases h), (fun _ => by decide +kernel), xD_6⟩
theorem xk_RL_92 : x_okK RL 92 264 1 x_mt false false := ⟨M_cX12_missed, (x_g16 (x_g16 (x_g16 (x_g16 (x_g16 (x_g16 (x_g16 (x_g16 (x_g16 (x_g16 (x_g16 (x_g16 (x_g16 (x_g16 (x_g16 (x_g16 (x_g4 (x_g4 x_g0)))))))))))))))))), (x_bw_in (x_t8 (i := 38) rfl) rfl), rfl, (fun h => by cases h), (fun _ => by decide +kernel), xD_6⟩
theorem xk_RL_93 : x_okK RL 93 132 1 x_mt false false := ⟨M_cX11_walked, (x_g16 (x_g16 (x_g16 (x_g16 (x_g16 (x_g16 (x_g16 (x_g16 (x_g4 x_g0))))))))), (x_bw_in (x_t4 (i := 116) rfl) rfl), rfl, (fun h => by cases h), (fun _ => by decide +kernel), xD_6⟩
theorem xk_RL_96 : x_okK RL 96 265 1 x_mt false false := ⟨M_cX12_walked, (x_g16 (x_g16 (x_g16 (x_g16 (x_g16 (x_g16 (x_g16 (x_g16 (x_g16 (x_g16 (x_g16 (x_g16 (x_g16 (x_g16 (x_g16 (x_g16 (x_g4 (x_g4 (x_g1 x_g0))))))))))))))))))), (x_bw_in (x_t8 (i := 42) rfl) rfl), rfl, (fun h => by cases h), (fun _ => by decide +kernel), xD_6⟩
theorem xk_RL_97 : x_okK RL 97 133 1 x_mt false false := ⟨M_cX11_best, (x_g16 (x_g16 (x_g16 (x_g16 (x_g16 (x_g16 (x_g16 (x_g16 (x_g4 (x_g1 x_g0)))))))))), (x_bw_in (x_t4 (i := 120) rfl) rfl), rfl, (fun h => by cases h), (fun _ => by decide +kernel), xD_6⟩
theorem xk_RL_100 : x_okK RL 100 271 1 x_mt false false := ⟨M_cX12_best, (x_g16 (x_g16 (x_g16 (x_g16 (x_g16 (x_g16 (x_g16 (x_g16 (x_g16 (x_g16 (x_g16 (x_g16 (x_g16 (x_g16 (x_g16 (x_g16 (x_g4 (x_g4 (x_g4 (x_g1 (x_g1 (x_g1 x_g0)))))))))))))))))))))), (x_bw_in (x_t8 (i := 46) rfl) rfl), rfl, (fun h => by cases h), (fun _ => by decide +kernel), xD_6⟩
theorem xk_RL_101 : x_okK RL 101 134 2 x_mt false false := ⟨M_cX11_ahead, (x_g16 (x_g16 (x_g16 (x_g16 (x_g16 (x_g16 (x_g16 (x_g16 (x_g4 (x_g1 (x_g1 x_g0))))))))))), (x_bw_in (x_t4 (i := 149) rfl) rfl), rfl, (fun h => by cases h), (fun _ => by decide +kernel), xD_3⟩
theorem xk_RL_104 : x_okK RL 104 272 2 x_mt false false := ⟨M_cX12_ahead, (x_g16 (x_g16 (x_g16 (x_g16 (x_g16 (x_g16 (x_g16 (x_g16 (x_g16 (x_g16 (x_g16 (x_g16 (x_g16 (x_g16 (x_g16 (x_g16 (x_g16 x_g0))))))))))))))))), (x_bw_in (x_t8 (i := 70) rfl) rfl), rfl, (fun h => by cases h), (fun _ => by decide +kernel), xD_3⟩
theorem xk_RL_105 : x_okK RL 105 135 2 x_mt false false := ⟨M_cX11_learns, (x_g16 (x_g16 (x_g16 (x_g16 (x_g16 (x_g16 (x_g16 (x_g16 (x_g4 (x_g1 (x_g1 (x_g1 x_g0)))))))))))), (x_bw_in (x_t4 (i := 150) rfl) rfl), rfl, (fun h => by cases h), (fun _ => by decide +kernel), xD_3⟩
theorem xk_RL_108 : x_okK RL 108 274 2 x_mt false false := ⟨M_cX12_learns, (x_g16 (x_g16 (x_g16 (x_g16 (x_g16 (x_g16 (x_g16 (x_g16 (x_g16 (x_g16 (x_g16 (x_g16 (x_g16 (x_g16 (x_g16 (x_g16 (x_g16 (x_g1 (x_g1 x_g0))))))))))))))))))), (x_bw_in (x_t8 (i := 75) rfl) rfl), rfl, (fun h => by cases h), (fun _ => by decide +kernel), xD_3⟩
theorem xk_RL_109 : x_okK RL 109 136 1 x_mt false false := ⟨M_cX11_enough, (x_g16 (x_g16 (x_g16 (x_g16 (x_g16 (x_g16 (x_g16 (x_g16 (x_g4 (x_g4 x_g0)))))))))), (x_bw_in (x_t4 (i := 158) rfl) rfl), rfl, (fun h => by cases h), (fun _ => by decide +kernel), xD_6⟩
theorem xk_RL_112 : x_okK RL 112 275 1 x_mt false false := ⟨M_cX12_enough, (x_g16 (x_g16 (x_g16 (x_g16 (x_g16 (x_g16 (x_g16 (x_g16 (x_g16 (x_g16 (x_g16 (x_g16 (x_g16 (x_g16 (x_g16 (x_g16 (x_g16 (x_g1 (x_g1 (x_g1 x_g0)))))))))))))))))))), (x_bw_in (x_t8 (i := 84) rfl) rfl), rfl, (fun h => by cases h), (fun _ => by decide +kernel), xD_6⟩
theorem xk_RL_113 : x_okK RL 113 137 2 x_mt false false := ⟨M_cX11_waits, (x_g16 (x_g16 (x_g16 (x_g16 (x_g16 (x_g16 (x_g16 (x_g16 (x_g4 (x_g4 (x_g1 x_g0))))))))))), (x_bw_in (x_t4 (i := 162) rfl) rfl), rfl, (fun h => by cases h), (fun _ => by decide +kernel), xD_3⟩
theorem xk_RL_116 : x_okK RL 116 277 2 x_mt false false := ⟨M_cX12_waits, (x_g16 (x_g16 (x_g16 (x_g16 (x_g16 (x_g16 (x_g16 (x_g16 (x_g16 (x_g16 (x_g16 (x_g16 (x_g16 (x_g16 (x_g16 (x_g16 (x_g16 (x_g4 (x_g1 x_g0))))))))))))))))))), (x_bw_in (x_t8 (i := 88) rfl) rfl), rfl, (fun h => by cases h), (fun _ => by decide +kernel), xD_3⟩
theorem xk_RL_117 : x_okK RL 117 140 2 x_mt false false := ⟨M_cX11_mean, (x_g16 (x_g16 (x_g16 (x_g16 (x_g16 (x_g16 (x_g16 (x_g16 (x_g4 (x_g4 (x_g4 x_g0))))))))))), (x_bw_in (x_t4 (i := 179) rfl) rfl), rfl, (fun h => by cases h), (fun _ => by decide +kernel), xD_3⟩
theorem xk_RL_120 : x_okK RL 120 281 2 x_mt false false := ⟨M_cX12_mean, (x_g16 (x_g16 (x_g16 (x_g16 (x_g16 (x_g16 (x_g16 (x_g16 (x_g16 (x_g16 (x_g16 (x_g16 (x_g16 (x_g16 (x_g16 (x_g16 (x_g16 (x_g4 (x_g4 (x_g1 x_g0)))))))))))))))))))), (x_bw_in (x_t8 (i := 96) rfl) rfl), rfl, (fun h => by cases h), (fun _ => by decide +kernel), xD_3⟩
theorem xk_RL_121 : x_okK RL 121 141 1 x_mt false false := ⟨M_cX11_middle, (x_g16 (x_g16 (x_g16 (x_g16 (x_g16 (x_g16 (x_g16 (x_g16 (x_g4 (x_g4 (x_g4 (x_g1 x_g0)))))))))))), (x_bw_in (x_t4 (i := 194) rfl) rfl), rfl, (fun h => by cases h), (fun _ => by decide +kernel), xD_6⟩
theorem xk_RL_124 : x_okK RL 124 282 1 x_mt false false := ⟨M_cX12_middle, (x_g16 (x_g16 (x_g16 (x_g16 (x_g16 (x_g16 (x_g16 (x_g16 (x_g16 (x_g16 (x_g16 (x_g16 (x_g16 (x_g16 (x_g16 (x_g16 (x_g16 (x_g4 (x_g4 (x_g1 (x_g1 x_g0))))))))))))))))))))), (x_bw_in (x_t8 (i := 115) rfl) rfl), rfl, (fun h => by cases h), (fun _ => by decide +kernel), xD_6⟩
theorem xk_RL_125 : x_okK RL 125 142 2 x_mt false false := ⟨M_cX11_reach, (x_g16 (x_g16 (x_g16 (x_g16 (x_g16 (x_g16 (x_g16 (x_g16 (x_g4 (x_g4 (x_g4 (x_g1 (x_g1 x_g0))))))))))))), (x_bw_in (x_t4 (i := 198) rfl) rfl), rfl, (fun h => by cases h), (fun _ => by decide +kernel), xD_3⟩
theorem xk_RL_128 : x_okK RL 128 284 2 x_mt false false := ⟨M_cX12_reach, (x_g16 (x_g16 (x_g16 (x_g16 (x_g16 (x_g16 (x_g16 (x_g16 (x_g16 (x_g16 (x_g16 (x_g16 (x_g16 (x_g16 (x_g16 (x_g16 (x_g16 (x_g4 (x_g4 (x_g4 x_g0)))))))))))))))))))), (x_bw_in (x_t8 (i := 119) rfl) rfl), rfl, (fun h => by cases h), (fun _ => by decide +kernel), xD_3⟩
theorem xk_RL_129 : x_okK RL 129 143 1 x_mt false false := ⟨M_cX11_post, (x_g16 (x_g16 (x_g16 (x_g16 (x_g16 (x_g16 (x_g16 (x_g16 (x_g4 (x_g4 (x_g4 (x_g1 (x_g1 (x_g1 x_g0)))))))))))))), (x_bw_in (x_t4 (i := 210) rfl) rfl), rfl, (fun h => by cases h), (fun _ => by decide +kernel), xD_6⟩
theorem xk_RL_132 : x_okK RL 132 286 1 x_mt false false := ⟨M_cX12_post, (x_g16 (x_g16 (x_g16 (x_g16 (x_g16 (x_g16 (x_g16 (x_g16 (x_g16 (x_g16 (x_g16 (x_g16 (x_g16 (x_g16 (x_g16 (x_g16 (x_g16 (x_g4 (x_g4 (x_g4 (x_g1 (x_g1 x_g0)))))))))))))))))))))), (x_bw_in (x_t8 (i := 127) rfl) rfl), rfl, (fun h => by cases h), (fun _ => by decide +kernel), xD_6⟩
theorem xk_RL_133 : x_okK RL 133 138 1 x_mt false false := ⟨M_cX11_slack, (x_g16 (x_g16 (x_g16 (x_g16 (x_g16 (x_g16 (x_g16 (x_g16 (x_g4 (x_g4 (x_g1 (x_g1 x_g0)))))))))))), (x_bw_in (x_t4 (i := 167) rfl) rfl), rfl, (fun h => by cases h), (fun _ => by decide +kernel), xD_6⟩
theorem xk_RL_136 : x_okK RL 136 288 1 x_mt false false := ⟨M_cX12_slack, (x_g16 (x_g16 (x_g16 (x_g16 (x_g16 (x_g16 (x_g16 (x_g16 (x_g16 (x_g16 (x_g16 (x_g16 (x_g16 (x_g16 (x_g16 (x_g16 (x_g16 (x_g16 x_g0)))))))))))))))))), (x_bw_in (x_t8 (i := 134) rfl) rfl), rfl, (fun h => by cases h), (fun _ => by decide +kernel), xD_6⟩
theorem xk_RL_137 : x_okK RL 137 144 2 x_mt false false := ⟨M_cX11_rows, (x_g16 (x_g16 (x_g16 (x_g16 (x_g16 (x_g16 (x_g16 (x_g16 (x_g16 x_g0))))))))), (x_bw_in (x_t4 (i := 215) rfl) rfl), rfl, (fun h => by cases h), (fun _ => by decide +kernel), xD_16⟩
theorem xk_RL_141 : x_okK RL 141 293 2 x_mt false false := ⟨M_cX12_rows, (x_g16 (x_g16 (x_g16 (x_g16 (x_g16 (x_g16 (x_g16 (x_g16 (x_g16 (x_g16 (x_g16 (x_g16 (x_g16 (x_g16 (x_g16 (x_g16 (x_g16 (x_g16 (x_g4 (x_g1 x_g0)))))))))))))))))))), (x_bw_in (x_t8 (i := 142) rfl) rfl), rfl, (fun h => by cases h), (fun _ => by decide +kernel), xD_16⟩
theorem xD_53 : (parseMethodDescriptor "(III)J").map (fun d => d.parameters.length) = some 3 := by decide +kernel
theorem xk_RL_142 : x_okK RL 142 145 3 x_mt false false := ⟨M_cX11_ends, (x_g16 (x_g16 (x_g16 (x_g16 (x_g16 (x_g16 (x_g16 (x_g16 (x_g16 (x_g1 x_g0)))))))))), (x_bw_in (x_t5 (i := 24) rfl) rfl), rfl, (fun h => by cases h), (fun _ => by decide +kernel), xD_53⟩
theorem xk_RL_146 : x_okK RL 146 294 3 x_mt false false := ⟨M_cX12_ends, (x_g16 (x_g16 (x_g16 (x_g16 (x_g16 (x_g16 (x_g16 (x_g16 (x_g16 (x_g16 (x_g16 (x_g16 (x_g16 (x_g16 (x_g16 (x_g16 (x_g16 (x_g16 (x_g4 (x_g1 (x_g1 x_g0))))))))))))))))))))), (x_bw_in (x_t8 (i := 164) rfl) rfl), rfl, (fun h => by cases h), (fun _ => by decide +kernel), xD_53⟩
theorem xk_RL_147 : x_okK RL 147 146 1 x_mt false false := ⟨M_cX11_fair, (x_g16 (x_g16 (x_g16 (x_g16 (x_g16 (x_g16 (x_g16 (x_g16 (x_g16 (x_g1 (x_g1 x_g0))))))))))), (x_bw_in (x_t5 (i := 29) rfl) rfl), rfl, (fun h => by cases h), (fun _ => by decide +kernel), xD_6⟩
theorem xk_RL_150 : x_okK RL 150 295 1 x_mt false false := ⟨M_cX12_fair, (x_g16 (x_g16 (x_g16 (x_g16 (x_g16 (x_g16 (x_g16 (x_g16 (x_g16 (x_g16 (x_g16 (x_g16 (x_g16 (x_g16 (x_g16 (x_g16 (x_g16 (x_g16 (x_g4 (x_g1 (x_g1 (x_g1 x_g0)))))))))))))))))))))), (x_bw_in (x_t8 (i := 168) rfl) rfl), rfl, (fun h => by cases h), (fun _ => by decide +kernel), xD_6⟩
theorem xk_RL_151 : x_okK RL 151 147 1 x_mt false false := ⟨M_cX11_breaks, (x_g16 (x_g16 (x_g16 (x_g16 (x_g16 (x_g16 (x_g16 (x_g16 (x_g16 (x_g1 (x_g1 (x_g1 x_g0)))))))))))), (x_bw_in (x_t5 (i := 38) rfl) rfl), rfl, (fun h => by cases h), (fun _ => by decide +kernel), xD_6⟩
theorem xk_RL_154 : x_okK RL 154 297 1 x_mt false false := ⟨M_cX12_breaks, (x_g16 (x_g16 (x_g16 (x_g16 (x_g16 (x_g16 (x_g16 (x_g16 (x_g16 (x_g16 (x_g16 (x_g16 (x_g16 (x_g16 (x_g16 (x_g16 (x_g16 (x_g16 (x_g4 (x_g4 (x_g1 x_g0))))))))))))))))))))), (x_bw_in (x_t8 (i := 172) rfl) rfl), rfl, (fun h => by cases h), (fun _ => by decide +kernel), xD_6⟩
theorem xk_RL_155 : x_okK RL 155 148 1 x_mt false false := ⟨M_cX11_period, (x_g16 (x_g16 (x_g16 (x_g16 (x_g16 (x_g16 (x_g16 (x_g16 (x_g16 (x_g4 x_g0)))))))))), (x_bw_in (x_t5 (i := 50) rfl) rfl), rfl, (fun h => by cases h), (fun _ => by decide +kernel), xD_6⟩
theorem xk_RL_158 : x_okK RL 158 302 1 x_mt false false := ⟨M_cX12_period, (x_g16 (x_g16 (x_g16 (x_g16 (x_g16 (x_g16 (x_g16 (x_g16 (x_g16 (x_g16 (x_g16 (x_g16 (x_g16 (x_g16 (x_g16 (x_g16 (x_g16 (x_g16 (x_g4 (x_g4 (x_g4 (x_g1 (x_g1 x_g0))))))))))))))))))))))), (x_bw_in (x_t8 (i := 181) rfl) rfl), rfl, (fun h => by cases h), (fun _ => by decide +kernel), xD_6⟩
theorem xk_RL_159 : x_okK RL 159 149 1 x_mt false false := ⟨M_cX11_periods, (x_g16 (x_g16 (x_g16 (x_g16 (x_g16 (x_g16 (x_g16 (x_g16 (x_g16 (x_g4 (x_g1 x_g0))))))))))), (x_bw_in (x_t5 (i := 73) rfl) rfl), rfl, (fun h => by cases h), (fun _ => by decide +kernel), xD_6⟩
theorem xk_RL_162 : x_okK RL 162 303 1 x_mt false false := ⟨M_cX12_periods, (x_g16 (x_g16 (x_g16 (x_g16 (x_g16 (x_g16 (x_g16 (x_g16 (x_g16 (x_g16 (x_g16 (x_g16 (x_g16 (x_g16 (x_g16 (x_g16 (x_g16 (x_g16 (x_g4 (x_g4 (x_g4 (x_g1 (x_g1 (x_g1 x_g0)))))))))))))))))))))))), (x_bw_in (x_t8 (i := 204) rfl) rfl), rfl, (fun h => by cases h), (fun _ => by decide +kernel), xD_6⟩
theorem xk_RL_163 : x_okK RL 163 150 1 x_mt false false := ⟨M_cX11_luck, (x_g16 (x_g16 (x_g16 (x_g16 (x_g16 (x_g16 (x_g16 (x_g16 (x_g16 (x_g4 (x_g1 (x_g1 x_g0)))))))))))), (x_bw_in (x_t5 (i := 81) rfl) rfl), rfl, (fun h => by cases h), (fun _ => by decide +kernel), xD_6⟩
theorem xk_RL_166 : x_okK RL 166 304 1 x_mt false false := ⟨M_cX12_luck, (x_g16 (x_g16 (x_g16 (x_g16 (x_g16 (x_g16 (x_g16 (x_g16 (x_g16 (x_g16 (x_g16 (x_g16 (x_g16 (x_g16 (x_g16 (x_g16 (x_g16 (x_g16 (x_g16 x_g0))))))))))))))))))), (x_bw_in (x_t8 (i := 208) rfl) rfl), rfl, (fun h => by cases h), (fun _ => by decide +kernel), xD_6⟩
theorem xk_RL_167 : x_okK RL 167 151 1 x_mt false false := ⟨M_cX11_fits, (x_g16 (x_g16 (x_g16 (x_g16 (x_g16 (x_g16 (x_g16 (x_g16 (x_g16 (x_g4 (x_g1 (x_g1 (x_g1 x_g0))))))))))))), (x_bw_in (x_t5 (i := 86) rfl) rfl), rfl, (fun h => by cases h), (fun _ => by decide +kernel), xD_6⟩
theorem xk_RL_170 : x_okK RL 170 306 1 x_mt false false := ⟨M_cX12_fits, (x_g16 (x_g16 (x_g16 (x_g16 (x_g16 (x_g16 (x_g16 (x_g16 (x_g16 (x_g16 (x_g16 (x_g16 (x_g16 (x_g16 (x_g16 (x_g16 (x_g16 (x_g16 (x_g16 (x_g1 (x_g1 x_g0))))))))))))))))))))), (x_bw_in (x_t8 (i := 213) rfl) rfl), rfl, (fun h => by cases h), (fun _ => by decide +kernel), xD_6⟩
theorem xk_RL_171 : x_okK RL 171 152 2 x_mt false false := ⟨M_cX11_place, (x_g16 (x_g16 (x_g16 (x_g16 (x_g16 (x_g16 (x_g16 (x_g16 (x_g16 (x_g4 (x_g4 x_g0))))))))))), (x_bw_in (x_t5 (i := 95) rfl) rfl), rfl, (fun h => by cases h), (fun _ => by decide +kernel), xD_3⟩
theorem xk_RL_174 : x_okK RL 174 307 2 x_mt false false := ⟨M_cX12_place, (x_g16 (x_g16 (x_g16 (x_g16 (x_g16 (x_g16 (x_g16 (x_g16 (x_g16 (x_g16 (x_g16 (x_g16 (x_g16 (x_g16 (x_g16 (x_g16 (x_g16 (x_g16 (x_g16 (x_g1 (x_g1 (x_g1 x_g0)))))))))))))))))))))), (x_bw_in (x_t8 (i := 221) rfl) rfl), rfl, (fun h => by cases h), (fun _ => by decide +kernel), xD_3⟩
theorem xk_RL_175 : x_okK RL 175 153 1 x_mt false false := ⟨M_cX11_next, (x_g16 (x_g16 (x_g16 (x_g16 (x_g16 (x_g16 (x_g16 (x_g16 (x_g16 (x_g4 (x_g4 (x_g1 x_g0)))))))))))), (x_bw_in (x_t5 (i := 99) rfl) rfl), rfl, (fun h => by cases h), (fun _ => by decide +kernel), xD_6⟩
theorem xk_RL_178 : x_okK RL 178 308 1 x_mt false false := ⟨M_cX12_next, (x_g16 (x_g16 (x_g16 (x_g16 (x_g16 (x_g16 (x_g16 (x_g16 (x_g16 (x_g16 (x_g16 (x_g16 (x_g16 (x_g16 (x_g16 (x_g16 (x_g16 (x_g16 (x_g16 (x_g4 x_g0)))))))))))))))))))), (x_bw_in (x_t8 (i := 225) rfl) rfl), rfl, (fun h => by cases h), (fun _ => by decide +kernel), xD_6⟩
theorem xk_RL_179 : x_okK RL 179 154 1 x_mt false false := ⟨M_cX11_needed, (x_g16 (x_g16 (x_g16 (x_g16 (x_g16 (x_g16 (x_g16 (x_g16 (x_g16 (x_g4 (x_g4 (x_g1 (x_g1 x_g0))))))))))))), (x_bw_in (x_t5 (i := 103) rfl) rfl), rfl, (fun h => by cases h), (fun _ => by decide +kernel), xD_6⟩
theorem xk_RL_182 : x_okK RL 182 311 1 x_mt false false := ⟨M_cX12_needed, (x_g16 (x_g16 (x_g16 (x_g16 (x_g16 (x_g16 (x_g16 (x_g16 (x_g16 (x_g16 (x_g16 (x_g16 (x_g16 (x_g16 (x_g16 (x_g16 (x_g16 (x_g16 (x_g16 (x_g4 (x_g1 (x_g1 (x_g1 x_g0))))))))))))))))))))))), (x_bw_in (x_t8 (i := 229) rfl) rfl), rfl, (fun h => by cases h), (fun _ => by decide +kernel), xD_6⟩
theorem xk_RL_183 : x_okK RL 183 155 0 x_mt false false := ⟨M_cX11_known, (x_g16 (x_g16 (x_g16 (x_g16 (x_g16 (x_g16 (x_g16 (x_g16 (x_g16 (x_g4 (x_g4 (x_g1 (x_g1 (x_g1 x_g0)))))))))))))), (x_bw_in (x_t5 (i := 116) rfl) rfl), rfl, (fun h => by cases h), (fun _ => by decide +kernel), xD_2⟩
theorem xk_RL_186 : x_okK RL 186 312 0 x_mt false false := ⟨M_cX12_known, (x_g16 (x_g16 (x_g16 (x_g16 (x_g16 (x_g16 (x_g16 (x_g16 (x_g16 (x_g16 (x_g16 (x_g16 (x_g16 (x_g16 (x_g16 (x_g16 (x_g16 (x_g16 (x_g16 (x_g4 (x_g4 x_g0))))))))))))))))))))), (x_bw_in (x_t9 (i := 1) rfl) rfl), rfl, (fun h => by cases h), (fun _ => by decide +kernel), xD_2⟩
theorem xk_RL_187 : x_okK RL 187 156 1 x_mt false false := ⟨M_cX11_rash, (x_g16 (x_g16 (x_g16 (x_g16 (x_g16 (x_g16 (x_g16 (x_g16 (x_g16 (x_g4 (x_g4 (x_g4 x_g0)))))))))))), (x_bw_in (x_t5 (i := 121) rfl) rfl), rfl, (fun h => by cases h), (fun _ => by decide +kernel), xD_6⟩
theorem xk_RL_190 : x_okK RL 190 314 1 x_mt false false := ⟨M_cX12_rash, (x_g16 (x_g16 (x_g16 (x_g16 (x_g16 (x_g16 (x_g16 (x_g16 (x_g16 (x_g16 (x_g16 (x_g16 (x_g16 (x_g16 (x_g16 (x_g16 (x_g16 (x_g16 (x_g16 (x_g4 (x_g4 (x_g1 (x_g1 x_g0))))))))))))))))))))))), (x_bw_in (x_t9 (i := 5) rfl) rfl), rfl, (fun h => by cases h), (fun _ => by decide +kernel), xD_6⟩
theorem xk_RL_191 : x_okK RL 191 157 2 x_mt false false := ⟨M_cX11_look, (x_g16 (x_g16 (x_g16 (x_g16 (x_g16 (x_g16 (x_g16 (x_g16 (x_g16 (x_g4 (x_g4 (x_g4 (x_g1 x_g0))))))))))))), (x_bw_in (x_t5 (i := 129) rfl) rfl), rfl, (fun h => by cases h), (fun _ => by decide +kernel), xD_3⟩
theorem xk_RL_194 : x_okK RL 194 316 2 x_mt false false := ⟨M_cX12_look, (x_g16 (x_g16 (x_g16 (x_g16 (x_g16 (x_g16 (x_g16 (x_g16 (x_g16 (x_g16 (x_g16 (x_g16 (x_g16 (x_g16 (x_g16 (x_g16 (x_g16 (x_g16 (x_g16 (x_g4 (x_g4 (x_g4 x_g0)))))))))))))))))))))), (x_bw_in (x_t9 (i := 13) rfl) rfl), rfl, (fun h => by cases h), (fun _ => by decide +kernel), xD_3⟩
theorem xk_RL_195 : x_okK RL 195 158 1 x_mt false false := ⟨M_cX11_line, (x_g16 (x_g16 (x_g16 (x_g16 (x_g16 (x_g16 (x_g16 (x_g16 (x_g16 (x_g4 (x_g4 (x_g4 (x_g1 (x_g1 x_g0)))))))))))))), (x_bw_in (x_t5 (i := 137) rfl) rfl), rfl, (fun h => by cases h), (fun _ => by decide +kernel), xD_6⟩
theorem xk_RL_198 : x_okK RL 198 317 1 x_mt false false := ⟨M_cX12_line, (x_g16 (x_g16 (x_g16 (x_g16 (x_g16 (x_g16 (x_g16 (x_g16 (x_g16 (x_g16 (x_g16 (x_g16 (x_g16 (x_g16 (x_g16 (x_g16 (x_g16 (x_g16 (x_g16 (x_g4 (x_g4 (x_g4 (x_g1 x_g0))))))))))))))))))))))), (x_bw_in (x_t9 (i := 22) rfl) rfl), rfl, (fun h => by cases h), (fun _ => by decide +kernel), xD_6⟩
theorem xD_54 : (parseMethodDescriptor "(III)I").map (fun d => d.parameters.length) = some 3 := by decide +kernel
theorem xk_RL_199 : x_okK RL 199 159 3 x_mt false false := ⟨M_cX11_two, (x_g16 (x_g16 (x_g16 (x_g16 (x_g16 (x_g16 (x_g16 (x_g16 (x_g16 (x_g4 (x_g4 (x_g4 (x_g1 (x_g1 (x_g1 x_g0))))))))))))))), (x_bw_in (x_t5 (i := 141) rfl) rfl), rfl, (fun h => by cases h), (fun _ => by decide +kernel), xD_54⟩
theorem xk_RL_203 : x_okK RL 203 319 3 x_mt false false := ⟨M_cX12_two, (x_g16 (x_g16 (x_g16 (x_g16 (x_g16 (x_g16 (x_g16 (x_g16 (x_g16 (x_g16 (x_g16 (x_g16 (x_g16 (x_g16 (x_g16 (x_g16 (x_g16 (x_g16 (x_g16 (x_g4 (x_g4 (x_g4 (x_g1 (x_g1 (x_g1 x_g0))))))))))))))))))))))))), (x_bw_in (x_t9 (i := 26) rfl) rfl), rfl, (fun h => by cases h), (fun _ => by decide +kernel), xD_54⟩
theorem xk_RL_204 : x_okK RL 204 160 1 x_mt false false := ⟨M_cX11_tickets, (x_g16 (x_g16 (x_g16 (x_g16 (x_g16 (x_g16 (x_g16 (x_g16 (x_g16 (x_g16 x_g0)))))))))), (x_bw_in (x_t5 (i := 155) rfl) rfl), rfl, (fun h => by cases h), (fun _ => by decide +kernel), xD_6⟩
theorem xk_RL_207 : x_okK RL 207 321 1 x_mt false false := ⟨M_cX12_tickets, (x_g16 (x_g16 (x_g16 (x_g16 (x_g16 (x_g16 (x_g16 (x_g16 (x_g16 (x_g16 (x_g16 (x_g16 (x_g16 (x_g16 (x_g16 (x_g16 (x_g16 (x_g16 (x_g16 (x_g16 (x_g1 x_g0))))))))))))))))))))), (x_bw_in (x_t9 (i := 34) rfl) rfl), rfl, (fun h => by cases h), (fun _ => by decide +kernel), xD_6⟩
theorem xk_RL_208 : x_okK RL 208 161 1 x_mt false false := ⟨M_cX11_prize, (x_g16 (x_g16 (x_g16 (x_g16 (x_g16 (x_g16 (x_g16 (x_g16 (x_g16 (x_g16 (x_g1 x_g0))))))))))), (x_bw_in (x_t5 (i := 163) rfl) rfl), rfl, (fun h => by cases h), (fun _ => by decide +kernel), xD_6⟩
theorem xk_RL_211 : x_okK RL 211 322 1 x_mt false false := ⟨M_cX12_prize, (x_g16 (x_g16 (x_g16 (x_g16 (x_g16 (x_g16 (x_g16 (x_g16 (x_g16 (x_g16 (x_g16 (x_g16 (x_g16 (x_g16 (x_g16 (x_g16 (x_g16 (x_g16 (x_g16 (x_g16 (x_g1 (x_g1 x_g0)))))))))))))))))))))), (x_bw_in (x_t9 (i := 42) rfl) rfl), rfl, (fun h => by cases h), (fun _ => by decide +kernel), xD_6⟩
theorem xk_RL_212 : x_okK RL 212 162 1 x_mt false false := ⟨M_cX11_counted, (x_g16 (x_g16 (x_g16 (x_g16 (x_g16 (x_g16 (x_g16 (x_g16 (x_g16 (x_g16 (x_g1 (x_g1 x_g0)))))))))))), (x_bw_in (x_t5 (i := 167) rfl) rfl), rfl, (fun h => by cases h), (fun _ => by decide +kernel), xD_6⟩
theorem xk_RL_215 : x_okK RL 215 326 1 x_mt false false := ⟨M_cX12_counted, (x_g16 (x_g16 (x_g16 (x_g16 (x_g16 (x_g16 (x_g16 (x_g16 (x_g16 (x_g16 (x_g16 (x_g16 (x_g16 (x_g16 (x_g16 (x_g16 (x_g16 (x_g16 (x_g16 (x_g16 (x_g4 (x_g1 (x_g1 x_g0))))))))))))))))))))))), (x_bw_in (x_t9 (i := 46) rfl) rfl), rfl, (fun h => by cases h), (fun _ => by decide +kernel), xD_6⟩
theorem xk_RL_216 : x_okK RL 216 163 1 x_mt false false := ⟨M_cX11_scored, (x_g16 (x_g16 (x_g16 (x_g16 (x_g16 (x_g16 (x_g16 (x_g16 (x_g16 (x_g16 (x_g1 (x_g1 (x_g1 x_g0))))))))))))), (x_bw_in (x_t5 (i := 186) rfl) rfl), rfl, (fun h => by cases h), (fun _ => by decide +kernel), xD_6⟩
theorem xk_RL_219 : x_okK RL 219 327 1 x_mt false false := ⟨M_cX12_scored, (x_g16 (x_g16 (x_g16 (x_g16 (x_g16 (x_g16 (x_g16 (x_g16 (x_g16 (x_g16 (x_g16 (x_g16 (x_g16 (x_g16 (x_g16 (x_g16 (x_g16 (x_g16 (x_g16 (x_g16 (x_g4 (x_g1 (x_g1 (x_g1 x_g0)))))))))))))))))))))))), (x_bw_in (x_t9 (i := 62) rfl) rfl), rfl, (fun h => by cases h), (fun _ => by decide +kernel), xD_6⟩
theorem xk_RL_220 : x_okK RL 220 164 2 x_mt false false := ⟨M_cX11_early, (x_g16 (x_g16 (x_g16 (x_g16 (x_g16 (x_g16 (x_g16 (x_g16 (x_g16 (x_g16 (x_g4 x_g0))))))))))), (x_bw_in (x_t5 (i := 190) rfl) rfl), rfl, (fun h => by cases h), (fun _ => by decide +kernel), xD_3⟩
theorem xk_RL_223 : x_okK RL 223 328 2 x_mt false false := ⟨M_cX12_early, (x_g16 (x_g16 (x_g16 (x_g16 (x_g16 (x_g16 (x_g16 (x_g16 (x_g16 (x_g16 (x_g16 (x_g16 (x_g16 (x_g16 (x_g16 (x_g16 (x_g16 (x_g16 (x_g16 (x_g16 (x_g4 (x_g4 x_g0)))))))))))))))))))))), (x_bw_in (x_t9 (i := 66) rfl) rfl), rfl, (fun h => by cases h), (fun _ => by decide +kernel), xD_3⟩
theorem xk_RL_224 : x_okK RL 224 165 1 x_mt false false := ⟨M_cX11_often, (x_g16 (x_g16 (x_g16 (x_g16 (x_g16 (x_g16 (x_g16 (x_g16 (x_g16 (x_g16 (x_g4 (x_g1 x_g0)))))))))))), (x_bw_in (x_t5 (i := 194) rfl) rfl), rfl, (fun h => by cases h), (fun _ => by decide +kernel), xD_6⟩
theorem xk_RL_227 : x_okK RL 227 330 1 x_mt false false := ⟨M_cX12_often, (x_g16 (x_g16 (x_g16 (x_g16 (x_g16 (x_g16 (x_g16 (x_g16 (x_g16 (x_g16 (x_g16 (x_g16 (x_g16 (x_g16 (x_g16 (x_g16 (x_g16 (x_g16 (x_g16 (x_g16 (x_g4 (x_g4 (x_g1 (x_g1 x_g0)))))))))))))))))))))))), (x_bw_in (x_t9 (i := 70) rfl) rfl), rfl, (fun h => by cases h), (fun _ => by decide +kernel), xD_6⟩
theorem xk_RL_228 : x_okK RL 228 166 0 x_mt false false := ⟨M_cX11_balance, (x_g16 (x_g16 (x_g16 (x_g16 (x_g16 (x_g16 (x_g16 (x_g16 (x_g16 (x_g16 (x_g4 (x_g1 (x_g1 x_g0))))))))))))), (x_bw_in (x_t5 (i := 199) rfl) rfl), rfl, (fun h => by cases h), (fun _ => by decide +kernel), xD_2⟩
theorem xk_RL_231 : x_okK RL 231 331 0 x_mt false false := ⟨M_cX12_balance, (x_g16 (x_g16 (x_g16 (x_g16 (x_g16 (x_g16 (x_g16 (x_g16 (x_g16 (x_g16 (x_g16 (x_g16 (x_g16 (x_g16 (x_g16 (x_g16 (x_g16 (x_g16 (x_g16 (x_g16 (x_g4 (x_g4 (x_g1 (x_g1 (x_g1 x_g0))))))))))))))))))))))))), (x_bw_in (x_t9 (i := 78) rfl) rfl), rfl, (fun h => by cases h), (fun _ => by decide +kernel), xD_2⟩
theorem xk_RL_232 : x_okK RL 232 167 0 x_mt false false := ⟨M_cX11_path, (x_g16 (x_g16 (x_g16 (x_g16 (x_g16 (x_g16 (x_g16 (x_g16 (x_g16 (x_g16 (x_g4 (x_g1 (x_g1 (x_g1 x_g0)))))))))))))), (x_bw_in (x_t5 (i := 205) rfl) rfl), rfl, (fun h => by cases h), (fun _ => by decide +kernel), xD_2⟩
theorem xk_RL_235 : x_okK RL 235 333 0 x_mt false false := ⟨M_cX12_path, (x_g16 (x_g16 (x_g16 (x_g16 (x_g16 (x_g16 (x_g16 (x_g16 (x_g16 (x_g16 (x_g16 (x_g16 (x_g16 (x_g16 (x_g16 (x_g16 (x_g16 (x_g16 (x_g16 (x_g16 (x_g4 (x_g4 (x_g4 (x_g1 x_g0)))))))))))))))))))))))), (x_bw_in (x_t9 (i := 82) rfl) rfl), rfl, (fun h => by cases h), (fun _ => by decide +kernel), xD_2⟩
theorem xk_RL_236 : x_okK RL 236 168 1 x_mt false false := ⟨M_cX11_better, (x_g16 (x_g16 (x_g16 (x_g16 (x_g16 (x_g16 (x_g16 (x_g16 (x_g16 (x_g16 (x_g4 (x_g4 x_g0)))))))))))), (x_bw_in (x_t5 (i := 214) rfl) rfl), rfl, (fun h => by cases h), (fun _ => by decide +kernel), xD_6⟩
theorem xk_RL_239 : x_okK RL 239 335 1 x_mt false false := ⟨M_cX12_better, (x_g16 (x_g16 (x_g16 (x_g16 (x_g16 (x_g16 (x_g16 (x_g16 (x_g16 (x_g16 (x_g16 (x_g16 (x_g16 (x_g16 (x_g16 (x_g16 (x_g16 (x_g16 (x_g16 (x_g16 (x_g4 (x_g4 (x_g4 (x_g1 (x_g1 (x_g1 x_g0)))))))))))))))))))))))))), (x_bw_in (x_t9 (i := 90) rfl) rfl), rfl, (fun h => by cases h), (fun _ => by decide +kernel), xD_6⟩
theorem xk_RL_240 : x_okK RL 240 169 2 x_mt false false := ⟨M_cX11_swap, (x_g16 (x_g16 (x_g16 (x_g16 (x_g16 (x_g16 (x_g16 (x_g16 (x_g16 (x_g16 (x_g4 (x_g4 (x_g1 x_g0))))))))))))), (x_bw_in (x_t5 (i := 226) rfl) rfl), rfl, (fun h => by cases h), (fun _ => by decide +kernel), xD_3⟩
theorem xk_RL_243 : x_okK RL 243 336 2 x_mt false false := ⟨M_cX12_swap, (x_g16 (x_g16 (x_g16 (x_g16 (x_g16 (x_g16 (x_g16 (x_g16 (x_g16 (x_g16 (x_g16 (x_g16 (x_g16 (x_g16 (x_g16 (x_g16 (x_g16 (x_g16 (x_g16 (x_g16 (x_g16 x_g0))))))))))))))))))))), (x_bw_in (x_t9 (i := 98) rfl) rfl), rfl, (fun h => by cases h), (fun _ => by decide +kernel), xD_3⟩
theorem xk_RL_244 : x_okK RL 244 170 2 x_mt false false := ⟨M_cX11_paint, (x_g16 (x_g16 (x_g16 (x_g16 (x_g16 (x_g16 (x_g16 (x_g16 (x_g16 (x_g16 (x_g4 (x_g4 (x_g1 (x_g1 x_g0)))))))))))))), (x_bw_in (x_t5 (i := 230) rfl) rfl), rfl, (fun h => by cases h), (fun _ => by decide +kernel), xD_3⟩
theorem xk_RL_247 : x_okK RL 247 337 2 x_mt false false := ⟨M_cX12_paint, (x_g16 (x_g16 (x_g16 (x_g16 (x_g16 (x_g16 (x_g16 (x_g16 (x_g16 (x_g16 (x_g16 (x_g16 (x_g16 (x_g16 (x_g16 (x_g16 (x_g16 (x_g16 (x_g16 (x_g16 (x_g16 (x_g1 x_g0)))))))))))))))))))))), (x_bw_in (x_t9 (i := 102) rfl) rfl), rfl, (fun h => by cases h), (fun _ => by decide +kernel), xD_3⟩
theorem xk_RL_248 : x_okK RL 248 171 1 x_mt false false := ⟨M_cX11_turn, (x_g16 (x_g16 (x_g16 (x_g16 (x_g16 (x_g16 (x_g16 (x_g16 (x_g16 (x_g16 (x_g4 (x_g4 (x_g1 (x_g1 (x_g1 x_g0))))))))))))))), (x_bw_in (x_t5 (i := 234) rfl) rfl), rfl, (fun h => by cases h), (fun _ => by decide +kernel), xD_6⟩
theorem xk_RL_251 : x_okK RL 251 338 1 x_mt false false := ⟨M_cX12_turn, (x_g16 (x_g16 (x_g16 (x_g16 (x_g16 (x_g16 (x_g16 (x_g16 (x_g16 (x_g16 (x_g16 (x_g16 (x_g16 (x_g16 (x_g16 (x_g16 (x_g16 (x_g16 (x_g16 (x_g16 (x_g16 (x_g1 (x_g1 x_g0))))))))))))))))))))))), (x_bw_in (x_t9 (i := 106) rfl) rfl), rfl, (fun h => by cases h), (fun _ => by decide +kernel), xD_6⟩
theorem xk_RL_252 : x_okK RL 252 139 1 x_mt false false := ⟨M_cX11_lucky, (x_g16 (x_g16 (x_g16 (x_g16 (x_g16 (x_g16 (x_g16 (x_g16 (x_g4 (x_g4 (x_g1 (x_g1 (x_g1 x_g0))))))))))))), (x_bw_in (x_t4 (i := 175) rfl) rfl), rfl, (fun h => by cases h), (fun _ => by decide +kernel), xD_6⟩
theorem xk_RL_255 : x_okK RL 255 339 1 x_mt false false := ⟨M_cX12_lucky, (x_g16 (x_g16 (x_g16 (x_g16 (x_g16 (x_g16 (x_g16 (x_g16 (x_g16 (x_g16 (x_g16 (x_g16 (x_g16 (x_g16 (x_g16 (x_g16 (x_g16 (x_g16 (x_g16 (x_g16 (x_g16 (x_g1 (x_g1 (x_g1 x_g0)))))))))))))))))))))))), (x_bw_in (x_t9 (i := 110) rfl) rfl), rfl, (fun h => by cases h), (fun _ => by decide +kernel), xD_6⟩
theorem xk_RL_256 : x_okK RL 256 172 2 x_mt false false := ⟨M_cX11_shut, (x_g16 (x_g16 (x_g16 (x_g16 (x_g16 (x_g16 (x_g16 (x_g16 (x_g16 (x_g16 (x_g4 (x_g4 (x_g4 x_g0))))))))))))), (x_bw_in (x_t5 (i := 238) rfl) rfl), rfl, (fun h => by cases h), (fun _ => by decide +kernel), xD_3⟩
theorem xk_RL_259 : x_okK RL 259 340 2 x_mt false false := ⟨M_cX12_shut, (x_g16 (x_g16 (x_g16 (x_g16 (x_g16 (x_g16 (x_g16 (x_g16 (x_g16 (x_g16 (x_g16 (x_g16 (x_g16 (x_g16 (x_g16 (x_g16 (x_g16 (x_g16 (x_g16 (x_g16 (x_g16 (x_g4 x_g0)))))))))))))))))))))), (x_bw_in (x_t9 (i := 114) rfl) rfl), rfl, (fun h => by cases h), (fun _ => by decide +kernel), xD_3⟩
theorem xk_RL_260 : x_okK RL 260 173 3 x_mt false false := ⟨M_cX11_train, (x_g16 (x_g16 (x_g16 (x_g16 (x_g16 (x_g16 (x_g16 (x_g16 (x_g16 (x_g16 (x_g4 (x_g4 (x_g4 (x_g1 x_g0)))))))))))))), (x_bw_in (x_t6 (i := 2) rfl) rfl), rfl, (fun h => by cases h), (fun _ => by decide +kernel), xD_54⟩
theorem xk_RL_263 : x_okK RL 263 341 3 x_mt false false := ⟨M_cX12_train, (x_g16 (x_g16 (x_g16 (x_g16 (x_g16 (x_g16 (x_g16 (x_g16 (x_g16 (x_g16 (x_g16 (x_g16 (x_g16 (x_g16 (x_g16 (x_g16 (x_g16 (x_g16 (x_g16 (x_g16 (x_g16 (x_g4 (x_g1 x_g0))))))))))))))))))))))), (x_bw_in (x_t9 (i := 118) rfl) rfl), rfl, (fun h => by cases h), (fun _ => by decide +kernel), xD_54⟩
theorem xk_RL_264 : x_okK RL 264 174 3 x_mt false false := ⟨M_cX11_drawn, (x_g16 (x_g16 (x_g16 (x_g16 (x_g16 (x_g16 (x_g16 (x_g16 (x_g16 (x_g16 (x_g4 (x_g4 (x_g4 (x_g1 (x_g1 x_g0))))))))))))))), (x_bw_in (x_t6 (i := 8) rfl) rfl), rfl, (fun h => by cases h), (fun _ => by decide +kernel), xD_54⟩
theorem xk_RL_267 : x_okK RL 267 346 3 x_mt false false := ⟨M_cX12_drawn, (x_g16 (x_g16 (x_g16 (x_g16 (x_g16 (x_g16 (x_g16 (x_g16 (x_g16 (x_g16 (x_g16 (x_g16 (x_g16 (x_g16 (x_g16 (x_g16 (x_g16 (x_g16 (x_g16 (x_g16 (x_g16 (x_g4 (x_g4 (x_g1 (x_g1 x_g0))))))))))))))))))))))))), (x_bw_in (x_t9 (i := 123) rfl) rfl), rfl, (fun h => by cases h), (fun _ => by decide +kernel), xD_54⟩
theorem xk_RL_268 : x_okK RL 268 175 3 x_mt false false := ⟨M_cX11_night, (x_g16 (x_g16 (x_g16 (x_g16 (x_g16 (x_g16 (x_g16 (x_g16 (x_g16 (x_g16 (x_g4 (x_g4 (x_g4 (x_g1 (x_g1 (x_g1 x_g0)))))))))))))))), (x_bw_in (x_t6 (i := 30) rfl) rfl), rfl, (fun h => by cases h), (fun _ => by decide +kernel), xD_54⟩
theorem xk_RL_271 : x_okK RL 271 348 3 x_mt false false := ⟨M_cX12_night, (x_g16 (x_g16 (x_g16 (x_g16 (x_g16 (x_g16 (x_g16 (x_g16 (x_g16 (x_g16 (x_g16 (x_g16 (x_g16 (x_g16 (x_g16 (x_g16 (x_g16 (x_g16 (x_g16 (x_g16 (x_g16 (x_g4 (x_g4 (x_g4 x_g0)))))))))))))))))))))))), (x_bw_in (x_t9 (i := 147) rfl) rfl), rfl, (fun h => by cases h), (fun _ => by decide +kernel), xD_54⟩
theorem xk_RL_272 : x_okK RL 272 176 4 x_mt false false := ⟨M_cX11_years, (x_g16 (x_g16 (x_g16 (x_g16 (x_g16 (x_g16 (x_g16 (x_g16 (x_g16 (x_g16 (x_g16 x_g0))))))))))), (x_bw_in (x_t6 (i := 38) rfl) rfl), rfl, (fun h => by cases h), (fun _ => by decide +kernel), xD_39⟩
theorem xk_RL_276 : x_okK RL 276 349 4 x_mt false false := ⟨M_cX12_years, (x_g16 (x_g16 (x_g16 (x_g16 (x_g16 (x_g16 (x_g16 (x_g16 (x_g16 (x_g16 (x_g16 (x_g16 (x_g16 (x_g16 (x_g16 (x_g16 (x_g16 (x_g16 (x_g16 (x_g16 (x_g16 (x_g4 (x_g4 (x_g4 (x_g1 x_g0))))))))))))))))))))))))), (x_bw_in (x_t9 (i := 155) rfl) rfl), rfl, (fun h => by cases h), (fun _ => by decide +kernel), xD_39⟩
theorem xk_RL_277 : x_okK RL 277 119 1 x_mt false false := ⟨M_cX11_count, (x_g16 (x_g16 (x_g16 (x_g16 (x_g16 (x_g16 (x_g16 (x_g4 (x_g1 (x_g1 (x_g1 x_g0))))))))))), (x_bw_in (x_t3 (i := 179) rfl) rfl), rfl, (fun h => by cases h), (fun _ => by decide +kernel), xD_6⟩
theorem xk_RL_280 : x_okK RL 280 350 1 x_mt false false := ⟨M_cX12_count, (x_g16 (x_g16 (x_g16 (x_g16 (x_g16 (x_g16 (x_g16 (x_g16 (x_g16 (x_g16 (x_g16 (x_g16 (x_g16 (x_g16 (x_g16 (x_g16 (x_g16 (x_g16 (x_g16 (x_g16 (x_g16 (x_g4 (x_g4 (x_g4 (x_g1 (x_g1 x_g0)))))))))))))))))))))))))), (x_bw_in (x_t9 (i := 159) rfl) rfl), rfl, (fun h => by cases h), (fun _ => by decide +kernel), xD_6⟩
theorem xk_RL_281 : x_okK RL 281 177 1 x_mt false false := ⟨M_cX11_image, (x_g16 (x_g16 (x_g16 (x_g16 (x_g16 (x_g16 (x_g16 (x_g16 (x_g16 (x_g16 (x_g16 (x_g1 x_g0)))))))))))), (x_bw_in (x_t6 (i := 39) rfl) rfl), rfl, (fun h => by cases h), (fun _ => by decide +kernel), xD_6⟩
theorem xk_RL_284 : x_okK RL 284 197 1 x_mt false false := ⟨M_cX12_image, (x_g16 (x_g16 (x_g16 (x_g16 (x_g16 (x_g16 (x_g16 (x_g16 (x_g16 (x_g16 (x_g16 (x_g16 (x_g4 (x_g1 x_g0)))))))))))))), (x_bw_in (x_t6 (i := 220) rfl) rfl), rfl, (fun h => by cases h), (fun _ => by decide +kernel), xD_6⟩
theorem xk_RL_285 : x_okK RL 285 178 1 x_mt false false := ⟨M_cX11_back, (x_g16 (x_g16 (x_g16 (x_g16 (x_g16 (x_g16 (x_g16 (x_g16 (x_g16 (x_g16 (x_g16 (x_g1 (x_g1 x_g0))))))))))))), (x_bw_in (x_t6 (i := 43) rfl) rfl), rfl, (fun h => by cases h), (fun _ => by decide +kernel), xD_6⟩
theorem xk_RL_288 : x_okK RL 288 198 1 x_mt false false := ⟨M_cX12_back, (x_g16 (x_g16 (x_g16 (x_g16 (x_g16 (x_g16 (x_g16 (x_g16 (x_g16 (x_g16 (x_g16 (x_g16 (x_g4 (x_g1 (x_g1 x_g0))))))))))))))), (x_bw_in (x_t6 (i := 228) rfl) rfl), rfl, (fun h => by cases h), (fun _ => by decide +kernel), xD_6⟩
theorem xk_RL_289 : x_okK RL 289 179 3 x_mt false false := ⟨M_cX11_row, (x_g16 (x_g16 (x_g16 (x_g16 (x_g16 (x_g16 (x_g16 (x_g16 (x_g16 (x_g16 (x_g16 (x_g1 (x_g1 (x_g1 x_g0)))))))))))))), (x_bw_in (x_t6 (i := 47) rfl) rfl), rfl, (fun h => by cases h), (fun _ => by decide +kernel), xD_54⟩
theorem xk_RL_292 : x_okK RL 292 353 3 x_mt false false := ⟨M_cX12_row, (x_g16 (x_g16 (x_g16 (x_g16 (x_g16 (x_g16 (x_g16 (x_g16 (x_g16 (x_g16 (x_g16 (x_g16 (x_g16 (x_g16 (x_g16 (x_g16 (x_g16 (x_g16 (x_g16 (x_g16 (x_g16 (x_g16 (x_g1 x_g0))))))))))))))))))))))), (x_bw_in (x_t9 (i := 163) rfl) rfl), rfl, (fun h => by cases h), (fun _ => by decide +kernel), xD_54⟩
theorem xc_RL_293 : Cond.constantLong RL 293 (Int64.ofNat 4294967295) ∈ x_bw := (x_bw_in (x_t9 (i := 178) (by decide +kernel)) rfl)
theorem xD_55 : (parseMethodDescriptor "(IIJ)I").map (fun d => d.parameters.length) = some 3 := by decide +kernel
theorem xk_RL_295 : x_okK RL 295 180 3 x_mt false false := ⟨M_cX11_write, (x_g16 (x_g16 (x_g16 (x_g16 (x_g16 (x_g16 (x_g16 (x_g16 (x_g16 (x_g16 (x_g16 (x_g4 x_g0)))))))))))), (x_bw_in (x_t6 (i := 55) rfl) rfl), rfl, (fun h => by cases h), (fun _ => by decide +kernel), xD_55⟩
theorem xk_RL_299 : x_okK RL 299 354 3 x_mt false false := ⟨M_cX12_write, (x_g16 (x_g16 (x_g16 (x_g16 (x_g16 (x_g16 (x_g16 (x_g16 (x_g16 (x_g16 (x_g16 (x_g16 (x_g16 (x_g16 (x_g16 (x_g16 (x_g16 (x_g16 (x_g16 (x_g16 (x_g16 (x_g16 (x_g1 (x_g1 x_g0)))))))))))))))))))))))), (x_bw_in (x_t9 (i := 167) rfl) rfl), rfl, (fun h => by cases h), (fun _ => by decide +kernel), xD_55⟩
theorem xk_RL_300 : x_okK RL 300 181 5 x_mt false false := ⟨M_cX11_paste, (x_g16 (x_g16 (x_g16 (x_g16 (x_g16 (x_g16 (x_g16 (x_g16 (x_g16 (x_g16 (x_g16 (x_g4 (x_g1 x_g0))))))))))))), (x_bw_in (x_t6 (i := 63) rfl) rfl), rfl, (fun h => by cases h), (fun _ => by decide +kernel), xD_52⟩
theorem xk_RL_303 : x_okK RL 303 355 5 x_mt false false := ⟨M_cX12_paste, (x_g16 (x_g16 (x_g16 (x_g16 (x_g16 (x_g16 (x_g16 (x_g16 (x_g16 (x_g16 (x_g16 (x_g16 (x_g16 (x_g16 (x_g16 (x_g16 (x_g16 (x_g16 (x_g16 (x_g16 (x_g16 (x_g16 (x_g1 (x_g1 (x_g1 x_g0))))))))))))))))))))))))), (x_bw_in (x_t9 (i := 174) rfl) rfl), rfl, (fun h => by cases h), (fun _ => by decide +kernel), xD_52⟩
def x_okW (mt : List xM) (M : xM) (r : xR) : Prop := x_lok r.2.1 r.2.2.1 ∧ (match x_grp r.2.1 with
  | 1 => x_ok1 (x_own M) (x_ml M) r.2.1 r.2.2.2.1
  | 2 => x_ok2 (x_own M) (x_nm M) r.2.1 r.2.2.2.1 r.2.2.2.2.1
  | 3 => x_ok3 (x_own M) mt r.2.1 r.2.2.2.1 r.2.2.2.2.1
  | _ => True)
def x_okD (M : xM) (r : xR) : Prop := decode (x_cc M) r.1 = .ok (r.2.1, r.2.2.1)
theorem x_okRs {mt : List xM} {M : xM} (h1 : ∀ q ∈ x_rws M, ∀ r ∈ q.2, x_okD M r) (h2 : ∀ q ∈ x_rws M, ∀ r ∈ q.2, x_okW mt M r) : ∀ q ∈ x_rws M, ∀ r ∈ q.2, x_okR mt M r := fun q hq r hr => ⟨h1 q hq r hr, h2 q hq r hr⟩
theorem x_dec {cc : ByteArray} {M : xM} (e : x_cc M = cc) {rs : List xR} (h : ∀ r ∈ rs, decode cc r.1 = .ok (r.2.1, r.2.2.1)) : ∀ r ∈ rs, x_okD M r := fun r hr => by unfold x_okD; rw [e]; exact h r hr
/-! ===== decoding by windows ===== -/
abbrev x_ra {α : Type} (m : Jvm.ClassFile.Decoder α) (c : ByteArray) (p : Nat) : Except Jvm.ClassFile.DecodeError (α × Nat) := Jvm.ClassFile.Reader.runAt m c p
theorem x_rb {α β : Type} {m : Jvm.ClassFile.Decoder α} {f : α → Jvm.ClassFile.Decoder β} {c : ByteArray} {p p' : Nat} {a : α} (h : x_ra m c p = .ok (a, p')) : x_ra (m >>= f) c p = x_ra (f a) c p' := by
  have e : x_ra (m >>= f) c p = Except.bind (x_ra m c p) (fun q => x_ra (f q.1) c q.2) := rfl
  rw [e, h]; rfl
theorem x_rm {α β : Type} {m : Jvm.ClassFile.Decoder α} {f : α → β} {c : ByteArray} {p p' : Nat} {a : α} (h : x_ra m c p = .ok (a, p')) : x_ra (f <$> m) c p = .ok (f a, p') := by
  have e : x_ra (f <$> m) c p = Except.bind (x_ra m c p) (fun q => .ok (f q.1, q.2)) := rfl
  rw [e, h]; rfl
theorem x_u1 {c : ByteArray} {p : Nat} (h : p < c.size) : x_ra Jvm.ClassFile.Reader.u1 c p = .ok (c[p].toNat, p + 1) := by
  have e : x_ra Jvm.ClassFile.Reader.u1 c p = x_ra (if h : p < c.size then (do set (p + 1); pure c[p].toNat : Jvm.ClassFile.Decoder Nat) else throw (Jvm.ClassFile.HasTruncated.truncated p)) c p := rfl
  rw [e, dif_pos h]; rfl
theorem x_u2 {c : ByteArray} {p : Nat} (h0 : p < c.size) (h : p + 1 < c.size) : x_ra Jvm.ClassFile.Reader.u2 c p = .ok (c[p].toNat * 256 + c[p + 1].toNat, p + 2) := by
  unfold Jvm.ClassFile.Reader.u2
  rw [x_rb (x_u1 h0), x_rb (x_u1 h)]
  rfl
def x_rd : Nat → (Nat → Int → Jvm.ClassFile.Instr) → Jvm.ClassFile.Decoder Jvm.ClassFile.Instr
  | 0, f => pure (f 0 0)
  | 1, f => do let a ← Jvm.ClassFile.Reader.u1; pure (f a 0)
  | 2, f => do let s ← Jvm.ClassFile.Reader.s1; pure (f 0 s)
  | 3, f => do let a ← Jvm.ClassFile.Reader.u2; pure (f a 0)
  | 4, f => do let s ← Jvm.ClassFile.Reader.s2; pure (f 0 s)
  | _, f => do let a ← Jvm.ClassFile.Reader.u1; let s ← Jvm.ClassFile.Reader.s1; pure (f a s)
theorem x_dd {c : ByteArray} {pc p' : Nat} {i : Jvm.ClassFile.Instr} (h : x_ra (Jvm.ClassFile.Decoder.instr pc) c pc = .ok (i, p')) : decode c pc = .ok (i, p' - pc) := by
  have e : decode c pc = Except.bind (x_ra (Jvm.ClassFile.Decoder.instr pc) c pc) (fun q => .ok (q.1, q.2 - pc)) := rfl
  rw [e, h]; rfl
def x_wt : List (Nat × Nat × (Nat → Int → Jvm.ClassFile.Instr)) := [(42, 0, fun _ _ => .aload_n 0), (180, 3, fun a _ => .getfield a), (182, 3, fun a _ => .invokevirtual a), (27, 0, fun _ _ => .iload_n 1), (172, 0, fun _ _ => .ireturn), (21, 1, fun a _ => .iload a), (28, 0, fun _ _ => .iload_n 2), (3, 0, fun _ _ => .iconst 0), (167, 4, fun _ s => .goto s), (16, 2, fun _ s => .bipush s), (29, 0, fun _ _ => .iload_n 3), (4, 0, fun _ _ => .iconst 1), (153, 4, fun _ s => .ifCond .eq s), (181, 3, fun a _ => .putfield a), (46, 0, fun _ _ => .iaload), (96, 0, fun _ _ => .iadd), (154, 4, fun _ s => .ifCond .ne s), (162, 4, fun _ s => .if_icmp .ge s), (54, 1, fun a _ => .istore a), (2, 0, fun _ _ => .iconst (-1)), (132, 5, fun a s => .iinc a s), (184, 3, fun a _ => .invokestatic a), (43, 0, fun _ _ => .aload_n 1), (62, 0, fun _ _ => .istore_n 3), (61, 0, fun _ _ => .istore_n 2), (79, 0, fun _ _ => .iastore), (133, 0, fun _ _ => .i2l), (177, 0, fun _ _ => .return_), (160, 4, fun _ s => .if_icmp .ne s), (5, 0, fun _ _ => .iconst 2), (104, 0, fun _ _ => .imul), (100, 0, fun _ _ => .isub), (155, 4, fun _ s => .ifCond .lt s), (89, 0, fun _ _ => .dup), (159, 4, fun _ s => .if_icmp .eq s), (20, 3, fun a _ => .ldc2_w a), (9, 0, fun _ _ => .lconst 0), (60, 0, fun _ _ => .istore_n 1), (6, 0, fun _ _ => .iconst 3), (163, 4, fun _ s => .if_icmp .gt s), (18, 1, fun a _ => .ldc a), (17, 4, fun _ s => .sipush s), (164, 4, fun _ s => .if_icmp .le s), (8, 0, fun _ _ => .iconst 5), (7, 0, fun _ _ => .iconst 4), (183, 3, fun a _ => .invokespecial a), (50, 0, fun _ _ => .aaload), (126, 0, fun _ _ => .iand), (161, 4, fun _ s => .if_icmp .lt s), (148, 0, fun _ _ => .lcmp), (44, 0, fun _ _ => .aload_n 2), (45, 0, fun _ _ => .aload_n 3), (26, 0, fun _ _ => .iload_n 0), (47, 0, fun _ _ => .laload), (80, 0, fun _ _ => .lastore), (120, 0, fun _ _ => .ishl), (10, 0, fun _ _ => .lconst 1), (187, 3, fun a _ => .new a), (22, 1, fun a _ => .lload a), (158, 4, fun _ s => .ifCond .le s), (190, 0, fun _ _ => .arraylength), (108, 0, fun _ _ => .idiv), (173, 0, fun _ _ => .lreturn), (156, 4, fun _ s => .ifCond .ge s), (136, 0, fun _ _ => .l2i), (92, 0, fun _ _ => .dup2), (128, 0, fun _ _ => .ior), (112, 0, fun _ _ => .irem), (97, 0, fun _ _ => .ladd), (30, 0, fun _ _ => .lload_n 0), (31, 0, fun _ _ => .lload_n 1), (32, 0, fun _ _ => .lload_n 2), (33, 0, fun _ _ => .lload_n 3), (19, 3, fun a _ => .ldc_w a), (122, 0, fun _ _ => .ishr), (130, 0, fun _ _ => .ixor), (55, 1, fun a _ => .lstore a), (176, 0, fun _ _ => .areturn), (25, 1, fun a _ => .aload a), (63, 0, fun _ _ => .lstore_n 0), (64, 0, fun _ _ => .lstore_n 1), (65, 0, fun _ _ => .lstore_n 2), (66, 0, fun _ _ => .lstore_n 3), (157, 4, fun _ s => .ifCond .gt s), (87, 0, fun _ _ => .pop), (88, 0, fun _ _ => .pop2), (124, 0, fun _ _ => .iushr), (59, 0, fun _ _ => .istore_n 0), (105, 0, fun _ _ => .lmul), (113, 0, fun _ _ => .lrem), (51, 0, fun _ _ => .baload), (75, 0, fun _ _ => .astore_n 0), (76, 0, fun _ _ => .astore_n 1), (77, 0, fun _ _ => .astore_n 2), (78, 0, fun _ _ => .astore_n 3), (145, 0, fun _ _ => .i2b), (84, 0, fun _ _ => .bastore), (109, 0, fun _ _ => .ldiv), (189, 3, fun a _ => .anewarray a), (83, 0, fun _ _ => .aastore), (58, 1, fun a _ => .astore a), (147, 0, fun _ _ => .i2s), (121, 0, fun _ _ => .lshl), (123, 0, fun _ _ => .lshr), (127, 0, fun _ _ => .land), (129, 0, fun _ _ => .lor)]
theorem x_wF : ∃ F : Nat → Nat → Jvm.ClassFile.Decoder Jvm.ClassFile.Instr, (∀ pc, Jvm.ClassFile.Decoder.instr pc = Jvm.ClassFile.Reader.u1 >>= F pc) ∧ ∀ e ∈ x_wt, ∀ pc, F pc e.1 = x_rd e.2.1 e.2.2 :=
  ⟨_, fun _ => rfl, (x_al (fun _ => rfl) (x_al (fun _ => rfl) (x_al (fun _ => rfl) (x_al (fun _ => rfl) (x_al (fun _ => rfl) (x_al (fun _ => rfl) (x_al (fun _ => rfl) (x_al (fun _ => rfl) (x_al (fun _ => rfl) (x_al (fun _ => rfl) (x_al (fun _ => rfl) (x_al (fun _ => rfl) (x_al (fun _ => rfl) (x_al (fun _ => rfl) (x_al (fun _ => rfl) (x_al (fun _ => rfl) (x_al (fun _ => rfl) (x_al (fun _ => rfl) (x_al (fun _ => rfl) (x_al (fun _ => rfl) (x_al (fun _ => rfl) (x_al (fun _ => rfl) (x_al (fun _ => rfl) (x_al (fun _ => rfl) (x_al (fun _ => rfl) (x_al (fun _ => rfl) (x_al (fun _ => rfl) (x_al (fun _ => rfl) (x_al (fun _ => rfl) (x_al (fun _ => rfl) (x_al (fun _ => rfl) (x_al (fun _ => rfl) (x_al (fun _ => rfl) (x_al (fun _ => rfl) (x_al (fun _ => rfl) (x_al (fun _ => rfl) (x_al (fun _ => rfl) (x_al (fun _ => rfl) (x_al (fun _ => rfl) (x_al (fun _ => rfl) (x_al (fun _ => rfl) (x_al (fun _ => rfl) (x_al (fun _ => rfl) (x_al (fun _ => rfl) (x_al (fun _ => rfl) (x_al (fun _ => rfl) (x_al (fun _ => rfl) (x_al (fun _ => rfl) (x_al (fun _ => rfl) (x_al (fun _ => rfl) (x_al (fun _ => rfl) (x_al (fun _ => rfl) (x_al (fun _ => rfl) (x_al (fun _ => rfl) (x_al (fun _ => rfl) (x_al (fun _ => rfl) (x_al (fun _ => rfl) (x_al (fun _ => rfl) (x_al (fun _ => rfl) (x_al (fun _ => rfl) (x_al (fun _ => rfl) (x_al (fun _ => rfl) (x_al (fun _ => rfl) (x_al (fun _ => rfl) (x_al (fun _ => rfl) (x_al (fun _ => rfl) (x_al (fun _ => rfl) (x_al (fun _ => rfl) (x_al (fun _ => rfl) (x_al (fun _ => rfl) (x_al (fun _ => rfl) (x_al (fun _ => rfl) (x_al (fun _ => rfl) (x_al (fun _ => rfl) (x_al (fun _ => rfl) (x_al (fun _ => rfl) (x_al (fun _ => rfl) (x_al (fun _ => rfl) (x_al (fun _ => rfl) (x_al (fun _ => rfl) (x_al (fun _ => rfl) (x_al (fun _ => rfl) (x_al (fun _ => rfl) (x_al (fun _ => rfl) (x_al (fun _ => rfl) (x_al (fun _ => rfl) (x_al (fun _ => rfl) (x_al (fun _ => rfl) (x_al (fun _ => rfl) (x_al (fun _ => rfl) (x_al (fun _ => rfl) (x_al (fun _ => rfl) (x_al (fun _ => rfl) (x_al (fun _ => rfl) (x_al (fun _ => rfl) (x_al (fun _ => rfl) (x_al (fun _ => rfl) (x_al (fun _ => rfl) (x_al (fun _ => rfl) (x_al (fun _ => rfl) (x_al (fun _ => rfl) (x_al (fun _ => rfl) (x_al (fun _ => rfl) (x_al (fun _ => rfl) (x_al (fun _ => rfl) (x_al (fun _ => rfl) x_an))))))))))))))))))))))))))))))))))))))))))))))))))))))))))))))))))))))))))))))))))))))))))))))))))))))))))⟩
def x_wl (op : Nat) : List (Nat × Nat × (Nat → Int → Jvm.ClassFile.Instr)) → Option (Nat × (Nat → Int → Jvm.ClassFile.Instr))
  | [] => none
  | e :: l => cond (Nat.beq e.1 op) (some e.2) (x_wl op l)
theorem x_wl_in {op : Nat} {q : Nat × (Nat → Int → Jvm.ClassFile.Instr)} : ∀ l, x_wl op l = some q → ∃ e ∈ l, e.1 = op ∧ e.2 = q := by
  intro l
  induction l with
  | nil => intro h; cases h
  | cons e l ih =>
    intro h
    unfold x_wl at h
    cases c : Nat.beq e.1 op with
    | true => rw [c] at h; cases h; exact ⟨e, List.mem_cons_self, Nat.eq_of_beq_eq_true c, rfl⟩
    | false =>
      rw [c] at h
      have h : x_wl op l = some q := h
      obtain ⟨e', h1, h2⟩ := ih h
      exact ⟨e', List.mem_cons_of_mem _ h1, h2⟩
def x_wd (W : List Nat) (k : Nat) : Option (Jvm.ClassFile.Instr × Nat) :=
  match x_wl (W.getD k 0) x_wt with
  | none => none
  | some (0, f) => if k + 1 ≤ W.length then some (f 0 0, 1) else none
  | some (1, f) => if k + 2 ≤ W.length then some (f (W.getD (k + 1) 0) 0, 2) else none
  | some (2, f) => if k + 2 ≤ W.length then some (f 0 (Jvm.ClassFile.Reader.signed 8 (W.getD (k + 1) 0)), 2) else none
  | some (3, f) => if k + 3 ≤ W.length then some (f (W.getD (k + 1) 0 * 256 + W.getD (k + 2) 0) 0, 3) else none
  | some (4, f) => if k + 3 ≤ W.length then some (f 0 (Jvm.ClassFile.Reader.signed 16 (W.getD (k + 1) 0 * 256 + W.getD (k + 2) 0)), 3) else none
  | some (_ + 5, f) => if k + 3 ≤ W.length then some (f (W.getD (k + 1) 0) (Jvm.ClassFile.Reader.signed 8 (W.getD (k + 2) 0)), 3) else none
def x_win (c : ByteArray) (o : Nat) (W : List Nat) : Prop := ∀ j, j < W.length → ∃ h : o + j < c.size, c[o + j].toNat = W.getD j 0
theorem x_win_of {c : ByteArray} {o : Nat} {W : List Nat} (h : ((c.data.toList.drop o).take W.length).map UInt8.toNat = W) : x_win c o W := by
  intro j hj
  have hl := congrArg List.length h
  rw [List.length_map, List.length_take, List.length_drop] at hl
  have h2 : o + j < c.data.toList.length := by omega
  refine ⟨h2, ?_⟩
  have e2 : (((c.data.toList.drop o).take W.length).map UInt8.toNat)[j]? = W[j]? := by rw [h]
  rw [List.getElem?_map, List.getElem?_take_of_lt hj, List.getElem?_drop, List.getElem?_eq_getElem h2] at e2
  have e3 : W.getD j 0 = c.data.toList[o + j].toNat := by
    rw [List.getD_eq_getElem?_getD, ← e2]; rfl
  rw [e3]; rfl
theorem x_opt {P : Prop} [Decidable P] {α : Type} {a b : α} (h : (if P then some a else none) = some b) : P ∧ a = b := by
  by_cases c : P
  · rw [if_pos c] at h; cases h; exact ⟨c, rfl⟩
  · rw [if_neg c] at h; cases h
theorem x_wd_ok {c : ByteArray} {o k n : Nat} {W : List Nat} {i : Jvm.ClassFile.Instr} (hw : x_win c o W) (h : x_wd W k = some (i, n)) : decode c (o + k) = .ok (i, n) := by
  obtain ⟨F, F1, F2⟩ := x_wF
  unfold x_wd at h
  cases hq : x_wl (W.getD k 0) x_wt with
  | none => rw [hq] at h; cases h
  | some q =>
    obtain ⟨kd, f⟩ := q
    rw [hq] at h
    obtain ⟨e, he, e1, e2⟩ := x_wl_in _ hq
    have hb := F2 e he (o + k)
    rw [e1, e2] at hb
    have fin : ∀ (i' : Jvm.ClassFile.Instr) (p' : Nat), k < W.length → x_ra (x_rd kd f) c (o + k + 1) = .ok (i', p') → decode c (o + k) = .ok (i', p' - (o + k)) := by
      intro i' p' hk hr
      obtain ⟨h2, h3⟩ := hw k hk
      refine x_dd ?_
      rw [F1, x_rb (x_u1 h2), h3]
      show x_ra (F (o + k) (W.getD k 0)) c (o + k + 1) = _
      rw [show F (o + k) (W.getD k 0) = x_rd kd f from hb]
      exact hr
    match kd, h, fin with
    | 0, h, fin =>
      obtain ⟨hk, ea⟩ := x_opt h
      cases ea
      rw [fin _ _ (by omega) rfl]; congr 2; omega
    | 1, h, fin =>
      obtain ⟨hk, ea⟩ := x_opt h
      cases ea
      obtain ⟨g1, g2⟩ : ∃ h : o + k + 1 < c.size, c[o + k + 1].toNat = W.getD (k + 1) 0 := hw (k + 1) (by omega)
      have r : x_ra (x_rd 1 f) c (o + k + 1) = .ok (f (W.getD (k + 1) 0) 0, o + k + 1 + 1) := by
        show x_ra (Jvm.ClassFile.Reader.u1 >>= fun a => pure (f a 0)) c (o + k + 1) = _
        rw [x_rb (x_u1 g1), ← g2]; rfl
      rw [fin _ _ (by omega) r]; congr 2; omega
    | 2, h, fin =>
      obtain ⟨hk, ea⟩ := x_opt h
      cases ea
      obtain ⟨g1, g2⟩ : ∃ h : o + k + 1 < c.size, c[o + k + 1].toNat = W.getD (k + 1) 0 := hw (k + 1) (by omega)
      have r : x_ra (x_rd 2 f) c (o + k + 1) = .ok (f 0 (Jvm.ClassFile.Reader.signed 8 (W.getD (k + 1) 0)), o + k + 1 + 1) := by
        show x_ra ((Jvm.ClassFile.Reader.signed 8 <$> Jvm.ClassFile.Reader.u1) >>= fun s => pure (f 0 s)) c (o + k + 1) = _
        rw [x_rb (x_rm (x_u1 g1)), ← g2]; rfl
      rw [fin _ _ (by omega) r]; congr 2; omega
    | 3, h, fin =>
      obtain ⟨hk, ea⟩ := x_opt h
      cases ea
      obtain ⟨g1, g2⟩ : ∃ h : o + k + 1 < c.size, c[o + k + 1].toNat = W.getD (k + 1) 0 := hw (k + 1) (by omega)
      obtain ⟨g3, g4⟩ : ∃ h : o + k + 1 + 1 < c.size, c[o + k + 1 + 1].toNat = W.getD (k + 2) 0 := hw (k + 2) (by omega)
      have r : x_ra (x_rd 3 f) c (o + k + 1) = .ok (f (W.getD (k + 1) 0 * 256 + W.getD (k + 2) 0) 0, o + k + 1 + 2) := by
        show x_ra (Jvm.ClassFile.Reader.u2 >>= fun a => pure (f a 0)) c (o + k + 1) = _
        rw [x_rb (x_u2 g1 g3), ← g2, ← g4]; rfl
      rw [fin _ _ (by omega) r]; congr 2; omega
    | 4, h, fin =>
      obtain ⟨hk, ea⟩ := x_opt h
      cases ea
      obtain ⟨g1, g2⟩ : ∃ h : o + k + 1 < c.size, c[o + k + 1].toNat = W.getD (k + 1) 0 := hw (k + 1) (by omega)
      obtain ⟨g3, g4⟩ : ∃ h : o + k + 1 + 1 < c.size, c[o + k + 1 + 1].toNat = W.getD (k + 2) 0 := hw (k + 2) (by omega)
      have r : x_ra (x_rd 4 f) c (o + k + 1) = .ok (f 0 (Jvm.ClassFile.Reader.signed 16 (W.getD (k + 1) 0 * 256 + W.getD (k + 2) 0)), o + k + 1 + 2) := by
        show x_ra ((Jvm.ClassFile.Reader.signed 16 <$> Jvm.ClassFile.Reader.u2) >>= fun s => pure (f 0 s)) c (o + k + 1) = _
        rw [x_rb (x_rm (x_u2 g1 g3)), ← g2, ← g4]; rfl
      rw [fin _ _ (by omega) r]; congr 2; omega
    | kd + 5, h, fin =>
      obtain ⟨hk, ea⟩ := x_opt h
      cases ea
      obtain ⟨g1, g2⟩ : ∃ h : o + k + 1 < c.size, c[o + k + 1].toNat = W.getD (k + 1) 0 := hw (k + 1) (by omega)
      obtain ⟨g3, g4⟩ : ∃ h : o + k + 1 + 1 < c.size, c[o + k + 1 + 1].toNat = W.getD (k + 2) 0 := hw (k + 2) (by omega)
      have r : x_ra (x_rd (kd + 5) f) c (o + k + 1) = .ok (f (W.getD (k + 1) 0) (Jvm.ClassFile.Reader.signed 8 (W.getD (k + 2) 0)), o + k + 1 + 1 + 1) := by
        show x_ra (Jvm.ClassFile.Reader.u1 >>= fun a => (Jvm.ClassFile.Reader.signed 8 <$> Jvm.ClassFile.Reader.u1) >>= fun s => pure (f a s)) c (o + k + 1) = _
        rw [x_rb (x_u1 g1), x_rb (x_rm (x_u1 g3)), ← g2, ← g4]; rfl
      rw [fin _ _ (by omega) r]; congr 2; omega
def x_ic : Jvm.ClassFile.Instr → Option (Nat × Nat × Int)
  | .aload_n 0 => some (42, 0, 0)
  | .getfield a => some (180, a, 0)
  | .invokevirtual a => some (182, a, 0)
  | .iload_n 1 => some (27, 0, 0)
  | .ireturn => some (172, 0, 0)
  | .iload a => some (21, a, 0)
  | .iload_n 2 => some (28, 0, 0)
  | .iconst (.ofNat 0) => some (3, 0, 0)
  | .goto s => some (167, 0, s)
  | .bipush s => some (16, 0, s)
  | .iload_n 3 => some (29, 0, 0)
  | .iconst (.ofNat 1) => some (4, 0, 0)
  | .ifCond .eq s => some (153, 0, s)
  | .putfield a => some (181, a, 0)
  | .iaload => some (46, 0, 0)
  | .iadd => some (96, 0, 0)
  | .ifCond .ne s => some (154, 0, s)
  | .if_icmp .ge s => some (162, 0, s)
  | .istore a => some (54, a, 0)
  | .iconst (.negSucc 0) => some (2, 0, 0)
  | .iinc a s => some (132, a, s)
  | .invokestatic a => some (184, a, 0)
  | .aload_n 1 => some (43, 0, 0)
  | .istore_n 3 => some (62, 0, 0)
  | .istore_n 2 => some (61, 0, 0)
  | .iastore => some (79, 0, 0)
  | .i2l => some (133, 0, 0)
  | .return_ => some (177, 0, 0)
  | .if_icmp .ne s => some (160, 0, s)
  | .iconst (.ofNat 2) => some (5, 0, 0)
  | .imul => some (104, 0, 0)
  | .isub => some (100, 0, 0)
  | .ifCond .lt s => some (155, 0, s)
  | .dup => some (89, 0, 0)
  | .if_icmp .eq s => some (159, 0, s)
  | .ldc2_w a => some (20, a, 0)
  | .lconst 0 => some (9, 0, 0)
  | .istore_n 1 => some (60, 0, 0)
  | .iconst (.ofNat 3) => some (6, 0, 0)
  | .if_icmp .gt s => some (163, 0, s)
  | .ldc a => some (18, a, 0)
  | .sipush s => some (17, 0, s)
  | .if_icmp .le s => some (164, 0, s)
  | .iconst (.ofNat 5) => some (8, 0, 0)
  | .iconst (.ofNat 4) => some (7, 0, 0)
  | .invokespecial a => some (183, a, 0)
  | .aaload => some (50, 0, 0)
  | .iand => some (126, 0, 0)
  | .if_icmp .lt s => some (161, 0, s)
  | .lcmp => some (148, 0, 0)
  | .aload_n 2 => some (44, 0, 0)
  | .aload_n 3 => some (45, 0, 0)
  | .iload_n 0 => some (26, 0, 0)
  | .laload => some (47, 0, 0)
  | .lastore => some (80, 0, 0)
  | .ishl => some (120, 0, 0)
  | .lconst 1 => some (10, 0, 0)
  | .new a => some (187, a, 0)
  | .lload a => some (22, a, 0)
  | .ifCond .le s => some (158, 0, s)
  | .arraylength => some (190, 0, 0)
  | .idiv => some (108, 0, 0)
  | .lreturn => some (173, 0, 0)
  | .ifCond .ge s => some (156, 0, s)
  | .l2i => some (136, 0, 0)
  | .dup2 => some (92, 0, 0)
  | .ior => some (128, 0, 0)
  | .irem => some (112, 0, 0)
  | .ladd => some (97, 0, 0)
  | .lload_n 0 => some (30, 0, 0)
  | .lload_n 1 => some (31, 0, 0)
  | .lload_n 2 => some (32, 0, 0)
  | .lload_n 3 => some (33, 0, 0)
  | .ldc_w a => some (19, a, 0)
  | .ishr => some (122, 0, 0)
  | .ixor => some (130, 0, 0)
  | .lstore a => some (55, a, 0)
  | .areturn => some (176, 0, 0)
  | .aload a => some (25, a, 0)
  | .lstore_n 0 => some (63, 0, 0)
  | .lstore_n 1 => some (64, 0, 0)
  | .lstore_n 2 => some (65, 0, 0)
  | .lstore_n 3 => some (66, 0, 0)
  | .ifCond .gt s => some (157, 0, s)
  | .pop => some (87, 0, 0)
  | .pop2 => some (88, 0, 0)
  | .iushr => some (124, 0, 0)
  | .istore_n 0 => some (59, 0, 0)
  | .lmul => some (105, 0, 0)
  | .lrem => some (113, 0, 0)
  | .baload => some (51, 0, 0)
  | .astore_n 0 => some (75, 0, 0)
  | .astore_n 1 => some (76, 0, 0)
  | .astore_n 2 => some (77, 0, 0)
  | .astore_n 3 => some (78, 0, 0)
  | .i2b => some (145, 0, 0)
  | .bastore => some (84, 0, 0)
  | .ldiv => some (109, 0, 0)
  | .anewarray a => some (189, a, 0)
  | .aastore => some (83, 0, 0)
  | .astore a => some (58, a, 0)
  | .i2s => some (147, 0, 0)
  | .lshl => some (121, 0, 0)
  | .lshr => some (123, 0, 0)
  | .land => some (127, 0, 0)
  | .lor => some (129, 0, 0)
  | _ => none
def x_fto (kd : Nat) (f : Nat → Int → Jvm.ClassFile.Instr) (a : Nat) (s : Int) (ins : Jvm.ClassFile.Instr) : Prop := match kd with
  | 0 => f 0 0 = ins
  | 1 => f a 0 = ins
  | 2 => f 0 s = ins
  | 3 => f a 0 = ins
  | 4 => f 0 s = ins
  | _ + 5 => f a s = ins
theorem x_ic_ok {ins : Jvm.ClassFile.Instr} {op a kd : Nat} {s : Int} {f : Nat → Int → Jvm.ClassFile.Instr} (h : x_ic ins = some (op, a, s)) (h2 : x_wl op x_wt = some (kd, f)) : x_fto kd f a s ins := by
  cases ins with
  | iconst v => match v with
    | .ofNat 0 | .ofNat 1 | .ofNat 2 | .ofNat 3 | .ofNat 4 | .ofNat 5 | .negSucc 0 => cases h; cases h2; exact rfl
    | .ofNat (_ + 6) | .negSucc (_ + 1) => cases h
  | lconst v => rcases v with ⟨v, hv⟩; match v, hv with
    | 0, _ | 1, _ => cases h; cases h2; exact rfl
  | aload_n v => rcases v with ⟨v, hv⟩; match v, hv with
    | 0, _ | 1, _ | 2, _ | 3, _ => cases h; cases h2; exact rfl
  | iload_n v => rcases v with ⟨v, hv⟩; match v, hv with
    | 0, _ | 1, _ | 2, _ | 3, _ => cases h; cases h2; exact rfl
  | lload_n v => rcases v with ⟨v, hv⟩; match v, hv with
    | 0, _ | 1, _ | 2, _ | 3, _ => cases h; cases h2; exact rfl
  | astore_n v => rcases v with ⟨v, hv⟩; match v, hv with
    | 0, _ | 1, _ | 2, _ | 3, _ => cases h; cases h2; exact rfl
  | istore_n v => rcases v with ⟨v, hv⟩; match v, hv with
    | 0, _ | 1, _ | 2, _ | 3, _ => cases h; cases h2; exact rfl
  | lstore_n v => rcases v with ⟨v, hv⟩; match v, hv with
    | 0, _ | 1, _ | 2, _ | 3, _ => cases h; cases h2; exact rfl
  | if_icmp c s => cases c <;> (cases h; cases h2; exact rfl)
  | ifCond c s => cases c <;> (cases h; cases h2; exact rfl)
  | _ => first
    | (cases h; done)
    | (cases h; cases h2; exact rfl)
def x_rk (V : List Nat) (ins : Jvm.ClassFile.Instr) (len : Nat) : Bool := match x_ic ins with
  | none => false
  | some (op, a, s) => match V with
    | [] => false
    | p :: V1 => Nat.beq p op && (match x_wl op x_wt with
      | none => false
      | some (0, _) => Nat.beq len 1
      | some (1, _) => (match V1 with | x :: _ => Nat.beq x a && Nat.beq len 2 | [] => false)
      | some (2, _) => (match V1 with | x :: _ => decide (Jvm.ClassFile.Reader.signed 8 x = s) && Nat.beq len 2 | [] => false)
      | some (3, _) => (match V1 with | x :: y :: _ => Nat.beq (x * 256 + y) a && Nat.beq len 3 | _ => false)
      | some (4, _) => (match V1 with | x :: y :: _ => decide (Jvm.ClassFile.Reader.signed 16 (x * 256 + y) = s) && Nat.beq len 3 | _ => false)
      | some (_ + 5, _) => (match V1 with | x :: y :: _ => Nat.beq x a && decide (Jvm.ClassFile.Reader.signed 8 y = s) && Nat.beq len 3 | _ => false))
theorem x_rk_ok {V : List Nat} {ins : Jvm.ClassFile.Instr} {len : Nat} (h : x_rk V ins len = true) : x_wd V 0 = some (ins, len) := by
  unfold x_rk at h
  cases hi : x_ic ins with
  | none => rw [hi] at h; cases h
  | some t =>
    obtain ⟨op, a, s⟩ := t
    rw [hi] at h
    cases V with
    | nil => cases h
    | cons p V1 =>
      simp only [Bool.and_eq_true] at h
      obtain ⟨hp, h⟩ := h
      have hp := Nat.eq_of_beq_eq_true hp
      subst hp
      unfold x_wd
      show (match x_wl p x_wt with | none => none | some (0, f) => _ | some (1, f) => _ | some (2, f) => _ | some (3, f) => _ | some (4, f) => _ | some (_ + 5, f) => _) = _
      cases hq : x_wl p x_wt with
      | none => rw [hq] at h; cases h
      | some q =>
        obtain ⟨kd, f⟩ := q
        have hf := x_ic_ok hi hq
        rw [hq] at h
        match kd, h, hf with
        | 0, h, hf =>
          have e := Nat.eq_of_beq_eq_true h
          show (if 0 + 1 ≤ (p :: V1).length then some (f 0 0, 1) else none) = _
          rw [if_pos (by simp), e]; exact congrArg (fun z => some (z, 1)) hf
        | 1, h, hf =>
          cases V1 with
          | nil => cases h
          | cons x V2 =>
            simp only [Bool.and_eq_true] at h
            have e := Nat.eq_of_beq_eq_true h.2; have e1 := Nat.eq_of_beq_eq_true h.1
            show (if 0 + 2 ≤ (p :: x :: V2).length then some (f x 0, 2) else none) = _
            rw [if_pos (by simp), e, e1]; exact congrArg (fun z => some (z, 2)) hf
        | 2, h, hf =>
          cases V1 with
          | nil => cases h
          | cons x V2 =>
            simp only [Bool.and_eq_true] at h
            have e := Nat.eq_of_beq_eq_true h.2; have e1 := of_decide_eq_true h.1
            show (if 0 + 2 ≤ (p :: x :: V2).length then some (f 0 (Jvm.ClassFile.Reader.signed 8 x), 2) else none) = _
            rw [if_pos (by simp), e, e1]; exact congrArg (fun z => some (z, 2)) hf
        | 3, h, hf =>
          match V1, h with
          | x :: y :: V2, h =>
            simp only [Bool.and_eq_true] at h
            have e := Nat.eq_of_beq_eq_true h.2; have e1 := Nat.eq_of_beq_eq_true h.1
            show (if 0 + 3 ≤ (p :: x :: y :: V2).length then some (f (x * 256 + y) 0, 3) else none) = _
            rw [if_pos (by simp), e, e1]; exact congrArg (fun z => some (z, 3)) hf
        | 4, h, hf =>
          match V1, h with
          | x :: y :: V2, h =>
            simp only [Bool.and_eq_true] at h
            have e := Nat.eq_of_beq_eq_true h.2; have e1 := of_decide_eq_true h.1
            show (if 0 + 3 ≤ (p :: x :: y :: V2).length then some (f 0 (Jvm.ClassFile.Reader.signed 16 (x * 256 + y)), 3) else none) = _
            rw [if_pos (by simp), e, e1]; exact congrArg (fun z => some (z, 3)) hf
        | kd + 5, h, hf =>
          match V1, h with
          | x :: y :: V2, h =>
            simp only [Bool.and_eq_true] at h
            have e := Nat.eq_of_beq_eq_true h.2; have e1 := Nat.eq_of_beq_eq_true h.1.1; have e2 := of_decide_eq_true h.1.2
            show (if 0 + 3 ≤ (p :: x :: y :: V2).length then some (f x (Jvm.ClassFile.Reader.signed 8 y), 3) else none) = _
            rw [if_pos (by simp), e, e1, e2]; exact congrArg (fun z => some (z, 3)) hf
def x_wall (c : ByteArray) : Nat → List Nat → List xR → Bool
  | _, _, [] => true
  | o, V, r :: rs => Nat.beq r.1 o && ((x_rk V r.2.1 r.2.2.1 || decide (decode c r.1 = .ok (r.2.1, r.2.2.1))) && x_wall c (o + r.2.2.1) (V.drop r.2.2.1) rs)
theorem x_wall_ok {c : ByteArray} : ∀ (rs : List xR) (o : Nat) (V : List Nat), x_win c o V → x_wall c o V rs = true → ∀ r ∈ rs, decode c r.1 = .ok (r.2.1, r.2.2.1) := by
  intro rs
  induction rs with
  | nil => intro o V _ _ r hr; cases hr
  | cons r0 rs ih =>
    intro o V hw h r hr
    unfold x_wall at h
    simp only [Bool.and_eq_true, Bool.or_eq_true] at h
    obtain ⟨h1, h2, h3⟩ := h
    have h1 := Nat.eq_of_beq_eq_true h1
    rcases List.mem_cons.mp hr with rfl | hr
    · rcases h2 with h2 | h2
      · have e := x_wd_ok hw (x_rk_ok h2)
        rw [Nat.add_zero] at e
        rw [h1]; exact e
      · exact of_decide_eq_true h2
    · refine ih _ _ (fun j hj => ?_) h3 r hr
      rw [List.length_drop] at hj
      obtain ⟨g1, g2⟩ := hw (r0.2.2.1 + j) (by omega)
      have e : o + r0.2.2.1 + j = o + (r0.2.2.1 + j) := Nat.add_assoc _ _ _
      refine ⟨by omega, ?_⟩
      rw [show (V.drop r0.2.2.1).getD j 0 = V.getD (r0.2.2.1 + j) 0 by rw [List.getD_eq_getElem?_getD, List.getD_eq_getElem?_getD, List.getElem?_drop], ← g2]
      congr 1
      simp only [e]
theorem x_e_aaload {mt : List xM} {M : xM} {p a b z : Nat} : x_okW mt M (p, .aaload , 1, a, b, z) := ⟨rfl, trivial⟩
theorem x_e_aastore {mt : List xM} {M : xM} {p a b z : Nat} : x_okW mt M (p, .aastore , 1, a, b, z) := ⟨rfl, trivial⟩
theorem x_e_aload {mt : List xM} {M : xM} {p a b z : Nat} {v0} : x_okW mt M (p, .aload v0, 2, a, b, z) := ⟨rfl, trivial⟩
theorem x_e_aload_n {mt : List xM} {M : xM} {p a b z : Nat} {v0} : x_okW mt M (p, .aload_n v0, 1, a, b, z) := ⟨rfl, trivial⟩
theorem x_e_areturn {mt : List xM} {M : xM} {p a b z : Nat} : x_okW mt M (p, .areturn , 1, a, b, z) := ⟨rfl, trivial⟩
theorem x_e_arraylength {mt : List xM} {M : xM} {p a b z : Nat} : x_okW mt M (p, .arraylength , 1, a, b, z) := ⟨rfl, trivial⟩
theorem x_e_baload {mt : List xM} {M : xM} {p a b z : Nat} : x_okW mt M (p, .baload , 1, a, b, z) := ⟨rfl, trivial⟩
theorem x_e_bastore {mt : List xM} {M : xM} {p a b z : Nat} : x_okW mt M (p, .bastore , 1, a, b, z) := ⟨rfl, trivial⟩
theorem x_e_bipush {mt : List xM} {M : xM} {p a b z : Nat} {v0} : x_okW mt M (p, .bipush v0, 2, a, b, z) := ⟨rfl, trivial⟩
theorem x_e_dup {mt : List xM} {M : xM} {p a b z : Nat} : x_okW mt M (p, .dup , 1, a, b, z) := ⟨rfl, trivial⟩
theorem x_e_dup2 {mt : List xM} {M : xM} {p a b z : Nat} : x_okW mt M (p, .dup2 , 1, a, b, z) := ⟨rfl, trivial⟩
theorem x_e_goto {mt : List xM} {M : xM} {p a b z : Nat} {v0} : x_okW mt M (p, .goto v0, 3, a, b, z) := ⟨rfl, trivial⟩
theorem x_e_i2b {mt : List xM} {M : xM} {p a b z : Nat} : x_okW mt M (p, .i2b , 1, a, b, z) := ⟨rfl, trivial⟩
theorem x_e_i2l {mt : List xM} {M : xM} {p a b z : Nat} : x_okW mt M (p, .i2l , 1, a, b, z) := ⟨rfl, trivial⟩
theorem x_e_i2s {mt : List xM} {M : xM} {p a b z : Nat} : x_okW mt M (p, .i2s , 1, a, b, z) := ⟨rfl, trivial⟩
theorem x_e_iadd {mt : List xM} {M : xM} {p a b z : Nat} : x_okW mt M (p, .iadd , 1, a, b, z) := ⟨rfl, trivial⟩
theorem x_e_iaload {mt : List xM} {M : xM} {p a b z : Nat} : x_okW mt M (p, .iaload , 1, a, b, z) := ⟨rfl, trivial⟩
theorem x_e_iand {mt : List xM} {M : xM} {p a b z : Nat} : x_okW mt M (p, .iand , 1, a, b, z) := ⟨rfl, trivial⟩
theorem x_e_iastore {mt : List xM} {M : xM} {p a b z : Nat} : x_okW mt M (p, .iastore , 1, a, b, z) := ⟨rfl, trivial⟩
theorem x_e_iconst {mt : List xM} {M : xM} {p a b z : Nat} {v0} : x_okW mt M (p, .iconst v0, 1, a, b, z) := ⟨rfl, trivial⟩
theorem x_e_idiv {mt : List xM} {M : xM} {p a b z : Nat} : x_okW mt M (p, .idiv , 1, a, b, z) := ⟨rfl, trivial⟩
theorem x_e_ifCond {mt : List xM} {M : xM} {p a b z : Nat} {v0 v1} : x_okW mt M (p, .ifCond v0 v1, 3, a, b, z) := ⟨rfl, trivial⟩
theorem x_e_if_icmp {mt : List xM} {M : xM} {p a b z : Nat} {v0 v1} : x_okW mt M (p, .if_icmp v0 v1, 3, a, b, z) := ⟨rfl, trivial⟩
theorem x_e_iload {mt : List xM} {M : xM} {p a b z : Nat} {v0} : x_okW mt M (p, .iload v0, 2, a, b, z) := ⟨rfl, trivial⟩
theorem x_e_iload_n {mt : List xM} {M : xM} {p a b z : Nat} {v0} : x_okW mt M (p, .iload_n v0, 1, a, b, z) := ⟨rfl, trivial⟩
theorem x_e_imul {mt : List xM} {M : xM} {p a b z : Nat} : x_okW mt M (p, .imul , 1, a, b, z) := ⟨rfl, trivial⟩
theorem x_e_ior {mt : List xM} {M : xM} {p a b z : Nat} : x_okW mt M (p, .ior , 1, a, b, z) := ⟨rfl, trivial⟩
theorem x_e_irem {mt : List xM} {M : xM} {p a b z : Nat} : x_okW mt M (p, .irem , 1, a, b, z) := ⟨rfl, trivial⟩
theorem x_e_ireturn {mt : List xM} {M : xM} {p a b z : Nat} : x_okW mt M (p, .ireturn , 1, a, b, z) := ⟨rfl, trivial⟩
theorem x_e_ishl {mt : List xM} {M : xM} {p a b z : Nat} : x_okW mt M (p, .ishl , 1, a, b, z) := ⟨rfl, trivial⟩
theorem x_e_ishr {mt : List xM} {M : xM} {p a b z : Nat} : x_okW mt M (p, .ishr , 1, a, b, z) := ⟨rfl, trivial⟩
theorem x_e_isub {mt : List xM} {M : xM} {p a b z : Nat} : x_okW mt M (p, .isub , 1, a, b, z) := ⟨rfl, trivial⟩
theorem x_e_iushr {mt : List xM} {M : xM} {p a b z : Nat} : x_okW mt M (p, .iushr , 1, a, b, z) := ⟨rfl, trivial⟩
theorem x_e_ixor {mt : List xM} {M : xM} {p a b z : Nat} : x_okW mt M (p, .ixor , 1, a, b, z) := ⟨rfl, trivial⟩
theorem x_e_l2i {mt : List xM} {M : xM} {p a b z : Nat} : x_okW mt M (p, .l2i , 1, a, b, z) := ⟨rfl, trivial⟩
theorem x_e_ladd {mt : List xM} {M : xM} {p a b z : Nat} : x_okW mt M (p, .ladd , 1, a, b, z) := ⟨rfl, trivial⟩
theorem x_e_laload {mt : List xM} {M : xM} {p a b z : Nat} : x_okW mt M (p, .laload , 1, a, b, z) := ⟨rfl, trivial⟩
theorem x_e_land {mt : List xM} {M : xM} {p a b z : Nat} : x_okW mt M (p, .land , 1, a, b, z) := ⟨rfl, trivial⟩
theorem x_e_lastore {mt : List xM} {M : xM} {p a b z : Nat} : x_okW mt M (p, .lastore , 1, a, b, z) := ⟨rfl, trivial⟩
theorem x_e_lcmp {mt : List xM} {M : xM} {p a b z : Nat} : x_okW mt M (p, .lcmp , 1, a, b, z) := ⟨rfl, trivial⟩
theorem x_e_lconst {mt : List xM} {M : xM} {p a b z : Nat} {v0} : x_okW mt M (p, .lconst v0, 1, a, b, z) := ⟨rfl, trivial⟩
theorem x_e_ldiv {mt : List xM} {M : xM} {p a b z : Nat} : x_okW mt M (p, .ldiv , 1, a, b, z) := ⟨rfl, trivial⟩
theorem x_e_lload {mt : List xM} {M : xM} {p a b z : Nat} {v0} : x_okW mt M (p, .lload v0, 2, a, b, z) := ⟨rfl, trivial⟩
theorem x_e_lload_n {mt : List xM} {M : xM} {p a b z : Nat} {v0} : x_okW mt M (p, .lload_n v0, 1, a, b, z) := ⟨rfl, trivial⟩
theorem x_e_lmul {mt : List xM} {M : xM} {p a b z : Nat} : x_okW mt M (p, .lmul , 1, a, b, z) := ⟨rfl, trivial⟩
theorem x_e_lor {mt : List xM} {M : xM} {p a b z : Nat} : x_okW mt M (p, .lor , 1, a, b, z) := ⟨rfl, trivial⟩
theorem x_e_lrem {mt : List xM} {M : xM} {p a b z : Nat} : x_okW mt M (p, .lrem , 1, a, b, z) := ⟨rfl, trivial⟩
theorem x_e_lreturn {mt : List xM} {M : xM} {p a b z : Nat} : x_okW mt M (p, .lreturn , 1, a, b, z) := ⟨rfl, trivial⟩
theorem x_e_lshl {mt : List xM} {M : xM} {p a b z : Nat} : x_okW mt M (p, .lshl , 1, a, b, z) := ⟨rfl, trivial⟩
theorem x_e_lshr {mt : List xM} {M : xM} {p a b z : Nat} : x_okW mt M (p, .lshr , 1, a, b, z) := ⟨rfl, trivial⟩
theorem x_e_pop {mt : List xM} {M : xM} {p a b z : Nat} : x_okW mt M (p, .pop , 1, a, b, z) := ⟨rfl, trivial⟩
theorem x_e_pop2 {mt : List xM} {M : xM} {p a b z : Nat} : x_okW mt M (p, .pop2 , 1, a, b, z) := ⟨rfl, trivial⟩
theorem x_e_return_ {mt : List xM} {M : xM} {p a b z : Nat} : x_okW mt M (p, .return_ , 1, a, b, z) := ⟨rfl, trivial⟩
theorem x_e_sipush {mt : List xM} {M : xM} {p a b z : Nat} {v0} : x_okW mt M (p, .sipush v0, 3, a, b, z) := ⟨rfl, trivial⟩
theorem x_okMk {mt : List xM} {M : xM} (h1 : plainFor (x_nm M) = true) (h2 : (x_nm M).cls = x_own M) (h3 : (x_nm M).cls ≠ "java/lang/invoke/MethodHandle" ∧ (x_nm M).cls ≠ "java/lang/invoke/VarHandle") (h4 : x_ml M ≤ 18) (h5 : Cond.code (x_nm M) (x_cc M) (x_ml M) (x_rt M) ∈ x_bw) (h6 : Cond.initialized (x_nm M).cls ∈ x_bw) (h7 : x_sta M = true → Cond.static (x_nm M) ∈ x_bw) (h8 : x_sta M = false → Cond.instanceMethod (x_nm M) ∈ x_bw ∧ ∃ (T : u_T) (N : Nat), (vwCl : List vw_C)[M.2.2.2.2.2.2.1]? = some (x_own M, T, N)) (h9 : x_sta M = false → (x_nm M).name ≠ "<init>" → Cond.selects (x_nm M).cls (x_nm M) (x_nm M) ∈ x_bw) (h10 : ∀ q ∈ x_rws M, ∀ r ∈ q.2, x_okR mt M r) : x_okM mt M := ⟨h1, h2, h3, h4, h5, h6, h7, h8, h9, h10⟩
theorem xN_RX0 : plainName RX0 = true := by decide +kernel
theorem xV_RX0 : RX0 ≠ "java/lang/invoke/MethodHandle" ∧ RX0 ≠ "java/lang/invoke/VarHandle" := by decide +kernel
theorem dc_cX0_init_0 : ∀ r ∈ k_cX0_init_0, decode cX0_init r.1 = .ok (r.2.1, r.2.2.1) := x_wall_ok _ 0 [42, 183, 0, 3, 42, 17, 5, 172, 188, 10, 181, 0, 11, 177] (x_win_of (by decide +kernel)) (by decide +kernel)
theorem wc_cX0_init_0 : ∀ r ∈ k_cX0_init_0, x_okW x_mt M_cX0_init r := (x_al x_e_aload_n (x_al ⟨rfl, (Or.inl ⟨rfl, xo_RX0_3, x_oi1, x_oi2⟩)⟩ (x_al x_e_aload_n (x_al x_e_sipush (x_al ⟨rfl, xn_int⟩ (x_al ⟨rfl, xp_RX0_11_cX0_init⟩ (x_al x_e_return_ x_an)))))))
set_option maxRecDepth 20000 in
theorem rk_cX0_init : ∀ q ∈ x_rws M_cX0_init, ∀ r ∈ q.2, x_okR x_mt M_cX0_init r := x_okRs (x_al (x_dec rfl dc_cX0_init_0) x_an) (x_al wc_cX0_init_0 x_an)
theorem ok_cX0_init : x_okM x_mt M_cX0_init := x_okMk (plainFor_of_name xN_RX0) rfl xV_RX0 (Nat.le_of_ble_eq_true rfl) (x_bw_in (x_t2 (i := 70) rfl) rfl) (x_bw_in (x_t1 (i := 9) rfl) rfl) (fun h => by cases h) (fun _ => ⟨(x_bw_in (x_t2 (i := 69) rfl) rfl), TX0, 1, rfl⟩) (fun _ h => absurd rfl h) rk_cX0_init
theorem dc_cX0_most_1 : ∀ r ∈ k_cX0_most_1, decode cX0_most r.1 = .ok (r.2.1, r.2.2.1) := x_wall_ok _ 61 [180, 0, 31, 21, 6, 46, 154, 0, 36, 21, 5, 54, 7, 21, 7, 155, 0, 27, 21, 5, 42, 43, 44, 45, 21, 6, 21, 7, 182, 0, 34, 184, 0, 38, 54, 5, 132, 7, 255, 167, 255, 230, 132, 6, 1, 167, 255, 194, 21, 5, 172] (x_win_of (by decide +kernel)) (by decide +kernel)
theorem wc_cX0_most_1 : ∀ r ∈ k_cX0_most_1, x_okW x_mt M_cX0_most r := (x_al ⟨rfl, xf_RX0_31⟩ (x_al x_e_iload (x_al x_e_iaload (x_al x_e_ifCond (x_al x_e_iload (x_al ⟨rfl, (Nat.le_of_ble_eq_true rfl)⟩ (x_al x_e_iload (x_al x_e_ifCond (x_al x_e_iload (x_al x_e_aload_n (x_al x_e_aload_n (x_al x_e_aload_n (x_al x_e_aload_n (x_al x_e_iload (x_al x_e_iload (x_al ⟨rfl, (Or.inr (Or.inr ⟨x_ab rfl, xk_RX0_34⟩))⟩ (x_al ⟨rfl, (Or.inl ⟨rfl, xo_RX0_38, x_mmax⟩)⟩ (x_al ⟨rfl, (Nat.le_of_ble_eq_true rfl)⟩ (x_al ⟨rfl, (Nat.le_of_ble_eq_true rfl)⟩ (x_al x_e_goto (x_al ⟨rfl, (Nat.le_of_ble_eq_true rfl)⟩ (x_al x_e_goto (x_al x_e_iload (x_al x_e_ireturn x_an))))))))))))))))))))))))
theorem dc_cX0_most_0 : ∀ r ∈ k_cX0_most_0, decode cX0_most r.1 = .ok (r.2.1, r.2.2.1) := x_wall_ok _ 0 [3, 54, 5, 21, 5, 42, 180, 0, 11, 190, 162, 0, 18, 42, 180, 0, 11, 21, 5, 18, 15, 79, 132, 5, 1, 167, 255, 234, 42, 45, 180, 0, 16, 3, 3, 182, 0, 22, 3, 54, 5, 3, 54, 6, 21, 6, 21, 4, 162, 0, 61, 21, 6, 44, 180, 0, 26, 162, 0, 52, 44] (x_win_of (by decide +kernel)) (by decide +kernel)
theorem wc_cX0_most_0 : ∀ r ∈ k_cX0_most_0, x_okW x_mt M_cX0_most r := (x_al x_e_iconst (x_al ⟨rfl, (Nat.le_of_ble_eq_true rfl)⟩ (x_al x_e_iload (x_al x_e_aload_n (x_al ⟨rfl, xf_RX0_11⟩ (x_al x_e_arraylength (x_al x_e_if_icmp (x_al x_e_aload_n (x_al ⟨rfl, xf_RX0_11⟩ (x_al x_e_iload (x_al ⟨rfl, (Or.inr ⟨Nat.le_of_ble_eq_true rfl, xc_RX0_15⟩)⟩ (x_al x_e_iastore (x_al ⟨rfl, (Nat.le_of_ble_eq_true rfl)⟩ (x_al x_e_goto (x_al x_e_aload_n (x_al x_e_aload_n (x_al ⟨rfl, xf_RX0_16⟩ (x_al x_e_iconst (x_al x_e_iconst (x_al ⟨rfl, (Or.inr (Or.inr ⟨x_ab rfl, xk_RX0_22⟩))⟩ (x_al x_e_iconst (x_al ⟨rfl, (Nat.le_of_ble_eq_true rfl)⟩ (x_al x_e_iconst (x_al ⟨rfl, (Nat.le_of_ble_eq_true rfl)⟩ (x_al x_e_iload (x_al x_e_iload (x_al x_e_if_icmp (x_al x_e_iload (x_al x_e_aload_n (x_al ⟨rfl, xf_RX0_26⟩ (x_al x_e_if_icmp (x_al x_e_aload_n x_an))))))))))))))))))))))))))))))))
set_option maxRecDepth 20000 in
theorem rk_cX0_most : ∀ q ∈ x_rws M_cX0_most, ∀ r ∈ q.2, x_okR x_mt M_cX0_most r := x_okRs (x_al (x_dec rfl dc_cX0_most_0) (x_al (x_dec rfl dc_cX0_most_1) x_an)) (x_al wc_cX0_most_0 (x_al wc_cX0_most_1 x_an))
theorem ok_cX0_most : x_okM x_mt M_cX0_most := x_okMk (plainFor_of_name xN_RX0) rfl xV_RX0 (Nat.le_of_ble_eq_true rfl) (x_bw_in (x_t4 (i := 131) rfl) rfl) (x_bw_in (x_t1 (i := 9) rfl) rfl) (fun h => by cases h) (fun _ => ⟨(x_bw_in (x_t4 (i := 129) rfl) rfl), TX0, 1, rfl⟩) (fun _ _ => (x_bw_in (x_t4 (i := 130) rfl) rfl)) rk_cX0_most
theorem dc_cX0_goOn_3 : ∀ r ∈ k_cX0_goOn_3, decode cX0_goOn r.1 = .ok (r.2.1, r.2.2.1) := x_wall_ok _ 183 [4, 96, 182, 0, 59, 182, 0, 63, 54, 14, 21, 14, 2, 159, 0, 23, 42, 21, 13, 21, 5, 5, 96, 21, 14, 4, 96, 182, 0, 22, 21, 5, 5, 96, 54, 6, 132, 10, 1, 167, 255, 81, 132, 8, 1, 167, 255, 53, 21, 6, 172] (x_win_of (by decide +kernel)) (by decide +kernel)
theorem wc_cX0_goOn_3 : ∀ r ∈ k_cX0_goOn_3, x_okW x_mt M_cX0_goOn r := (x_al x_e_iconst (x_al x_e_iadd (x_al ⟨rfl, (Or.inr (Or.inr ⟨x_ab rfl, xk_RX0_59⟩))⟩ (x_al ⟨rfl, (Or.inr (Or.inr ⟨x_ab rfl, xk_RX0_63⟩))⟩ (x_al ⟨rfl, (Nat.le_of_ble_eq_true rfl)⟩ (x_al x_e_iload (x_al x_e_iconst (x_al x_e_if_icmp (x_al x_e_aload_n (x_al x_e_iload (x_al x_e_iload (x_al x_e_iconst (x_al x_e_iadd (x_al x_e_iload (x_al x_e_iconst (x_al x_e_iadd (x_al ⟨rfl, (Or.inr (Or.inr ⟨x_ab rfl, xk_RX0_22⟩))⟩ (x_al x_e_iload (x_al x_e_iconst (x_al x_e_iadd (x_al ⟨rfl, (Nat.le_of_ble_eq_true rfl)⟩ (x_al ⟨rfl, (Nat.le_of_ble_eq_true rfl)⟩ (x_al x_e_goto (x_al ⟨rfl, (Nat.le_of_ble_eq_true rfl)⟩ (x_al x_e_goto (x_al x_e_iload (x_al x_e_ireturn x_an)))))))))))))))))))))))))))
theorem dc_cX0_goOn_2 : ∀ r ∈ k_cX0_goOn_2, decode cX0_goOn r.1 = .ok (r.2.1, r.2.2.1) := x_wall_ok _ 123 [96, 182, 0, 22, 21, 6, 21, 5, 4, 96, 184, 0, 38, 54, 6, 21, 10, 154, 0, 13, 44, 180, 0, 44, 21, 4, 46, 167, 0, 10, 44, 180, 0, 56, 21, 4, 46, 54, 13, 21, 13, 2, 160, 0, 7, 2, 167, 0, 22, 44, 21, 4, 45, 43, 21, 11, 21, 13, 21, 12] (x_win_of (by decide +kernel)) (by decide +kernel)
theorem wc_cX0_goOn_2 : ∀ r ∈ k_cX0_goOn_2, x_okW x_mt M_cX0_goOn r := (x_al x_e_iadd (x_al ⟨rfl, (Or.inr (Or.inr ⟨x_ab rfl, xk_RX0_22⟩))⟩ (x_al x_e_iload (x_al x_e_iload (x_al x_e_iconst (x_al x_e_iadd (x_al ⟨rfl, (Or.inl ⟨rfl, xo_RX0_38, x_mmax⟩)⟩ (x_al ⟨rfl, (Nat.le_of_ble_eq_true rfl)⟩ (x_al x_e_iload (x_al x_e_ifCond (x_al x_e_aload_n (x_al ⟨rfl, xf_RX0_44⟩ (x_al x_e_iload (x_al x_e_iaload (x_al x_e_goto (x_al x_e_aload_n (x_al ⟨rfl, xf_RX0_56⟩ (x_al x_e_iload (x_al x_e_iaload (x_al ⟨rfl, (Nat.le_of_ble_eq_true rfl)⟩ (x_al x_e_iload (x_al x_e_iconst (x_al x_e_if_icmp (x_al x_e_iconst (x_al x_e_goto (x_al x_e_aload_n (x_al x_e_iload (x_al x_e_aload_n (x_al x_e_aload_n (x_al x_e_iload (x_al x_e_iload (x_al x_e_iload x_an))))))))))))))))))))))))))))))))
theorem dc_cX0_goOn_1 : ∀ r ∈ k_cX0_goOn_1, decode cX0_goOn r.1 = .ok (r.2.1, r.2.2.1) := x_wall_ok _ 63 [154, 0, 13, 44, 180, 0, 56, 21, 4, 46, 167, 0, 10, 44, 180, 0, 44, 21, 4, 46, 54, 11, 44, 21, 4, 45, 43, 21, 8, 21, 11, 21, 9, 182, 0, 59, 182, 0, 63, 54, 12, 21, 12, 2, 160, 0, 6, 167, 0, 109, 42, 21, 11, 21, 5, 4, 96, 21, 12, 4] (x_win_of (by decide +kernel)) (by decide +kernel)
theorem wc_cX0_goOn_1 : ∀ r ∈ k_cX0_goOn_1, x_okW x_mt M_cX0_goOn r := (x_al x_e_ifCond (x_al x_e_aload_n (x_al ⟨rfl, xf_RX0_56⟩ (x_al x_e_iload (x_al x_e_iaload (x_al x_e_goto (x_al x_e_aload_n (x_al ⟨rfl, xf_RX0_44⟩ (x_al x_e_iload (x_al x_e_iaload (x_al ⟨rfl, (Nat.le_of_ble_eq_true rfl)⟩ (x_al x_e_aload_n (x_al x_e_iload (x_al x_e_aload_n (x_al x_e_aload_n (x_al x_e_iload (x_al x_e_iload (x_al x_e_iload (x_al ⟨rfl, (Or.inr (Or.inr ⟨x_ab rfl, xk_RX0_59⟩))⟩ (x_al ⟨rfl, (Or.inr (Or.inr ⟨x_ab rfl, xk_RX0_63⟩))⟩ (x_al ⟨rfl, (Nat.le_of_ble_eq_true rfl)⟩ (x_al x_e_iload (x_al x_e_iconst (x_al x_e_if_icmp (x_al x_e_goto (x_al x_e_aload_n (x_al x_e_iload (x_al x_e_iload (x_al x_e_iconst (x_al x_e_iadd (x_al x_e_iload (x_al x_e_iconst x_an))))))))))))))))))))))))))))))))
theorem dc_cX0_goOn_0 : ∀ r ∈ k_cX0_goOn_0, decode cX0_goOn r.1 = .ok (r.2.1, r.2.2.1) := x_wall_ok _ 0 [21, 5, 54, 6, 44, 180, 0, 44, 21, 4, 46, 2, 160, 0, 7, 4, 167, 0, 4, 5, 54, 7, 3, 54, 8, 21, 8, 43, 182, 0, 47, 162, 0, 200, 42, 21, 8, 21, 5, 182, 0, 53, 54, 9, 3, 54, 10, 21, 10, 21, 7, 162, 0, 174, 21, 9, 18, 15, 159, 0, 167, 21, 10] (x_win_of (by decide +kernel)) (by decide +kernel)
theorem wc_cX0_goOn_0 : ∀ r ∈ k_cX0_goOn_0, x_okW x_mt M_cX0_goOn r := (x_al x_e_iload (x_al ⟨rfl, (Nat.le_of_ble_eq_true rfl)⟩ (x_al x_e_aload_n (x_al ⟨rfl, xf_RX0_44⟩ (x_al x_e_iload (x_al x_e_iaload (x_al x_e_iconst (x_al x_e_if_icmp (x_al x_e_iconst (x_al x_e_goto (x_al x_e_iconst (x_al ⟨rfl, (Nat.le_of_ble_eq_true rfl)⟩ (x_al x_e_iconst (x_al ⟨rfl, (Nat.le_of_ble_eq_true rfl)⟩ (x_al x_e_iload (x_al x_e_aload_n (x_al ⟨rfl, (Or.inr (Or.inr ⟨x_ab rfl, xk_RX0_47⟩))⟩ (x_al x_e_if_icmp (x_al x_e_aload_n (x_al x_e_iload (x_al x_e_iload (x_al ⟨rfl, (Or.inr (Or.inr ⟨x_ab rfl, xk_RX0_53⟩))⟩ (x_al ⟨rfl, (Nat.le_of_ble_eq_true rfl)⟩ (x_al x_e_iconst (x_al ⟨rfl, (Nat.le_of_ble_eq_true rfl)⟩ (x_al x_e_iload (x_al x_e_iload (x_al x_e_if_icmp (x_al x_e_iload (x_al ⟨rfl, (Or.inr ⟨Nat.le_of_ble_eq_true rfl, xc_RX0_15⟩)⟩ (x_al x_e_if_icmp (x_al x_e_iload x_an))))))))))))))))))))))))))))))))
set_option maxRecDepth 20000 in
theorem rk_cX0_goOn : ∀ q ∈ x_rws M_cX0_goOn, ∀ r ∈ q.2, x_okR x_mt M_cX0_goOn r := x_okRs (x_al (x_dec rfl dc_cX0_goOn_0) (x_al (x_dec rfl dc_cX0_goOn_1) (x_al (x_dec rfl dc_cX0_goOn_2) (x_al (x_dec rfl dc_cX0_goOn_3) x_an)))) (x_al wc_cX0_goOn_0 (x_al wc_cX0_goOn_1 (x_al wc_cX0_goOn_2 (x_al wc_cX0_goOn_3 x_an))))
theorem ok_cX0_goOn : x_okM x_mt M_cX0_goOn := x_okMk (plainFor_of_name xN_RX0) rfl xV_RX0 (Nat.le_of_ble_eq_true rfl) (x_bw_in (x_t4 (i := 140) rfl) rfl) (x_bw_in (x_t1 (i := 9) rfl) rfl) (fun h => by cases h) (fun _ => ⟨(x_bw_in (x_t4 (i := 139) rfl) rfl), TX0, 1, rfl⟩) (fun _ _ => (x_bw_in (x_t0 (i := 24) rfl) rfl)) rk_cX0_goOn
theorem dc_cX0_freeAt_0 : ∀ r ∈ k_cX0_freeAt_0, decode cX0_freeAt r.1 = .ok (r.2.1, r.2.2.1) := x_wall_ok _ 0 [27, 16, 121, 104, 28, 96, 62, 29, 155, 0, 21, 29, 42, 180, 0, 11, 190, 162, 0, 12, 42, 180, 0, 11, 29, 46, 167, 0, 5, 18, 15, 172] (x_win_of (by decide +kernel)) (by decide +kernel)
theorem wc_cX0_freeAt_0 : ∀ r ∈ k_cX0_freeAt_0, x_okW x_mt M_cX0_freeAt r := (x_al x_e_iload_n (x_al x_e_bipush (x_al x_e_imul (x_al x_e_iload_n (x_al x_e_iadd (x_al ⟨rfl, (Nat.le_of_ble_eq_true rfl)⟩ (x_al x_e_iload_n (x_al x_e_ifCond (x_al x_e_iload_n (x_al x_e_aload_n (x_al ⟨rfl, xf_RX0_11⟩ (x_al x_e_arraylength (x_al x_e_if_icmp (x_al x_e_aload_n (x_al ⟨rfl, xf_RX0_11⟩ (x_al x_e_iload_n (x_al x_e_iaload (x_al x_e_goto (x_al ⟨rfl, (Or.inr ⟨Nat.le_of_ble_eq_true rfl, xc_RX0_15⟩)⟩ (x_al x_e_ireturn x_an))))))))))))))))))))
set_option maxRecDepth 20000 in
theorem rk_cX0_freeAt : ∀ q ∈ x_rws M_cX0_freeAt, ∀ r ∈ q.2, x_okR x_mt M_cX0_freeAt r := x_okRs (x_al (x_dec rfl dc_cX0_freeAt_0) x_an) (x_al wc_cX0_freeAt_0 x_an)
theorem ok_cX0_freeAt : x_okM x_mt M_cX0_freeAt := x_okMk (plainFor_of_name xN_RX0) rfl xV_RX0 (Nat.le_of_ble_eq_true rfl) (x_bw_in (x_t4 (i := 145) rfl) rfl) (x_bw_in (x_t1 (i := 9) rfl) rfl) (fun h => by cases h) (fun _ => ⟨(x_bw_in (x_t4 (i := 144) rfl) rfl), TX0, 1, rfl⟩) (fun _ _ => (x_bw_in (x_t0 (i := 25) rfl) rfl)) rk_cX0_freeAt
theorem dc_cX0_keep_0 : ∀ r ∈ k_cX0_keep_0, decode cX0_keep r.1 = .ok (r.2.1, r.2.2.1) := x_wall_ok _ 0 [27, 16, 121, 104, 28, 96, 54, 4, 21, 4, 155, 0, 32, 21, 4, 42, 180, 0, 11, 190, 162, 0, 22, 29, 42, 180, 0, 11, 21, 4, 46, 162, 0, 11, 42, 180, 0, 11, 21, 4, 29, 79, 177] (x_win_of (by decide +kernel)) (by decide +kernel)
theorem wc_cX0_keep_0 : ∀ r ∈ k_cX0_keep_0, x_okW x_mt M_cX0_keep r := (x_al x_e_iload_n (x_al x_e_bipush (x_al x_e_imul (x_al x_e_iload_n (x_al x_e_iadd (x_al ⟨rfl, (Nat.le_of_ble_eq_true rfl)⟩ (x_al x_e_iload (x_al x_e_ifCond (x_al x_e_iload (x_al x_e_aload_n (x_al ⟨rfl, xf_RX0_11⟩ (x_al x_e_arraylength (x_al x_e_if_icmp (x_al x_e_iload_n (x_al x_e_aload_n (x_al ⟨rfl, xf_RX0_11⟩ (x_al x_e_iload (x_al x_e_iaload (x_al x_e_if_icmp (x_al x_e_aload_n (x_al ⟨rfl, xf_RX0_11⟩ (x_al x_e_iload (x_al x_e_iload_n (x_al x_e_iastore (x_al x_e_return_ x_an)))))))))))))))))))))))))
set_option maxRecDepth 20000 in
theorem rk_cX0_keep : ∀ q ∈ x_rws M_cX0_keep, ∀ r ∈ q.2, x_okR x_mt M_cX0_keep r := x_okRs (x_al (x_dec rfl dc_cX0_keep_0) x_an) (x_al wc_cX0_keep_0 x_an)
theorem ok_cX0_keep : x_okM x_mt M_cX0_keep := x_okMk (plainFor_of_name xN_RX0) rfl xV_RX0 (Nat.le_of_ble_eq_true rfl) (x_bw_in (x_t4 (i := 136) rfl) rfl) (x_bw_in (x_t1 (i := 9) rfl) rfl) (fun h => by cases h) (fun _ => ⟨(x_bw_in (x_t4 (i := 135) rfl) rfl), TX0, 1, rfl⟩) (fun _ _ => (x_bw_in (x_t0 (i := 23) rfl) rfl)) rk_cX0_keep
theorem xN_RX1 : plainName RX1 = true := by decide +kernel
theorem xV_RX1 : RX1 ≠ "java/lang/invoke/MethodHandle" ∧ RX1 ≠ "java/lang/invoke/VarHandle" := by decide +kernel
theorem dc_cX1_init_0 : ∀ r ∈ k_cX1_init_0, decode cX1_init r.1 = .ok (r.2.1, r.2.2.1) := x_wall_ok _ 0 [42, 183, 0, 3, 42, 16, 60, 188, 10, 181, 0, 9, 177] (x_win_of (by decide +kernel)) (by decide +kernel)
theorem wc_cX1_init_0 : ∀ r ∈ k_cX1_init_0, x_okW x_mt M_cX1_init r := (x_al x_e_aload_n (x_al ⟨rfl, (Or.inl ⟨rfl, xo_RX1_3, x_oi1, x_oi2⟩)⟩ (x_al x_e_aload_n (x_al x_e_bipush (x_al ⟨rfl, xn_int⟩ (x_al ⟨rfl, xp_RX1_9_cX1_init⟩ (x_al x_e_return_ x_an)))))))
set_option maxRecDepth 20000 in
theorem rk_cX1_init : ∀ q ∈ x_rws M_cX1_init, ∀ r ∈ q.2, x_okR x_mt M_cX1_init r := x_okRs (x_al (x_dec rfl dc_cX1_init_0) x_an) (x_al wc_cX1_init_0 x_an)
theorem ok_cX1_init : x_okM x_mt M_cX1_init := x_okMk (plainFor_of_name xN_RX1) rfl xV_RX1 (Nat.le_of_ble_eq_true rfl) (x_bw_in (x_t2 (i := 94) rfl) rfl) (x_bw_in (x_t1 (i := 11) rfl) rfl) (fun h => by cases h) (fun _ => ⟨(x_bw_in (x_t2 (i := 93) rfl) rfl), TX1, 4, rfl⟩) (fun _ h => absurd rfl h) rk_cX1_init
theorem dc_cX1_judge_1 : ∀ r ∈ k_cX1_judge_1, decode cX1_judge r.1 = .ok (r.2.1, r.2.2.1) := x_wall_ok _ 57 [44, 180, 0, 33, 21, 4, 47, 136, 44, 180, 0, 33, 21, 4, 4, 96, 47, 136, 29, 182, 0, 37, 132, 4, 2, 167, 255, 218, 177] (x_win_of (by decide +kernel)) (by decide +kernel)
theorem wc_cX1_judge_1 : ∀ r ∈ k_cX1_judge_1, x_okW x_mt M_cX1_judge r := (x_al x_e_aload_n (x_al ⟨rfl, xf_RX1_33⟩ (x_al x_e_iload (x_al x_e_laload (x_al x_e_l2i (x_al x_e_aload_n (x_al ⟨rfl, xf_RX1_33⟩ (x_al x_e_iload (x_al x_e_iconst (x_al x_e_iadd (x_al x_e_laload (x_al x_e_l2i (x_al x_e_iload_n (x_al ⟨rfl, (Or.inr (Or.inr ⟨x_ab rfl, xk_RX1_37⟩))⟩ (x_al ⟨rfl, (Nat.le_of_ble_eq_true rfl)⟩ (x_al x_e_goto (x_al x_e_return_ x_an)))))))))))))))))
theorem dc_cX1_judge_0 : ∀ r ∈ k_cX1_judge_0, decode cX1_judge r.1 = .ok (r.2.1, r.2.2.1) := x_wall_ok _ 0 [42, 3, 181, 0, 15, 42, 3, 181, 0, 19, 42, 3, 181, 0, 22, 3, 54, 4, 21, 4, 43, 180, 0, 25, 162, 0, 17, 42, 180, 0, 9, 21, 4, 3, 79, 132, 4, 1, 167, 255, 236, 3, 54, 4, 21, 4, 4, 96, 44, 180, 0, 30, 162, 0, 33, 42, 43] (x_win_of (by decide +kernel)) (by decide +kernel)
theorem wc_cX1_judge_0 : ∀ r ∈ k_cX1_judge_0, x_okW x_mt M_cX1_judge r := (x_al x_e_aload_n (x_al x_e_iconst (x_al ⟨rfl, (xp_RX1_15 _)⟩ (x_al x_e_aload_n (x_al x_e_iconst (x_al ⟨rfl, (xp_RX1_19 _)⟩ (x_al x_e_aload_n (x_al x_e_iconst (x_al ⟨rfl, (xp_RX1_22 _)⟩ (x_al x_e_iconst (x_al ⟨rfl, (Nat.le_of_ble_eq_true rfl)⟩ (x_al x_e_iload (x_al x_e_aload_n (x_al ⟨rfl, xf_RX1_25⟩ (x_al x_e_if_icmp (x_al x_e_aload_n (x_al ⟨rfl, xf_RX1_9⟩ (x_al x_e_iload (x_al x_e_iconst (x_al x_e_iastore (x_al ⟨rfl, (Nat.le_of_ble_eq_true rfl)⟩ (x_al x_e_goto (x_al x_e_iconst (x_al ⟨rfl, (Nat.le_of_ble_eq_true rfl)⟩ (x_al x_e_iload (x_al x_e_iconst (x_al x_e_iadd (x_al x_e_aload_n (x_al ⟨rfl, xf_RX1_30⟩ (x_al x_e_if_icmp (x_al x_e_aload_n (x_al x_e_aload_n x_an))))))))))))))))))))))))))))))))
set_option maxRecDepth 20000 in
theorem rk_cX1_judge : ∀ q ∈ x_rws M_cX1_judge, ∀ r ∈ q.2, x_okR x_mt M_cX1_judge r := x_okRs (x_al (x_dec rfl dc_cX1_judge_0) (x_al (x_dec rfl dc_cX1_judge_1) x_an)) (x_al wc_cX1_judge_0 (x_al wc_cX1_judge_1 x_an))
theorem ok_cX1_judge : x_okM x_mt M_cX1_judge := x_okMk (plainFor_of_name xN_RX1) rfl xV_RX1 (Nat.le_of_ble_eq_true rfl) (x_bw_in (x_t5 (i := 178) rfl) rfl) (x_bw_in (x_t1 (i := 11) rfl) rfl) (fun h => by cases h) (fun _ => ⟨(x_bw_in (x_t5 (i := 176) rfl) rfl), TX1, 4, rfl⟩) (fun _ _ => (x_bw_in (x_t5 (i := 177) rfl) rfl)) rk_cX1_judge
theorem dc_cX1_judgeOne_2 : ∀ r ∈ k_cX1_judgeOne_2, decode cX1_judgeOne r.1 = .ok (r.2.1, r.2.2.1) := x_wall_ok _ 106 [96, 181, 0, 22, 177] (x_win_of (by decide +kernel)) (by decide +kernel)
theorem wc_cX1_judgeOne_2 : ∀ r ∈ k_cX1_judgeOne_2, x_okW x_mt M_cX1_judgeOne r := (x_al x_e_iadd (x_al ⟨rfl, (xp_RX1_22 _)⟩ (x_al x_e_return_ x_an)))
theorem dc_cX1_judgeOne_1 : ∀ r ∈ k_cX1_judgeOne_1, decode cX1_judgeOne r.1 = .ok (r.2.1, r.2.2.1) := x_wall_ok _ 51 [128, 79, 43, 180, 0, 52, 21, 5, 46, 154, 0, 16, 42, 89, 180, 0, 15, 4, 96, 181, 0, 15, 167, 0, 13, 42, 89, 180, 0, 19, 4, 96, 181, 0, 19, 29, 43, 180, 0, 55, 21, 5, 46, 100, 21, 4, 162, 0, 13, 42, 89, 180, 0, 22, 4] (x_win_of (by decide +kernel)) (by decide +kernel)
theorem wc_cX1_judgeOne_1 : ∀ r ∈ k_cX1_judgeOne_1, x_okW x_mt M_cX1_judgeOne r := (x_al x_e_ior (x_al x_e_iastore (x_al x_e_aload_n (x_al ⟨rfl, xf_RX1_52⟩ (x_al x_e_iload (x_al x_e_iaload (x_al x_e_ifCond (x_al x_e_aload_n (x_al x_e_dup (x_al ⟨rfl, xf_RX1_15⟩ (x_al x_e_iconst (x_al x_e_iadd (x_al ⟨rfl, (xp_RX1_15 _)⟩ (x_al x_e_goto (x_al x_e_aload_n (x_al x_e_dup (x_al ⟨rfl, xf_RX1_19⟩ (x_al x_e_iconst (x_al x_e_iadd (x_al ⟨rfl, (xp_RX1_19 _)⟩ (x_al x_e_iload_n (x_al x_e_aload_n (x_al ⟨rfl, xf_RX1_55⟩ (x_al x_e_iload (x_al x_e_iaload (x_al x_e_isub (x_al x_e_iload (x_al x_e_if_icmp (x_al x_e_aload_n (x_al x_e_dup (x_al ⟨rfl, xf_RX1_22⟩ (x_al x_e_iconst x_an))))))))))))))))))))))))))))))))
theorem dc_cX1_judgeOne_0 : ∀ r ∈ k_cX1_judgeOne_0, decode cX1_judgeOne r.1 = .ok (r.2.1, r.2.2.1) := x_wall_ok _ 0 [43, 29, 182, 0, 41, 54, 5, 43, 21, 5, 182, 0, 45, 153, 0, 26, 43, 21, 5, 182, 0, 49, 42, 180, 0, 9, 21, 5, 46, 2, 130, 126, 4, 28, 120, 126, 154, 0, 4, 177, 42, 180, 0, 9, 21, 5, 92, 46, 4, 28, 120] (x_win_of (by decide +kernel)) (by decide +kernel)
theorem wc_cX1_judgeOne_0 : ∀ r ∈ k_cX1_judgeOne_0, x_okW x_mt M_cX1_judgeOne r := (x_al x_e_aload_n (x_al x_e_iload_n (x_al ⟨rfl, (Or.inr (Or.inr ⟨x_ab rfl, xk_RX1_41⟩))⟩ (x_al ⟨rfl, (Nat.le_of_ble_eq_true rfl)⟩ (x_al x_e_aload_n (x_al x_e_iload (x_al ⟨rfl, (Or.inr (Or.inr ⟨x_ab rfl, xk_RX1_45⟩))⟩ (x_al x_e_ifCond (x_al x_e_aload_n (x_al x_e_iload (x_al ⟨rfl, (Or.inr (Or.inr ⟨x_ab rfl, xk_RX1_49⟩))⟩ (x_al x_e_aload_n (x_al ⟨rfl, xf_RX1_9⟩ (x_al x_e_iload (x_al x_e_iaload (x_al x_e_iconst (x_al x_e_ixor (x_al x_e_iand (x_al x_e_iconst (x_al x_e_iload_n (x_al x_e_ishl (x_al x_e_iand (x_al x_e_ifCond (x_al x_e_return_ (x_al x_e_aload_n (x_al ⟨rfl, xf_RX1_9⟩ (x_al x_e_iload (x_al x_e_dup2 (x_al x_e_iaload (x_al x_e_iconst (x_al x_e_iload_n (x_al x_e_ishl x_an))))))))))))))))))))))))))))))))
set_option maxRecDepth 20000 in
theorem rk_cX1_judgeOne : ∀ q ∈ x_rws M_cX1_judgeOne, ∀ r ∈ q.2, x_okR x_mt M_cX1_judgeOne r := x_okRs (x_al (x_dec rfl dc_cX1_judgeOne_0) (x_al (x_dec rfl dc_cX1_judgeOne_1) (x_al (x_dec rfl dc_cX1_judgeOne_2) x_an))) (x_al wc_cX1_judgeOne_0 (x_al wc_cX1_judgeOne_1 (x_al wc_cX1_judgeOne_2 x_an)))
theorem ok_cX1_judgeOne : x_okM x_mt M_cX1_judgeOne := x_okMk (plainFor_of_name xN_RX1) rfl xV_RX1 (Nat.le_of_ble_eq_true rfl) (x_bw_in (x_t5 (i := 182) rfl) rfl) (x_bw_in (x_t1 (i := 11) rfl) rfl) (fun h => by cases h) (fun _ => ⟨(x_bw_in (x_t5 (i := 181) rfl) rfl), TX1, 4, rfl⟩) (fun _ _ => (x_bw_in (x_t0 (i := 37) rfl) rfl)) rk_cX1_judgeOne
theorem xN_RX2 : plainName RX2 = true := by decide +kernel
theorem xV_RX2 : RX2 ≠ "java/lang/invoke/MethodHandle" ∧ RX2 ≠ "java/lang/invoke/VarHandle" := by decide +kernel
theorem dc_cX2_init_0 : ∀ r ∈ k_cX2_init_0, decode cX2_init r.1 = .ok (r.2.1, r.2.2.1) := x_wall_ok _ 0 [42, 183, 0, 3, 42, 16, 6, 188, 10, 181, 0, 9, 42, 16, 6, 188, 10, 181, 0, 15, 42, 16, 20, 188, 10, 181, 0, 18, 42, 187, 0, 21, 89, 183, 0, 23, 181, 0, 24, 177] (x_win_of (by decide +kernel)) (by decide +kernel)
theorem wc_cX2_init_0 : ∀ r ∈ k_cX2_init_0, x_okW x_mt M_cX2_init r := (x_al x_e_aload_n (x_al ⟨rfl, (Or.inl ⟨rfl, xo_RX2_3, x_oi1, x_oi2⟩)⟩ (x_al x_e_aload_n (x_al x_e_bipush (x_al ⟨rfl, xn_int⟩ (x_al ⟨rfl, xp_RX2_9_cX2_init⟩ (x_al x_e_aload_n (x_al x_e_bipush (x_al ⟨rfl, xn_int⟩ (x_al ⟨rfl, xp_RX2_15_cX2_init⟩ (x_al x_e_aload_n (x_al x_e_bipush (x_al ⟨rfl, xn_int⟩ (x_al ⟨rfl, xp_RX2_18_cX2_init⟩ (x_al x_e_aload_n (x_al ⟨rfl, xw_RX2_21⟩ (x_al x_e_dup (x_al ⟨rfl, (Or.inr ⟨x_ab rfl, xk_RX2_23⟩)⟩ (x_al ⟨rfl, xp_RX2_24_cX2_init⟩ (x_al x_e_return_ x_an))))))))))))))))))))
set_option maxRecDepth 20000 in
theorem rk_cX2_init : ∀ q ∈ x_rws M_cX2_init, ∀ r ∈ q.2, x_okR x_mt M_cX2_init r := x_okRs (x_al (x_dec rfl dc_cX2_init_0) x_an) (x_al wc_cX2_init_0 x_an)
theorem ok_cX2_init : x_okM x_mt M_cX2_init := x_okMk (plainFor_of_name xN_RX2) rfl xV_RX2 (Nat.le_of_ble_eq_true rfl) (x_bw_in (x_t1 (i := 33) rfl) rfl) (x_bw_in (x_t1 (i := 2) rfl) rfl) (fun h => by cases h) (fun _ => ⟨(x_bw_in (x_t1 (i := 32) rfl) rfl), TX2, 15, rfl⟩) (fun _ h => absurd rfl h) rk_cX2_init
theorem dc_cX2_empty_1 : ∀ r ∈ k_cX2_empty_1, decode cX2_empty r.1 = .ok (r.2.1, r.2.2.1) := x_wall_ok _ 55 [182, 0, 59, 177] (x_win_of (by decide +kernel)) (by decide +kernel)
theorem wc_cX2_empty_1 : ∀ r ∈ k_cX2_empty_1, x_okW x_mt M_cX2_empty r := (x_al ⟨rfl, (Or.inr (Or.inr ⟨x_ab rfl, xk_RX2_59⟩))⟩ (x_al x_e_return_ x_an))
theorem dc_cX2_empty_0 : ∀ r ∈ k_cX2_empty_0, decode cX2_empty r.1 = .ok (r.2.1, r.2.2.1) := x_wall_ok _ 0 [42, 3, 181, 0, 28, 42, 3, 181, 0, 32, 42, 3, 181, 0, 35, 42, 3, 181, 0, 38, 42, 3, 181, 0, 41, 42, 3, 181, 0, 44, 42, 3, 181, 0, 47, 42, 4, 181, 0, 50, 42, 16, 100, 181, 0, 53, 42, 3, 181, 0, 56, 42, 180, 0, 24] (x_win_of (by decide +kernel)) (by decide +kernel)
theorem wc_cX2_empty_0 : ∀ r ∈ k_cX2_empty_0, x_okW x_mt M_cX2_empty r := (x_al x_e_aload_n (x_al x_e_iconst (x_al ⟨rfl, (xp_RX2_28 _)⟩ (x_al x_e_aload_n (x_al x_e_iconst (x_al ⟨rfl, (xp_RX2_32 _)⟩ (x_al x_e_aload_n (x_al x_e_iconst (x_al ⟨rfl, (xp_RX2_35 _)⟩ (x_al x_e_aload_n (x_al x_e_iconst (x_al ⟨rfl, (xp_RX2_38 _)⟩ (x_al x_e_aload_n (x_al x_e_iconst (x_al ⟨rfl, (xp_RX2_41 _)⟩ (x_al x_e_aload_n (x_al x_e_iconst (x_al ⟨rfl, (xp_RX2_44 _)⟩ (x_al x_e_aload_n (x_al x_e_iconst (x_al ⟨rfl, (xp_RX2_47 _)⟩ (x_al x_e_aload_n (x_al x_e_iconst (x_al ⟨rfl, (xp_RX2_50 _)⟩ (x_al x_e_aload_n (x_al x_e_bipush (x_al ⟨rfl, (xp_RX2_53 _)⟩ (x_al x_e_aload_n (x_al x_e_iconst (x_al ⟨rfl, (xp_RX2_56 _)⟩ (x_al x_e_aload_n (x_al ⟨rfl, xf_RX2_24⟩ x_an))))))))))))))))))))))))))))))))
set_option maxRecDepth 20000 in
theorem rk_cX2_empty : ∀ q ∈ x_rws M_cX2_empty, ∀ r ∈ q.2, x_okR x_mt M_cX2_empty r := x_okRs (x_al (x_dec rfl dc_cX2_empty_0) (x_al (x_dec rfl dc_cX2_empty_1) x_an)) (x_al wc_cX2_empty_0 (x_al wc_cX2_empty_1 x_an))
theorem ok_cX2_empty : x_okM x_mt M_cX2_empty := x_okMk (plainFor_of_name xN_RX2) rfl xV_RX2 (Nat.le_of_ble_eq_true rfl) (x_bw_in (x_t2 (i := 193) rfl) rfl) (x_bw_in (x_t1 (i := 2) rfl) rfl) (fun h => by cases h) (fun _ => ⟨(x_bw_in (x_t2 (i := 191) rfl) rfl), TX2, 15, rfl⟩) (fun _ _ => (x_bw_in (x_t2 (i := 192) rfl) rfl)) rk_cX2_empty
theorem dc_cX2_copy_2 : ∀ r ∈ k_cX2_copy_2, decode cX2_copy r.1 = .ok (r.2.1, r.2.2.1) := x_wall_ok _ 125 [42, 180, 0, 24, 43, 180, 0, 24, 182, 0, 68, 177] (x_win_of (by decide +kernel)) (by decide +kernel)
theorem wc_cX2_copy_2 : ∀ r ∈ k_cX2_copy_2, x_okW x_mt M_cX2_copy r := (x_al x_e_aload_n (x_al ⟨rfl, xf_RX2_24⟩ (x_al x_e_aload_n (x_al ⟨rfl, xf_RX2_24⟩ (x_al ⟨rfl, (Or.inr (Or.inr ⟨x_ab rfl, xk_RX2_68⟩))⟩ (x_al x_e_return_ x_an))))))
theorem dc_cX2_copy_1 : ∀ r ∈ k_cX2_copy_1, decode cX2_copy r.1 = .ok (r.2.1, r.2.2.1) := x_wall_ok _ 64 [42, 43, 180, 0, 53, 181, 0, 53, 42, 43, 180, 0, 56, 181, 0, 56, 43, 180, 0, 9, 3, 42, 180, 0, 9, 3, 16, 6, 184, 0, 62, 43, 180, 0, 15, 3, 42, 180, 0, 15, 3, 16, 6, 184, 0, 62, 43, 180, 0, 18, 3, 42, 180, 0, 18, 3, 16, 20, 184, 0, 62] (x_win_of (by decide +kernel)) (by decide +kernel)
theorem wc_cX2_copy_1 : ∀ r ∈ k_cX2_copy_1, x_okW x_mt M_cX2_copy r := (x_al x_e_aload_n (x_al x_e_aload_n (x_al ⟨rfl, xf_RX2_53⟩ (x_al ⟨rfl, (xp_RX2_53 _)⟩ (x_al x_e_aload_n (x_al x_e_aload_n (x_al ⟨rfl, xf_RX2_56⟩ (x_al ⟨rfl, (xp_RX2_56 _)⟩ (x_al x_e_aload_n (x_al ⟨rfl, xf_RX2_9⟩ (x_al x_e_iconst (x_al x_e_aload_n (x_al ⟨rfl, xf_RX2_9⟩ (x_al x_e_iconst (x_al x_e_bipush (x_al ⟨rfl, (Or.inr (Or.inr (Or.inr (Or.inl ⟨Or.inl rfl, xo_RX2_62, x_ac⟩))))⟩ (x_al x_e_aload_n (x_al ⟨rfl, xf_RX2_15⟩ (x_al x_e_iconst (x_al x_e_aload_n (x_al ⟨rfl, xf_RX2_15⟩ (x_al x_e_iconst (x_al x_e_bipush (x_al ⟨rfl, (Or.inr (Or.inr (Or.inr (Or.inl ⟨Or.inl rfl, xo_RX2_62, x_ac⟩))))⟩ (x_al x_e_aload_n (x_al ⟨rfl, xf_RX2_18⟩ (x_al x_e_iconst (x_al x_e_aload_n (x_al ⟨rfl, xf_RX2_18⟩ (x_al x_e_iconst (x_al x_e_bipush (x_al ⟨rfl, (Or.inr (Or.inr (Or.inr (Or.inl ⟨Or.inl rfl, xo_RX2_62, x_ac⟩))))⟩ x_an))))))))))))))))))))))))))))))))
theorem dc_cX2_copy_0 : ∀ r ∈ k_cX2_copy_0, decode cX2_copy r.1 = .ok (r.2.1, r.2.2.1) := x_wall_ok _ 0 [42, 43, 180, 0, 28, 181, 0, 28, 42, 43, 180, 0, 32, 181, 0, 32, 42, 43, 180, 0, 35, 181, 0, 35, 42, 43, 180, 0, 38, 181, 0, 38, 42, 43, 180, 0, 41, 181, 0, 41, 42, 43, 180, 0, 44, 181, 0, 44, 42, 43, 180, 0, 47, 181, 0, 47, 42, 43, 180, 0, 50, 181, 0, 50] (x_win_of (by decide +kernel)) (by decide +kernel)
theorem wc_cX2_copy_0 : ∀ r ∈ k_cX2_copy_0, x_okW x_mt M_cX2_copy r := (x_al x_e_aload_n (x_al x_e_aload_n (x_al ⟨rfl, xf_RX2_28⟩ (x_al ⟨rfl, (xp_RX2_28 _)⟩ (x_al x_e_aload_n (x_al x_e_aload_n (x_al ⟨rfl, xf_RX2_32⟩ (x_al ⟨rfl, (xp_RX2_32 _)⟩ (x_al x_e_aload_n (x_al x_e_aload_n (x_al ⟨rfl, xf_RX2_35⟩ (x_al ⟨rfl, (xp_RX2_35 _)⟩ (x_al x_e_aload_n (x_al x_e_aload_n (x_al ⟨rfl, xf_RX2_38⟩ (x_al ⟨rfl, (xp_RX2_38 _)⟩ (x_al x_e_aload_n (x_al x_e_aload_n (x_al ⟨rfl, xf_RX2_41⟩ (x_al ⟨rfl, (xp_RX2_41 _)⟩ (x_al x_e_aload_n (x_al x_e_aload_n (x_al ⟨rfl, xf_RX2_44⟩ (x_al ⟨rfl, (xp_RX2_44 _)⟩ (x_al x_e_aload_n (x_al x_e_aload_n (x_al ⟨rfl, xf_RX2_47⟩ (x_al ⟨rfl, (xp_RX2_47 _)⟩ (x_al x_e_aload_n (x_al x_e_aload_n (x_al ⟨rfl, xf_RX2_50⟩ (x_al ⟨rfl, (xp_RX2_50 _)⟩ x_an))))))))))))))))))))))))))))))))
set_option maxRecDepth 20000 in
theorem rk_cX2_copy : ∀ q ∈ x_rws M_cX2_copy, ∀ r ∈ q.2, x_okR x_mt M_cX2_copy r := x_okRs (x_al (x_dec rfl dc_cX2_copy_0) (x_al (x_dec rfl dc_cX2_copy_1) (x_al (x_dec rfl dc_cX2_copy_2) x_an))) (x_al wc_cX2_copy_0 (x_al wc_cX2_copy_1 (x_al wc_cX2_copy_2 x_an)))
theorem ok_cX2_copy : x_okM x_mt M_cX2_copy := x_okMk (plainFor_of_name xN_RX2) rfl xV_RX2 (Nat.le_of_ble_eq_true rfl) (x_bw_in (x_t3 (i := 137) rfl) rfl) (x_bw_in (x_t1 (i := 2) rfl) rfl) (fun h => by cases h) (fun _ => ⟨(x_bw_in (x_t3 (i := 135) rfl) rfl), TX2, 15, rfl⟩) (fun _ _ => (x_bw_in (x_t3 (i := 136) rfl) rfl)) rk_cX2_copy
theorem dc_cX2_isTold_0 : ∀ r ∈ k_cX2_isTold_0, decode cX2_isTold r.1 = .ok (r.2.1, r.2.2.1) := x_wall_ok _ 0 [42, 180, 0, 28, 158, 0, 7, 4, 167, 0, 4, 3, 172] (x_win_of (by decide +kernel)) (by decide +kernel)
theorem wc_cX2_isTold_0 : ∀ r ∈ k_cX2_isTold_0, x_okW x_mt M_cX2_isTold r := (x_al x_e_aload_n (x_al ⟨rfl, xf_RX2_28⟩ (x_al x_e_ifCond (x_al x_e_iconst (x_al x_e_goto (x_al x_e_iconst (x_al x_e_ireturn x_an)))))))
set_option maxRecDepth 20000 in
theorem rk_cX2_isTold : ∀ q ∈ x_rws M_cX2_isTold, ∀ r ∈ q.2, x_okR x_mt M_cX2_isTold r := x_okRs (x_al (x_dec rfl dc_cX2_isTold_0) x_an) (x_al wc_cX2_isTold_0 x_an)
theorem ok_cX2_isTold : x_okM x_mt M_cX2_isTold := x_okMk (plainFor_of_name xN_RX2) rfl xV_RX2 (Nat.le_of_ble_eq_true rfl) (x_bw_in (x_t3 (i := 198) rfl) rfl) (x_bw_in (x_t1 (i := 2) rfl) rfl) (fun h => by cases h) (fun _ => ⟨(x_bw_in (x_t3 (i := 196) rfl) rfl), TX2, 15, rfl⟩) (fun _ _ => (x_bw_in (x_t3 (i := 197) rfl) rfl)) rk_cX2_isTold
theorem dc_cX2_holes_0 : ∀ r ∈ k_cX2_holes_0, decode cX2_holes r.1 = .ok (r.2.1, r.2.2.1) := x_wall_ok _ 0 [42, 180, 0, 32, 42, 180, 0, 35, 104, 172] (x_win_of (by decide +kernel)) (by decide +kernel)
theorem wc_cX2_holes_0 : ∀ r ∈ k_cX2_holes_0, x_okW x_mt M_cX2_holes r := (x_al x_e_aload_n (x_al ⟨rfl, xf_RX2_32⟩ (x_al x_e_aload_n (x_al ⟨rfl, xf_RX2_35⟩ (x_al x_e_imul (x_al x_e_ireturn x_an))))))
set_option maxRecDepth 20000 in
theorem rk_cX2_holes : ∀ q ∈ x_rws M_cX2_holes, ∀ r ∈ q.2, x_okR x_mt M_cX2_holes r := x_okRs (x_al (x_dec rfl dc_cX2_holes_0) x_an) (x_al wc_cX2_holes_0 x_an)
theorem ok_cX2_holes : x_okM x_mt M_cX2_holes := x_okMk (plainFor_of_name xN_RX2) rfl xV_RX2 (Nat.le_of_ble_eq_true rfl) (x_bw_in (x_t3 (i := 100) rfl) rfl) (x_bw_in (x_t1 (i := 2) rfl) rfl) (fun h => by cases h) (fun _ => ⟨(x_bw_in (x_t3 (i := 98) rfl) rfl), TX2, 15, rfl⟩) (fun _ _ => (x_bw_in (x_t3 (i := 99) rfl) rfl)) rk_cX2_holes
theorem dc_cX2_isHole_0 : ∀ r ∈ k_cX2_isHole_0, decode cX2_isHole r.1 = .ok (r.2.1, r.2.2.1) := x_wall_ok _ 0 [27, 155, 0, 15, 27, 42, 182, 0, 72, 162, 0, 7, 4, 167, 0, 4, 3, 172] (x_win_of (by decide +kernel)) (by decide +kernel)
theorem wc_cX2_isHole_0 : ∀ r ∈ k_cX2_isHole_0, x_okW x_mt M_cX2_isHole r := (x_al x_e_iload_n (x_al x_e_ifCond (x_al x_e_iload_n (x_al x_e_aload_n (x_al ⟨rfl, (Or.inr (Or.inr ⟨x_ab rfl, xk_RX2_72⟩))⟩ (x_al x_e_if_icmp (x_al x_e_iconst (x_al x_e_goto (x_al x_e_iconst (x_al x_e_ireturn x_an))))))))))
set_option maxRecDepth 20000 in
theorem rk_cX2_isHole : ∀ q ∈ x_rws M_cX2_isHole, ∀ r ∈ q.2, x_okR x_mt M_cX2_isHole r := x_okRs (x_al (x_dec rfl dc_cX2_isHole_0) x_an) (x_al wc_cX2_isHole_0 x_an)
theorem ok_cX2_isHole : x_okM x_mt M_cX2_isHole := x_okMk (plainFor_of_name xN_RX2) rfl xV_RX2 (Nat.le_of_ble_eq_true rfl) (x_bw_in (x_t3 (i := 96) rfl) rfl) (x_bw_in (x_t1 (i := 2) rfl) rfl) (fun h => by cases h) (fun _ => ⟨(x_bw_in (x_t3 (i := 94) rfl) rfl), TX2, 15, rfl⟩) (fun _ _ => (x_bw_in (x_t3 (i := 95) rfl) rfl)) rk_cX2_isHole
theorem dc_cX2_isTick_0 : ∀ r ∈ k_cX2_isTick_0, decode cX2_isTick r.1 = .ok (r.2.1, r.2.2.1) := x_wall_ok _ 0 [27, 155, 0, 15, 27, 42, 180, 0, 38, 162, 0, 7, 4, 167, 0, 4, 3, 172] (x_win_of (by decide +kernel)) (by decide +kernel)
theorem wc_cX2_isTick_0 : ∀ r ∈ k_cX2_isTick_0, x_okW x_mt M_cX2_isTick r := (x_al x_e_iload_n (x_al x_e_ifCond (x_al x_e_iload_n (x_al x_e_aload_n (x_al ⟨rfl, xf_RX2_38⟩ (x_al x_e_if_icmp (x_al x_e_iconst (x_al x_e_goto (x_al x_e_iconst (x_al x_e_ireturn x_an))))))))))
set_option maxRecDepth 20000 in
theorem rk_cX2_isTick : ∀ q ∈ x_rws M_cX2_isTick, ∀ r ∈ q.2, x_okR x_mt M_cX2_isTick r := x_okRs (x_al (x_dec rfl dc_cX2_isTick_0) x_an) (x_al wc_cX2_isTick_0 x_an)
theorem ok_cX2_isTick : x_okM x_mt M_cX2_isTick := x_okMk (plainFor_of_name xN_RX2) rfl xV_RX2 (Nat.le_of_ble_eq_true rfl) (x_bw_in (x_t3 (i := 84) rfl) rfl) (x_bw_in (x_t1 (i := 2) rfl) rfl) (fun h => by cases h) (fun _ => ⟨(x_bw_in (x_t3 (i := 82) rfl) rfl), TX2, 15, rfl⟩) (fun _ _ => (x_bw_in (x_t3 (i := 83) rfl) rfl)) rk_cX2_isTick
theorem dc_cX2_isPlayer_0 : ∀ r ∈ k_cX2_isPlayer_0, decode cX2_isPlayer r.1 = .ok (r.2.1, r.2.2.1) := x_wall_ok _ 0 [27, 155, 0, 15, 27, 42, 180, 0, 47, 162, 0, 7, 4, 167, 0, 4, 3, 172] (x_win_of (by decide +kernel)) (by decide +kernel)
theorem wc_cX2_isPlayer_0 : ∀ r ∈ k_cX2_isPlayer_0, x_okW x_mt M_cX2_isPlayer r := (x_al x_e_iload_n (x_al x_e_ifCond (x_al x_e_iload_n (x_al x_e_aload_n (x_al ⟨rfl, xf_RX2_47⟩ (x_al x_e_if_icmp (x_al x_e_iconst (x_al x_e_goto (x_al x_e_iconst (x_al x_e_ireturn x_an))))))))))
set_option maxRecDepth 20000 in
theorem rk_cX2_isPlayer : ∀ q ∈ x_rws M_cX2_isPlayer, ∀ r ∈ q.2, x_okR x_mt M_cX2_isPlayer r := x_okRs (x_al (x_dec rfl dc_cX2_isPlayer_0) x_an) (x_al wc_cX2_isPlayer_0 x_an)
theorem ok_cX2_isPlayer : x_okM x_mt M_cX2_isPlayer := x_okMk (plainFor_of_name xN_RX2) rfl xV_RX2 (Nat.le_of_ble_eq_true rfl) (x_bw_in (x_t3 (i := 165) rfl) rfl) (x_bw_in (x_t1 (i := 2) rfl) rfl) (fun h => by cases h) (fun _ => ⟨(x_bw_in (x_t3 (i := 163) rfl) rfl), TX2, 15, rfl⟩) (fun _ _ => (x_bw_in (x_t3 (i := 164) rfl) rfl)) rk_cX2_isPlayer
theorem dc_cX2_isShut_0 : ∀ r ∈ k_cX2_isShut_0, decode cX2_isShut r.1 = .ok (r.2.1, r.2.2.1) := x_wall_ok _ 0 [42, 180, 0, 44, 27, 122, 4, 126, 153, 0, 7, 4, 167, 0, 4, 3, 172] (x_win_of (by decide +kernel)) (by decide +kernel)
theorem wc_cX2_isShut_0 : ∀ r ∈ k_cX2_isShut_0, x_okW x_mt M_cX2_isShut r := (x_al x_e_aload_n (x_al ⟨rfl, xf_RX2_44⟩ (x_al x_e_iload_n (x_al x_e_ishr (x_al x_e_iconst (x_al x_e_iand (x_al x_e_ifCond (x_al x_e_iconst (x_al x_e_goto (x_al x_e_iconst (x_al x_e_ireturn x_an)))))))))))
set_option maxRecDepth 20000 in
theorem rk_cX2_isShut : ∀ q ∈ x_rws M_cX2_isShut, ∀ r ∈ q.2, x_okR x_mt M_cX2_isShut r := x_okRs (x_al (x_dec rfl dc_cX2_isShut_0) x_an) (x_al wc_cX2_isShut_0 x_an)
theorem ok_cX2_isShut : x_okM x_mt M_cX2_isShut := x_okMk (plainFor_of_name xN_RX2) rfl xV_RX2 (Nat.le_of_ble_eq_true rfl) (x_bw_in (x_t3 (i := 104) rfl) rfl) (x_bw_in (x_t1 (i := 2) rfl) rfl) (fun h => by cases h) (fun _ => ⟨(x_bw_in (x_t3 (i := 102) rfl) rfl), TX2, 15, rfl⟩) (fun _ _ => (x_bw_in (x_t3 (i := 103) rfl) rfl)) rk_cX2_isShut
theorem dc_cX2_openHoles_0 : ∀ r ∈ k_cX2_openHoles_0, decode cX2_openHoles r.1 = .ok (r.2.1, r.2.2.1) := x_wall_ok _ 0 [42, 182, 0, 72, 42, 180, 0, 44, 184, 0, 76, 100, 172] (x_win_of (by decide +kernel)) (by decide +kernel)
theorem wc_cX2_openHoles_0 : ∀ r ∈ k_cX2_openHoles_0, x_okW x_mt M_cX2_openHoles r := (x_al x_e_aload_n (x_al ⟨rfl, (Or.inr (Or.inr ⟨x_ab rfl, xk_RX2_72⟩))⟩ (x_al x_e_aload_n (x_al ⟨rfl, xf_RX2_44⟩ (x_al ⟨rfl, (Or.inr (Or.inr (Or.inr (Or.inr ⟨x_ab rfl, xk_RX2_76⟩))))⟩ (x_al x_e_isub (x_al x_e_ireturn x_an)))))))
set_option maxRecDepth 20000 in
theorem rk_cX2_openHoles : ∀ q ∈ x_rws M_cX2_openHoles, ∀ r ∈ q.2, x_okR x_mt M_cX2_openHoles r := x_okRs (x_al (x_dec rfl dc_cX2_openHoles_0) x_an) (x_al wc_cX2_openHoles_0 x_an)
theorem ok_cX2_openHoles : x_okM x_mt M_cX2_openHoles := x_okMk (plainFor_of_name xN_RX2) rfl xV_RX2 (Nat.le_of_ble_eq_true rfl) (x_bw_in (x_t4 (i := 186) rfl) rfl) (x_bw_in (x_t1 (i := 2) rfl) rfl) (fun h => by cases h) (fun _ => ⟨(x_bw_in (x_t4 (i := 184) rfl) rfl), TX2, 15, rfl⟩) (fun _ _ => (x_bw_in (x_t4 (i := 185) rfl) rfl)) rk_cX2_openHoles
theorem dc_cX2_apart_0 : ∀ r ∈ k_cX2_apart_0, decode cX2_apart r.1 = .ok (r.2.1, r.2.2.1) := x_wall_ok _ 0 [42, 180, 0, 32, 157, 0, 5, 3, 172, 27, 42, 180, 0, 32, 108, 28, 42, 180, 0, 32, 108, 100, 184, 0, 82, 27, 42, 180, 0, 32, 112, 28, 42, 180, 0, 32, 112, 100, 184, 0, 82, 96, 172] (x_win_of (by decide +kernel)) (by decide +kernel)
theorem wc_cX2_apart_0 : ∀ r ∈ k_cX2_apart_0, x_okW x_mt M_cX2_apart r := (x_al x_e_aload_n (x_al ⟨rfl, xf_RX2_32⟩ (x_al x_e_ifCond (x_al x_e_iconst (x_al x_e_ireturn (x_al x_e_iload_n (x_al x_e_aload_n (x_al ⟨rfl, xf_RX2_32⟩ (x_al x_e_idiv (x_al x_e_iload_n (x_al x_e_aload_n (x_al ⟨rfl, xf_RX2_32⟩ (x_al x_e_idiv (x_al x_e_isub (x_al ⟨rfl, (Or.inr (Or.inr (Or.inl ⟨rfl, xo_RX2_82, x_mabs⟩)))⟩ (x_al x_e_iload_n (x_al x_e_aload_n (x_al ⟨rfl, xf_RX2_32⟩ (x_al x_e_irem (x_al x_e_iload_n (x_al x_e_aload_n (x_al ⟨rfl, xf_RX2_32⟩ (x_al x_e_irem (x_al x_e_isub (x_al ⟨rfl, (Or.inr (Or.inr (Or.inl ⟨rfl, xo_RX2_82, x_mabs⟩)))⟩ (x_al x_e_iadd (x_al x_e_ireturn x_an)))))))))))))))))))))))))))
set_option maxRecDepth 20000 in
theorem rk_cX2_apart : ∀ q ∈ x_rws M_cX2_apart, ∀ r ∈ q.2, x_okR x_mt M_cX2_apart r := x_okRs (x_al (x_dec rfl dc_cX2_apart_0) x_an) (x_al wc_cX2_apart_0 x_an)
theorem ok_cX2_apart : x_okM x_mt M_cX2_apart := x_okMk (plainFor_of_name xN_RX2) rfl xV_RX2 (Nat.le_of_ble_eq_true rfl) (x_bw_in (x_t4 (i := 11) rfl) rfl) (x_bw_in (x_t1 (i := 2) rfl) rfl) (fun h => by cases h) (fun _ => ⟨(x_bw_in (x_t4 (i := 9) rfl) rfl), TX2, 15, rfl⟩) (fun _ _ => (x_bw_in (x_t4 (i := 10) rfl) rfl)) rk_cX2_apart
theorem dc_cX2_stepsToAll_0 : ∀ r ∈ k_cX2_stepsToAll_0, decode cX2_stepsToAll r.1 = .ok (r.2.1, r.2.2.1) := x_wall_ok _ 0 [3, 61, 3, 62, 29, 42, 182, 0, 72, 162, 0, 26, 42, 29, 182, 0, 87, 154, 0, 12, 28, 42, 27, 29, 182, 0, 91, 96, 61, 132, 3, 1, 167, 255, 228, 28, 172] (x_win_of (by decide +kernel)) (by decide +kernel)
theorem wc_cX2_stepsToAll_0 : ∀ r ∈ k_cX2_stepsToAll_0, x_okW x_mt M_cX2_stepsToAll r := (x_al x_e_iconst (x_al ⟨rfl, (Nat.le_of_ble_eq_true rfl)⟩ (x_al x_e_iconst (x_al ⟨rfl, (Nat.le_of_ble_eq_true rfl)⟩ (x_al x_e_iload_n (x_al x_e_aload_n (x_al ⟨rfl, (Or.inr (Or.inr ⟨x_ab rfl, xk_RX2_72⟩))⟩ (x_al x_e_if_icmp (x_al x_e_aload_n (x_al x_e_iload_n (x_al ⟨rfl, (Or.inr (Or.inr ⟨x_ab rfl, xk_RX2_87⟩))⟩ (x_al x_e_ifCond (x_al x_e_iload_n (x_al x_e_aload_n (x_al x_e_iload_n (x_al x_e_iload_n (x_al ⟨rfl, (Or.inr (Or.inr ⟨x_ab rfl, xk_RX2_91⟩))⟩ (x_al x_e_iadd (x_al ⟨rfl, (Nat.le_of_ble_eq_true rfl)⟩ (x_al ⟨rfl, (Nat.le_of_ble_eq_true rfl)⟩ (x_al x_e_goto (x_al x_e_iload_n (x_al x_e_ireturn x_an)))))))))))))))))))))))
set_option maxRecDepth 20000 in
theorem rk_cX2_stepsToAll : ∀ q ∈ x_rws M_cX2_stepsToAll, ∀ r ∈ q.2, x_okR x_mt M_cX2_stepsToAll r := x_okRs (x_al (x_dec rfl dc_cX2_stepsToAll_0) x_an) (x_al wc_cX2_stepsToAll_0 x_an)
theorem ok_cX2_stepsToAll : x_okM x_mt M_cX2_stepsToAll := x_okMk (plainFor_of_name xN_RX2) rfl xV_RX2 (Nat.le_of_ble_eq_true rfl) (x_bw_in (x_t4 (i := 191) rfl) rfl) (x_bw_in (x_t1 (i := 2) rfl) rfl) (fun h => by cases h) (fun _ => ⟨(x_bw_in (x_t4 (i := 189) rfl) rfl), TX2, 15, rfl⟩) (fun _ _ => (x_bw_in (x_t4 (i := 190) rfl) rfl)) rk_cX2_stepsToAll
theorem dc_cX2_pathRound_0 : ∀ r ∈ k_cX2_pathRound_0, decode cX2_pathRound r.1 = .ok (r.2.1, r.2.2.1) := x_wall_ok _ 0 [3, 60, 3, 61, 28, 42, 180, 0, 24, 180, 0, 95, 162, 0, 34, 27, 42, 42, 180, 0, 24, 28, 182, 0, 98, 42, 180, 0, 24, 28, 4, 96, 182, 0, 98, 182, 0, 91, 96, 60, 132, 2, 1, 167, 255, 217, 27, 172] (x_win_of (by decide +kernel)) (by decide +kernel)
theorem wc_cX2_pathRound_0 : ∀ r ∈ k_cX2_pathRound_0, x_okW x_mt M_cX2_pathRound r := (x_al x_e_iconst (x_al ⟨rfl, (Nat.le_of_ble_eq_true rfl)⟩ (x_al x_e_iconst (x_al ⟨rfl, (Nat.le_of_ble_eq_true rfl)⟩ (x_al x_e_iload_n (x_al x_e_aload_n (x_al ⟨rfl, xf_RX2_24⟩ (x_al ⟨rfl, xf_RX2_95⟩ (x_al x_e_if_icmp (x_al x_e_iload_n (x_al x_e_aload_n (x_al x_e_aload_n (x_al ⟨rfl, xf_RX2_24⟩ (x_al x_e_iload_n (x_al ⟨rfl, (Or.inr (Or.inr ⟨x_ab rfl, xk_RX2_98⟩))⟩ (x_al x_e_aload_n (x_al ⟨rfl, xf_RX2_24⟩ (x_al x_e_iload_n (x_al x_e_iconst (x_al x_e_iadd (x_al ⟨rfl, (Or.inr (Or.inr ⟨x_ab rfl, xk_RX2_98⟩))⟩ (x_al ⟨rfl, (Or.inr (Or.inr ⟨x_ab rfl, xk_RX2_91⟩))⟩ (x_al x_e_iadd (x_al ⟨rfl, (Nat.le_of_ble_eq_true rfl)⟩ (x_al ⟨rfl, (Nat.le_of_ble_eq_true rfl)⟩ (x_al x_e_goto (x_al x_e_iload_n (x_al x_e_ireturn x_an))))))))))))))))))))))))))))
set_option maxRecDepth 20000 in
theorem rk_cX2_pathRound : ∀ q ∈ x_rws M_cX2_pathRound, ∀ r ∈ q.2, x_okR x_mt M_cX2_pathRound r := x_okRs (x_al (x_dec rfl dc_cX2_pathRound_0) x_an) (x_al wc_cX2_pathRound_0 x_an)
theorem ok_cX2_pathRound : x_okM x_mt M_cX2_pathRound := x_okMk (plainFor_of_name xN_RX2) rfl xV_RX2 (Nat.le_of_ble_eq_true rfl) (x_bw_in (x_t5 (i := 212) rfl) rfl) (x_bw_in (x_t1 (i := 2) rfl) rfl) (fun h => by cases h) (fun _ => ⟨(x_bw_in (x_t5 (i := 210) rfl) rfl), TX2, 15, rfl⟩) (fun _ _ => (x_bw_in (x_t5 (i := 211) rfl) rfl)) rk_cX2_pathRound
theorem dc_cX2_stayIn_1 : ∀ r ∈ k_cX2_stayIn_1, decode cX2_stayIn r.1 = .ok (r.2.1, r.2.2.1) := x_wall_ok _ 55 [132, 4, 1, 167, 255, 206, 29, 172] (x_win_of (by decide +kernel)) (by decide +kernel)
theorem wc_cX2_stayIn_1 : ∀ r ∈ k_cX2_stayIn_1, x_okW x_mt M_cX2_stayIn r := (x_al ⟨rfl, (Nat.le_of_ble_eq_true rfl)⟩ (x_al x_e_goto (x_al x_e_iload_n (x_al x_e_ireturn x_an))))
theorem dc_cX2_stayIn_0 : ∀ r ∈ k_cX2_stayIn_0, decode cX2_stayIn r.1 = .ok (r.2.1, r.2.2.1) := x_wall_ok _ 0 [2, 61, 16, 7, 62, 3, 54, 4, 21, 4, 42, 180, 0, 56, 162, 0, 47, 42, 180, 0, 9, 21, 4, 46, 27, 163, 0, 30, 42, 180, 0, 9, 21, 4, 46, 28, 164, 0, 19, 42, 180, 0, 9, 21, 4, 46, 61, 42, 180, 0, 15, 21, 4, 46, 62] (x_win_of (by decide +kernel)) (by decide +kernel)
theorem wc_cX2_stayIn_0 : ∀ r ∈ k_cX2_stayIn_0, x_okW x_mt M_cX2_stayIn r := (x_al x_e_iconst (x_al ⟨rfl, (Nat.le_of_ble_eq_true rfl)⟩ (x_al x_e_bipush (x_al ⟨rfl, (Nat.le_of_ble_eq_true rfl)⟩ (x_al x_e_iconst (x_al ⟨rfl, (Nat.le_of_ble_eq_true rfl)⟩ (x_al x_e_iload (x_al x_e_aload_n (x_al ⟨rfl, xf_RX2_56⟩ (x_al x_e_if_icmp (x_al x_e_aload_n (x_al ⟨rfl, xf_RX2_9⟩ (x_al x_e_iload (x_al x_e_iaload (x_al x_e_iload_n (x_al x_e_if_icmp (x_al x_e_aload_n (x_al ⟨rfl, xf_RX2_9⟩ (x_al x_e_iload (x_al x_e_iaload (x_al x_e_iload_n (x_al x_e_if_icmp (x_al x_e_aload_n (x_al ⟨rfl, xf_RX2_9⟩ (x_al x_e_iload (x_al x_e_iaload (x_al ⟨rfl, (Nat.le_of_ble_eq_true rfl)⟩ (x_al x_e_aload_n (x_al ⟨rfl, xf_RX2_15⟩ (x_al x_e_iload (x_al x_e_iaload (x_al ⟨rfl, (Nat.le_of_ble_eq_true rfl)⟩ x_an))))))))))))))))))))))))))))))))
set_option maxRecDepth 20000 in
theorem rk_cX2_stayIn : ∀ q ∈ x_rws M_cX2_stayIn, ∀ r ∈ q.2, x_okR x_mt M_cX2_stayIn r := x_okRs (x_al (x_dec rfl dc_cX2_stayIn_0) (x_al (x_dec rfl dc_cX2_stayIn_1) x_an)) (x_al wc_cX2_stayIn_0 (x_al wc_cX2_stayIn_1 x_an))
theorem ok_cX2_stayIn : x_okM x_mt M_cX2_stayIn := x_okMk (plainFor_of_name xN_RX2) rfl xV_RX2 (Nat.le_of_ble_eq_true rfl) (x_bw_in (x_t3 (i := 178) rfl) rfl) (x_bw_in (x_t1 (i := 2) rfl) rfl) (fun h => by cases h) (fun _ => ⟨(x_bw_in (x_t3 (i := 176) rfl) rfl), TX2, 15, rfl⟩) (fun _ _ => (x_bw_in (x_t3 (i := 177) rfl) rfl)) rk_cX2_stayIn
theorem dc_cX2_hasStayFrom_0 : ∀ r ∈ k_cX2_hasStayFrom_0, decode cX2_hasStayFrom r.1 = .ok (r.2.1, r.2.2.1) := x_wall_ok _ 0 [3, 61, 28, 42, 180, 0, 56, 162, 0, 21, 42, 180, 0, 9, 28, 46, 27, 160, 0, 5, 4, 172, 132, 2, 1, 167, 255, 233, 3, 172] (x_win_of (by decide +kernel)) (by decide +kernel)
theorem wc_cX2_hasStayFrom_0 : ∀ r ∈ k_cX2_hasStayFrom_0, x_okW x_mt M_cX2_hasStayFrom r := (x_al x_e_iconst (x_al ⟨rfl, (Nat.le_of_ble_eq_true rfl)⟩ (x_al x_e_iload_n (x_al x_e_aload_n (x_al ⟨rfl, xf_RX2_56⟩ (x_al x_e_if_icmp (x_al x_e_aload_n (x_al ⟨rfl, xf_RX2_9⟩ (x_al x_e_iload_n (x_al x_e_iaload (x_al x_e_iload_n (x_al x_e_if_icmp (x_al x_e_iconst (x_al x_e_ireturn (x_al ⟨rfl, (Nat.le_of_ble_eq_true rfl)⟩ (x_al x_e_goto (x_al x_e_iconst (x_al x_e_ireturn x_an))))))))))))))))))
set_option maxRecDepth 20000 in
theorem rk_cX2_hasStayFrom : ∀ q ∈ x_rws M_cX2_hasStayFrom, ∀ r ∈ q.2, x_okR x_mt M_cX2_hasStayFrom r := x_okRs (x_al (x_dec rfl dc_cX2_hasStayFrom_0) x_an) (x_al wc_cX2_hasStayFrom_0 x_an)
theorem ok_cX2_hasStayFrom : x_okM x_mt M_cX2_hasStayFrom := x_okMk (plainFor_of_name xN_RX2) rfl xV_RX2 (Nat.le_of_ble_eq_true rfl) (x_bw_in (x_t3 (i := 88) rfl) rfl) (x_bw_in (x_t1 (i := 2) rfl) rfl) (fun h => by cases h) (fun _ => ⟨(x_bw_in (x_t3 (i := 86) rfl) rfl), TX2, 15, rfl⟩) (fun _ _ => (x_bw_in (x_t3 (i := 87) rfl) rfl)) rk_cX2_hasStayFrom
theorem dc_cX2_setStay_1 : ∀ r ∈ k_cX2_setStay_1, decode cX2_setStay r.1 = .ok (r.2.1, r.2.2.1) := x_wall_ok _ 57 [42, 180, 0, 56, 27, 79, 42, 89, 180, 0, 56, 4, 96, 181, 0, 56, 177] (x_win_of (by decide +kernel)) (by decide +kernel)
theorem wc_cX2_setStay_1 : ∀ r ∈ k_cX2_setStay_1, x_okW x_mt M_cX2_setStay r := (x_al x_e_aload_n (x_al ⟨rfl, xf_RX2_56⟩ (x_al x_e_iload_n (x_al x_e_iastore (x_al x_e_aload_n (x_al x_e_dup (x_al ⟨rfl, xf_RX2_56⟩ (x_al x_e_iconst (x_al x_e_iadd (x_al ⟨rfl, (xp_RX2_56 _)⟩ (x_al x_e_return_ x_an)))))))))))
theorem dc_cX2_setStay_0 : ∀ r ∈ k_cX2_setStay_0, decode cX2_setStay r.1 = .ok (r.2.1, r.2.2.1) := x_wall_ok _ 0 [3, 62, 29, 42, 180, 0, 56, 162, 0, 27, 42, 180, 0, 9, 29, 46, 28, 160, 0, 11, 42, 180, 0, 15, 29, 27, 79, 177, 132, 3, 1, 167, 255, 227, 42, 180, 0, 56, 16, 6, 162, 0, 33, 42, 180, 0, 9, 42, 180, 0, 56, 28, 79, 42, 180, 0, 15] (x_win_of (by decide +kernel)) (by decide +kernel)
theorem wc_cX2_setStay_0 : ∀ r ∈ k_cX2_setStay_0, x_okW x_mt M_cX2_setStay r := (x_al x_e_iconst (x_al ⟨rfl, (Nat.le_of_ble_eq_true rfl)⟩ (x_al x_e_iload_n (x_al x_e_aload_n (x_al ⟨rfl, xf_RX2_56⟩ (x_al x_e_if_icmp (x_al x_e_aload_n (x_al ⟨rfl, xf_RX2_9⟩ (x_al x_e_iload_n (x_al x_e_iaload (x_al x_e_iload_n (x_al x_e_if_icmp (x_al x_e_aload_n (x_al ⟨rfl, xf_RX2_15⟩ (x_al x_e_iload_n (x_al x_e_iload_n (x_al x_e_iastore (x_al x_e_return_ (x_al ⟨rfl, (Nat.le_of_ble_eq_true rfl)⟩ (x_al x_e_goto (x_al x_e_aload_n (x_al ⟨rfl, xf_RX2_56⟩ (x_al x_e_bipush (x_al x_e_if_icmp (x_al x_e_aload_n (x_al ⟨rfl, xf_RX2_9⟩ (x_al x_e_aload_n (x_al ⟨rfl, xf_RX2_56⟩ (x_al x_e_iload_n (x_al x_e_iastore (x_al x_e_aload_n (x_al ⟨rfl, xf_RX2_15⟩ x_an))))))))))))))))))))))))))))))))
set_option maxRecDepth 20000 in
theorem rk_cX2_setStay : ∀ q ∈ x_rws M_cX2_setStay, ∀ r ∈ q.2, x_okR x_mt M_cX2_setStay r := x_okRs (x_al (x_dec rfl dc_cX2_setStay_0) (x_al (x_dec rfl dc_cX2_setStay_1) x_an)) (x_al wc_cX2_setStay_0 (x_al wc_cX2_setStay_1 x_an))
theorem ok_cX2_setStay : x_okM x_mt M_cX2_setStay := x_okMk (plainFor_of_name xN_RX2) rfl xV_RX2 (Nat.le_of_ble_eq_true rfl) (x_bw_in (x_t3 (i := 121) rfl) rfl) (x_bw_in (x_t1 (i := 2) rfl) rfl) (fun h => by cases h) (fun _ => ⟨(x_bw_in (x_t3 (i := 119) rfl) rfl), TX2, 15, rfl⟩) (fun _ _ => (x_bw_in (x_t3 (i := 120) rfl) rfl)) rk_cX2_setStay
theorem dc_cX2_trait_0 : ∀ r ∈ k_cX2_trait_0, decode cX2_trait r.1 = .ok (r.2.1, r.2.2.1) := x_wall_ok _ 0 [27, 8, 104, 28, 96, 62, 29, 155, 0, 21, 29, 42, 180, 0, 18, 190, 162, 0, 12, 42, 180, 0, 18, 29, 46, 167, 0, 4, 3, 172] (x_win_of (by decide +kernel)) (by decide +kernel)
theorem wc_cX2_trait_0 : ∀ r ∈ k_cX2_trait_0, x_okW x_mt M_cX2_trait r := (x_al x_e_iload_n (x_al x_e_iconst (x_al x_e_imul (x_al x_e_iload_n (x_al x_e_iadd (x_al ⟨rfl, (Nat.le_of_ble_eq_true rfl)⟩ (x_al x_e_iload_n (x_al x_e_ifCond (x_al x_e_iload_n (x_al x_e_aload_n (x_al ⟨rfl, xf_RX2_18⟩ (x_al x_e_arraylength (x_al x_e_if_icmp (x_al x_e_aload_n (x_al ⟨rfl, xf_RX2_18⟩ (x_al x_e_iload_n (x_al x_e_iaload (x_al x_e_goto (x_al x_e_iconst (x_al x_e_ireturn x_an))))))))))))))))))))
set_option maxRecDepth 20000 in
theorem rk_cX2_trait : ∀ q ∈ x_rws M_cX2_trait, ∀ r ∈ q.2, x_okR x_mt M_cX2_trait r := x_okRs (x_al (x_dec rfl dc_cX2_trait_0) x_an) (x_al wc_cX2_trait_0 x_an)
theorem ok_cX2_trait : x_okM x_mt M_cX2_trait := x_okMk (plainFor_of_name xN_RX2) rfl xV_RX2 (Nat.le_of_ble_eq_true rfl) (x_bw_in (x_t3 (i := 169) rfl) rfl) (x_bw_in (x_t1 (i := 2) rfl) rfl) (fun h => by cases h) (fun _ => ⟨(x_bw_in (x_t3 (i := 167) rfl) rfl), TX2, 15, rfl⟩) (fun _ _ => (x_bw_in (x_t3 (i := 168) rfl) rfl)) rk_cX2_trait
theorem dc_cX2_setTrait_0 : ∀ r ∈ k_cX2_setTrait_0, decode cX2_setTrait r.1 = .ok (r.2.1, r.2.2.1) := x_wall_ok _ 0 [27, 8, 104, 28, 96, 54, 4, 21, 4, 155, 0, 21, 21, 4, 42, 180, 0, 18, 190, 162, 0, 11, 42, 180, 0, 18, 21, 4, 29, 79, 177] (x_win_of (by decide +kernel)) (by decide +kernel)
theorem wc_cX2_setTrait_0 : ∀ r ∈ k_cX2_setTrait_0, x_okW x_mt M_cX2_setTrait r := (x_al x_e_iload_n (x_al x_e_iconst (x_al x_e_imul (x_al x_e_iload_n (x_al x_e_iadd (x_al ⟨rfl, (Nat.le_of_ble_eq_true rfl)⟩ (x_al x_e_iload (x_al x_e_ifCond (x_al x_e_iload (x_al x_e_aload_n (x_al ⟨rfl, xf_RX2_18⟩ (x_al x_e_arraylength (x_al x_e_if_icmp (x_al x_e_aload_n (x_al ⟨rfl, xf_RX2_18⟩ (x_al x_e_iload (x_al x_e_iload_n (x_al x_e_iastore (x_al x_e_return_ x_an)))))))))))))))))))
set_option maxRecDepth 20000 in
theorem rk_cX2_setTrait : ∀ q ∈ x_rws M_cX2_setTrait, ∀ r ∈ q.2, x_okR x_mt M_cX2_setTrait r := x_okRs (x_al (x_dec rfl dc_cX2_setTrait_0) x_an) (x_al wc_cX2_setTrait_0 x_an)
theorem ok_cX2_setTrait : x_okM x_mt M_cX2_setTrait := x_okMk (plainFor_of_name xN_RX2) rfl xV_RX2 (Nat.le_of_ble_eq_true rfl) (x_bw_in (x_t3 (i := 133) rfl) rfl) (x_bw_in (x_t1 (i := 2) rfl) rfl) (fun h => by cases h) (fun _ => ⟨(x_bw_in (x_t3 (i := 131) rfl) rfl), TX2, 15, rfl⟩) (fun _ _ => (x_bw_in (x_t3 (i := 132) rfl) rfl)) rk_cX2_setTrait
theorem dc_cX2_isTrait_1 : ∀ r ∈ k_cX2_isTrait_1, decode cX2_isTrait r.1 = .ok (r.2.1, r.2.2.1) := x_wall_ok _ 89 [28, 16, 9, 163, 0, 7, 4, 167, 0, 4, 3, 172, 42, 28, 182, 0, 101, 172, 3, 172] (x_win_of (by decide +kernel)) (by decide +kernel)
theorem wc_cX2_isTrait_1 : ∀ r ∈ k_cX2_isTrait_1, x_okW x_mt M_cX2_isTrait r := (x_al x_e_iload_n (x_al x_e_bipush (x_al x_e_if_icmp (x_al x_e_iconst (x_al x_e_goto (x_al x_e_iconst (x_al x_e_ireturn (x_al x_e_aload_n (x_al x_e_iload_n (x_al ⟨rfl, (Or.inr (Or.inr ⟨x_ab rfl, xk_RX2_101⟩))⟩ (x_al x_e_ireturn (x_al x_e_iconst (x_al x_e_ireturn x_an)))))))))))))
theorem dc_cX2_isTrait_0 : ∀ r ∈ k_cX2_isTrait_0, decode cX2_isTrait r.1 = .ok (r.2.1, r.2.2.1) := x_wall_ok _ 0 [27, 170, 0, 0, 0, 0, 0, 106, 0, 0, 0, 0, 0, 0, 0, 4, 0, 0, 0, 35, 0, 0, 0, 52, 0, 0, 0, 68, 0, 0, 0, 84, 0, 0, 0, 100, 28, 4, 161, 0, 13, 28, 16, 9, 163, 0, 7, 4, 167, 0, 4, 3, 172, 28, 155, 0, 13, 28, 16, 20, 163, 0, 7, 4, 167, 0, 4, 3, 172, 28, 155, 0, 13, 28, 16, 99, 163, 0, 7, 4, 167, 0, 4, 3, 172, 28, 155, 0, 13] (x_win_of (by decide +kernel)) (by decide +kernel)
theorem wc_cX2_isTrait_0 : ∀ r ∈ k_cX2_isTrait_0, x_okW x_mt M_cX2_isTrait r := (x_al x_e_iload_n (x_al ⟨trivial, trivial⟩ (x_al x_e_iload_n (x_al x_e_iconst (x_al x_e_if_icmp (x_al x_e_iload_n (x_al x_e_bipush (x_al x_e_if_icmp (x_al x_e_iconst (x_al x_e_goto (x_al x_e_iconst (x_al x_e_ireturn (x_al x_e_iload_n (x_al x_e_ifCond (x_al x_e_iload_n (x_al x_e_bipush (x_al x_e_if_icmp (x_al x_e_iconst (x_al x_e_goto (x_al x_e_iconst (x_al x_e_ireturn (x_al x_e_iload_n (x_al x_e_ifCond (x_al x_e_iload_n (x_al x_e_bipush (x_al x_e_if_icmp (x_al x_e_iconst (x_al x_e_goto (x_al x_e_iconst (x_al x_e_ireturn (x_al x_e_iload_n (x_al x_e_ifCond x_an))))))))))))))))))))))))))))))))
set_option maxRecDepth 20000 in
theorem rk_cX2_isTrait : ∀ q ∈ x_rws M_cX2_isTrait, ∀ r ∈ q.2, x_okR x_mt M_cX2_isTrait r := x_okRs (x_al (x_dec rfl dc_cX2_isTrait_0) (x_al (x_dec rfl dc_cX2_isTrait_1) x_an)) (x_al wc_cX2_isTrait_0 (x_al wc_cX2_isTrait_1 x_an))
theorem ok_cX2_isTrait : x_okM x_mt M_cX2_isTrait := x_okMk (plainFor_of_name xN_RX2) rfl xV_RX2 (Nat.le_of_ble_eq_true rfl) (x_bw_in (x_t3 (i := 112) rfl) rfl) (x_bw_in (x_t1 (i := 2) rfl) rfl) (fun h => by cases h) (fun _ => ⟨(x_bw_in (x_t3 (i := 110) rfl) rfl), TX2, 15, rfl⟩) (fun _ _ => (x_bw_in (x_t3 (i := 111) rfl) rfl)) rk_cX2_isTrait
theorem dc_cX2_lets_1 : ∀ r ∈ k_cX2_lets_1, decode cX2_lets r.1 = .ok (r.2.1, r.2.2.1) := x_wall_ok _ 55 [172] (x_win_of (by decide +kernel)) (by decide +kernel)
theorem wc_cX2_lets_1 : ∀ r ∈ k_cX2_lets_1, x_okW x_mt M_cX2_lets r := (x_al x_e_ireturn x_an)
theorem dc_cX2_lets_0 : ∀ r ∈ k_cX2_lets_0, decode cX2_lets r.1 = .ok (r.2.1, r.2.2.1) := x_wall_ok _ 0 [27, 153, 0, 8, 29, 2, 160, 0, 5, 4, 172, 27, 5, 160, 0, 20, 42, 29, 21, 4, 182, 0, 91, 4, 164, 0, 7, 4, 167, 0, 4, 3, 172, 21, 4, 29, 159, 0, 18, 27, 6, 160, 0, 9, 21, 4, 28, 159, 0, 7, 4, 167, 0, 4, 3] (x_win_of (by decide +kernel)) (by decide +kernel)
theorem wc_cX2_lets_0 : ∀ r ∈ k_cX2_lets_0, x_okW x_mt M_cX2_lets r := (x_al x_e_iload_n (x_al x_e_ifCond (x_al x_e_iload_n (x_al x_e_iconst (x_al x_e_if_icmp (x_al x_e_iconst (x_al x_e_ireturn (x_al x_e_iload_n (x_al x_e_iconst (x_al x_e_if_icmp (x_al x_e_aload_n (x_al x_e_iload_n (x_al x_e_iload (x_al ⟨rfl, (Or.inr (Or.inr ⟨x_ab rfl, xk_RX2_91⟩))⟩ (x_al x_e_iconst (x_al x_e_if_icmp (x_al x_e_iconst (x_al x_e_goto (x_al x_e_iconst (x_al x_e_ireturn (x_al x_e_iload (x_al x_e_iload_n (x_al x_e_if_icmp (x_al x_e_iload_n (x_al x_e_iconst (x_al x_e_if_icmp (x_al x_e_iload (x_al x_e_iload_n (x_al x_e_if_icmp (x_al x_e_iconst (x_al x_e_goto (x_al x_e_iconst x_an))))))))))))))))))))))))))))))))
set_option maxRecDepth 20000 in
theorem rk_cX2_lets : ∀ q ∈ x_rws M_cX2_lets, ∀ r ∈ q.2, x_okR x_mt M_cX2_lets r := x_okRs (x_al (x_dec rfl dc_cX2_lets_0) (x_al (x_dec rfl dc_cX2_lets_1) x_an)) (x_al wc_cX2_lets_0 (x_al wc_cX2_lets_1 x_an))
theorem ok_cX2_lets : x_okM x_mt M_cX2_lets := x_okMk (plainFor_of_name xN_RX2) rfl xV_RX2 (Nat.le_of_ble_eq_true rfl) (x_bw_in (x_t5 (i := 13) rfl) rfl) (x_bw_in (x_t1 (i := 2) rfl) rfl) (fun h => by cases h) (fun _ => ⟨(x_bw_in (x_t5 (i := 11) rfl) rfl), TX2, 15, rfl⟩) (fun _ _ => (x_bw_in (x_t5 (i := 12) rfl) rfl)) rk_cX2_lets
theorem xN_RX3 : plainName RX3 = true := by decide +kernel
theorem xV_RX3 : RX3 ≠ "java/lang/invoke/MethodHandle" ∧ RX3 ≠ "java/lang/invoke/VarHandle" := by decide +kernel
theorem dc_cX3_init_0 : ∀ r ∈ k_cX3_init_0, decode cX3_init r.1 = .ok (r.2.1, r.2.2.1) := x_wall_ok _ 0 [42, 183, 0, 3, 42, 16, 24, 188, 10, 181, 0, 9, 42, 16, 24, 188, 10, 181, 0, 15, 42, 16, 24, 188, 10, 181, 0, 18, 177] (x_win_of (by decide +kernel)) (by decide +kernel)
theorem wc_cX3_init_0 : ∀ r ∈ k_cX3_init_0, x_okW x_mt M_cX3_init r := (x_al x_e_aload_n (x_al ⟨rfl, (Or.inl ⟨rfl, xo_RX3_3, x_oi1, x_oi2⟩)⟩ (x_al x_e_aload_n (x_al x_e_bipush (x_al ⟨rfl, xn_int⟩ (x_al ⟨rfl, xp_RX3_9_cX3_init⟩ (x_al x_e_aload_n (x_al x_e_bipush (x_al ⟨rfl, xn_int⟩ (x_al ⟨rfl, xp_RX3_15_cX3_init⟩ (x_al x_e_aload_n (x_al x_e_bipush (x_al ⟨rfl, xn_int⟩ (x_al ⟨rfl, xp_RX3_18_cX3_init⟩ (x_al x_e_return_ x_an)))))))))))))))
set_option maxRecDepth 20000 in
theorem rk_cX3_init : ∀ q ∈ x_rws M_cX3_init, ∀ r ∈ q.2, x_okR x_mt M_cX3_init r := x_okRs (x_al (x_dec rfl dc_cX3_init_0) x_an) (x_al wc_cX3_init_0 x_an)
theorem ok_cX3_init : x_okM x_mt M_cX3_init := x_okMk (plainFor_of_name xN_RX3) rfl xV_RX3 (Nat.le_of_ble_eq_true rfl) (x_bw_in (x_t1 (i := 39) rfl) rfl) (x_bw_in (x_t1 (i := 3) rfl) rfl) (fun h => by cases h) (fun _ => ⟨(x_bw_in (x_t1 (i := 38) rfl) rfl), TX3, 5, rfl⟩) (fun _ h => absurd rfl h) rk_cX3_init
theorem dc_cX3_empty_0 : ∀ r ∈ k_cX3_empty_0, decode cX3_empty r.1 = .ok (r.2.1, r.2.2.1) := x_wall_ok _ 0 [42, 3, 181, 0, 21, 42, 3, 181, 0, 25, 177] (x_win_of (by decide +kernel)) (by decide +kernel)
theorem wc_cX3_empty_0 : ∀ r ∈ k_cX3_empty_0, x_okW x_mt M_cX3_empty r := (x_al x_e_aload_n (x_al x_e_iconst (x_al ⟨rfl, (xp_RX3_21 _)⟩ (x_al x_e_aload_n (x_al x_e_iconst (x_al ⟨rfl, (xp_RX3_25 _)⟩ (x_al x_e_return_ x_an)))))))
set_option maxRecDepth 20000 in
theorem rk_cX3_empty : ∀ q ∈ x_rws M_cX3_empty, ∀ r ∈ q.2, x_okR x_mt M_cX3_empty r := x_okRs (x_al (x_dec rfl dc_cX3_empty_0) x_an) (x_al wc_cX3_empty_0 x_an)
theorem ok_cX3_empty : x_okM x_mt M_cX3_empty := x_okMk (plainFor_of_name xN_RX3) rfl xV_RX3 (Nat.le_of_ble_eq_true rfl) (x_bw_in (x_t2 (i := 197) rfl) rfl) (x_bw_in (x_t1 (i := 3) rfl) rfl) (fun h => by cases h) (fun _ => ⟨(x_bw_in (x_t2 (i := 195) rfl) rfl), TX3, 5, rfl⟩) (fun _ _ => (x_bw_in (x_t2 (i := 196) rfl) rfl)) rk_cX3_empty
theorem dc_cX3_copy_1 : ∀ r ∈ k_cX3_copy_1, decode cX3_copy r.1 = .ok (r.2.1, r.2.2.1) := x_wall_ok _ 61 [177] (x_win_of (by decide +kernel)) (by decide +kernel)
theorem wc_cX3_copy_1 : ∀ r ∈ k_cX3_copy_1, x_okW x_mt M_cX3_copy r := (x_al x_e_return_ x_an)
theorem dc_cX3_copy_0 : ∀ r ∈ k_cX3_copy_0, decode cX3_copy r.1 = .ok (r.2.1, r.2.2.1) := x_wall_ok _ 0 [42, 43, 180, 0, 21, 181, 0, 21, 42, 43, 180, 0, 25, 181, 0, 25, 43, 180, 0, 9, 3, 42, 180, 0, 9, 3, 16, 24, 184, 0, 28, 43, 180, 0, 15, 3, 42, 180, 0, 15, 3, 16, 24, 184, 0, 28, 43, 180, 0, 18, 3, 42, 180, 0, 18, 3, 16, 24, 184, 0, 28] (x_win_of (by decide +kernel)) (by decide +kernel)
theorem wc_cX3_copy_0 : ∀ r ∈ k_cX3_copy_0, x_okW x_mt M_cX3_copy r := (x_al x_e_aload_n (x_al x_e_aload_n (x_al ⟨rfl, xf_RX3_21⟩ (x_al ⟨rfl, (xp_RX3_21 _)⟩ (x_al x_e_aload_n (x_al x_e_aload_n (x_al ⟨rfl, xf_RX3_25⟩ (x_al ⟨rfl, (xp_RX3_25 _)⟩ (x_al x_e_aload_n (x_al ⟨rfl, xf_RX3_9⟩ (x_al x_e_iconst (x_al x_e_aload_n (x_al ⟨rfl, xf_RX3_9⟩ (x_al x_e_iconst (x_al x_e_bipush (x_al ⟨rfl, (Or.inr (Or.inr (Or.inr (Or.inl ⟨Or.inl rfl, xo_RX3_28, x_ac⟩))))⟩ (x_al x_e_aload_n (x_al ⟨rfl, xf_RX3_15⟩ (x_al x_e_iconst (x_al x_e_aload_n (x_al ⟨rfl, xf_RX3_15⟩ (x_al x_e_iconst (x_al x_e_bipush (x_al ⟨rfl, (Or.inr (Or.inr (Or.inr (Or.inl ⟨Or.inl rfl, xo_RX3_28, x_ac⟩))))⟩ (x_al x_e_aload_n (x_al ⟨rfl, xf_RX3_18⟩ (x_al x_e_iconst (x_al x_e_aload_n (x_al ⟨rfl, xf_RX3_18⟩ (x_al x_e_iconst (x_al x_e_bipush (x_al ⟨rfl, (Or.inr (Or.inr (Or.inr (Or.inl ⟨Or.inl rfl, xo_RX3_28, x_ac⟩))))⟩ x_an))))))))))))))))))))))))))))))))
set_option maxRecDepth 20000 in
theorem rk_cX3_copy : ∀ q ∈ x_rws M_cX3_copy, ∀ r ∈ q.2, x_okR x_mt M_cX3_copy r := x_okRs (x_al (x_dec rfl dc_cX3_copy_0) (x_al (x_dec rfl dc_cX3_copy_1) x_an)) (x_al wc_cX3_copy_0 (x_al wc_cX3_copy_1 x_an))
theorem ok_cX3_copy : x_okM x_mt M_cX3_copy := x_okMk (plainFor_of_name xN_RX3) rfl xV_RX3 (Nat.le_of_ble_eq_true rfl) (x_bw_in (x_t3 (i := 144) rfl) rfl) (x_bw_in (x_t1 (i := 3) rfl) rfl) (fun h => by cases h) (fun _ => ⟨(x_bw_in (x_t3 (i := 142) rfl) rfl), TX3, 5, rfl⟩) (fun _ _ => (x_bw_in (x_t3 (i := 143) rfl) rfl)) rk_cX3_copy
theorem dc_cX3_has_0 : ∀ r ∈ k_cX3_has_0, decode cX3_has r.1 = .ok (r.2.1, r.2.2.1) := x_wall_ok _ 0 [27, 155, 0, 15, 27, 42, 180, 0, 21, 162, 0, 7, 4, 167, 0, 4, 3, 172] (x_win_of (by decide +kernel)) (by decide +kernel)
theorem wc_cX3_has_0 : ∀ r ∈ k_cX3_has_0, x_okW x_mt M_cX3_has r := (x_al x_e_iload_n (x_al x_e_ifCond (x_al x_e_iload_n (x_al x_e_aload_n (x_al ⟨rfl, xf_RX3_21⟩ (x_al x_e_if_icmp (x_al x_e_iconst (x_al x_e_goto (x_al x_e_iconst (x_al x_e_ireturn x_an))))))))))
set_option maxRecDepth 20000 in
theorem rk_cX3_has : ∀ q ∈ x_rws M_cX3_has, ∀ r ∈ q.2, x_okR x_mt M_cX3_has r := x_okRs (x_al (x_dec rfl dc_cX3_has_0) x_an) (x_al wc_cX3_has_0 x_an)
theorem ok_cX3_has : x_okM x_mt M_cX3_has := x_okMk (plainFor_of_name xN_RX3) rfl xV_RX3 (Nat.le_of_ble_eq_true rfl) (x_bw_in (x_t3 (i := 157) rfl) rfl) (x_bw_in (x_t1 (i := 3) rfl) rfl) (fun h => by cases h) (fun _ => ⟨(x_bw_in (x_t3 (i := 155) rfl) rfl), TX3, 5, rfl⟩) (fun _ _ => (x_bw_in (x_t3 (i := 156) rfl) rfl)) rk_cX3_has
theorem dc_cX3_add_0 : ∀ r ∈ k_cX3_add_0, decode cX3_add r.1 = .ok (r.2.1, r.2.2.1) := x_wall_ok _ 0 [42, 180, 0, 21, 16, 24, 162, 0, 43, 42, 180, 0, 9, 42, 180, 0, 21, 27, 79, 42, 180, 0, 15, 42, 180, 0, 21, 28, 79, 42, 180, 0, 18, 42, 180, 0, 21, 29, 79, 42, 89, 180, 0, 21, 4, 96, 181, 0, 21, 177] (x_win_of (by decide +kernel)) (by decide +kernel)
theorem wc_cX3_add_0 : ∀ r ∈ k_cX3_add_0, x_okW x_mt M_cX3_add r := (x_al x_e_aload_n (x_al ⟨rfl, xf_RX3_21⟩ (x_al x_e_bipush (x_al x_e_if_icmp (x_al x_e_aload_n (x_al ⟨rfl, xf_RX3_9⟩ (x_al x_e_aload_n (x_al ⟨rfl, xf_RX3_21⟩ (x_al x_e_iload_n (x_al x_e_iastore (x_al x_e_aload_n (x_al ⟨rfl, xf_RX3_15⟩ (x_al x_e_aload_n (x_al ⟨rfl, xf_RX3_21⟩ (x_al x_e_iload_n (x_al x_e_iastore (x_al x_e_aload_n (x_al ⟨rfl, xf_RX3_18⟩ (x_al x_e_aload_n (x_al ⟨rfl, xf_RX3_21⟩ (x_al x_e_iload_n (x_al x_e_iastore (x_al x_e_aload_n (x_al x_e_dup (x_al ⟨rfl, xf_RX3_21⟩ (x_al x_e_iconst (x_al x_e_iadd (x_al ⟨rfl, (xp_RX3_21 _)⟩ (x_al x_e_return_ x_an)))))))))))))))))))))))))))))
set_option maxRecDepth 20000 in
theorem rk_cX3_add : ∀ q ∈ x_rws M_cX3_add, ∀ r ∈ q.2, x_okR x_mt M_cX3_add r := x_okRs (x_al (x_dec rfl dc_cX3_add_0) x_an) (x_al wc_cX3_add_0 x_an)
theorem ok_cX3_add : x_okM x_mt M_cX3_add := x_okMk (plainFor_of_name xN_RX3) rfl xV_RX3 (Nat.le_of_ble_eq_true rfl) (x_bw_in (x_t3 (i := 125) rfl) rfl) (x_bw_in (x_t1 (i := 3) rfl) rfl) (fun h => by cases h) (fun _ => ⟨(x_bw_in (x_t3 (i := 123) rfl) rfl), TX3, 5, rfl⟩) (fun _ _ => (x_bw_in (x_t3 (i := 124) rfl) rfl)) rk_cX3_add
theorem dc_cX3_exchange_0 : ∀ r ∈ k_cX3_exchange_0, decode cX3_exchange r.1 = .ok (r.2.1, r.2.2.1) := x_wall_ok _ 0 [42, 27, 182, 0, 34, 153, 0, 38, 42, 28, 182, 0, 34, 153, 0, 30, 42, 180, 0, 9, 27, 28, 184, 0, 38, 42, 180, 0, 15, 27, 28, 184, 0, 38, 42, 180, 0, 18, 27, 28, 184, 0, 38, 177] (x_win_of (by decide +kernel)) (by decide +kernel)
theorem wc_cX3_exchange_0 : ∀ r ∈ k_cX3_exchange_0, x_okW x_mt M_cX3_exchange r := (x_al x_e_aload_n (x_al x_e_iload_n (x_al ⟨rfl, (Or.inr (Or.inr ⟨x_ab rfl, xk_RX3_34⟩))⟩ (x_al x_e_ifCond (x_al x_e_aload_n (x_al x_e_iload_n (x_al ⟨rfl, (Or.inr (Or.inr ⟨x_ab rfl, xk_RX3_34⟩))⟩ (x_al x_e_ifCond (x_al x_e_aload_n (x_al ⟨rfl, xf_RX3_9⟩ (x_al x_e_iload_n (x_al x_e_iload_n (x_al ⟨rfl, (Or.inr (Or.inr (Or.inr (Or.inr ⟨x_ab rfl, xk_RX3_38⟩))))⟩ (x_al x_e_aload_n (x_al ⟨rfl, xf_RX3_15⟩ (x_al x_e_iload_n (x_al x_e_iload_n (x_al ⟨rfl, (Or.inr (Or.inr (Or.inr (Or.inr ⟨x_ab rfl, xk_RX3_38⟩))))⟩ (x_al x_e_aload_n (x_al ⟨rfl, xf_RX3_18⟩ (x_al x_e_iload_n (x_al x_e_iload_n (x_al ⟨rfl, (Or.inr (Or.inr (Or.inr (Or.inr ⟨x_ab rfl, xk_RX3_38⟩))))⟩ (x_al x_e_return_ x_an))))))))))))))))))))))))
set_option maxRecDepth 20000 in
theorem rk_cX3_exchange : ∀ q ∈ x_rws M_cX3_exchange, ∀ r ∈ q.2, x_okR x_mt M_cX3_exchange r := x_okRs (x_al (x_dec rfl dc_cX3_exchange_0) x_an) (x_al wc_cX3_exchange_0 x_an)
theorem ok_cX3_exchange : x_okM x_mt M_cX3_exchange := x_okMk (plainFor_of_name xN_RX3) rfl xV_RX3 (Nat.le_of_ble_eq_true rfl) (x_bw_in (x_t5 (i := 221) rfl) rfl) (x_bw_in (x_t1 (i := 3) rfl) rfl) (fun h => by cases h) (fun _ => ⟨(x_bw_in (x_t5 (i := 219) rfl) rfl), TX3, 5, rfl⟩) (fun _ _ => (x_bw_in (x_t5 (i := 220) rfl) rfl)) rk_cX3_exchange
theorem dc_cX3_exchangeIn_0 : ∀ r ∈ k_cX3_exchangeIn_0, decode cX3_exchangeIn r.1 = .ok (r.2.1, r.2.2.1) := x_wall_ok _ 0 [42, 27, 46, 62, 42, 27, 42, 28, 46, 79, 42, 28, 29, 79, 177] (x_win_of (by decide +kernel)) (by decide +kernel)
theorem wc_cX3_exchangeIn_0 : ∀ r ∈ k_cX3_exchangeIn_0, x_okW x_mt M_cX3_exchangeIn r := (x_al x_e_aload_n (x_al x_e_iload_n (x_al x_e_iaload (x_al ⟨rfl, (Nat.le_of_ble_eq_true rfl)⟩ (x_al x_e_aload_n (x_al x_e_iload_n (x_al x_e_aload_n (x_al x_e_iload_n (x_al x_e_iaload (x_al x_e_iastore (x_al x_e_aload_n (x_al x_e_iload_n (x_al x_e_iload_n (x_al x_e_iastore (x_al x_e_return_ x_an)))))))))))))))
set_option maxRecDepth 20000 in
theorem rk_cX3_exchangeIn : ∀ q ∈ x_rws M_cX3_exchangeIn, ∀ r ∈ q.2, x_okR x_mt M_cX3_exchangeIn r := x_okRs (x_al (x_dec rfl dc_cX3_exchangeIn_0) x_an) (x_al wc_cX3_exchangeIn_0 x_an)
theorem ok_cX3_exchangeIn : x_okM x_mt M_cX3_exchangeIn := x_okMk (plainFor_of_name xN_RX3) rfl xV_RX3 (Nat.le_of_ble_eq_true rfl) (x_bw_in (x_t5 (i := 225) rfl) rfl) (x_bw_in (x_t1 (i := 3) rfl) rfl) (fun _ => (x_bw_in (x_t5 (i := 224) rfl) rfl)) (fun h => by cases h) (fun h => by cases h) rk_cX3_exchangeIn
theorem dc_cX3_round_0 : ∀ r ∈ k_cX3_round_0, decode cX3_round r.1 = .ok (r.2.1, r.2.2.1) := x_wall_ok _ 0 [42, 180, 0, 21, 158, 0, 19, 42, 180, 0, 9, 27, 42, 180, 0, 21, 184, 0, 42, 46, 167, 0, 4, 2, 172] (x_win_of (by decide +kernel)) (by decide +kernel)
theorem wc_cX3_round_0 : ∀ r ∈ k_cX3_round_0, x_okW x_mt M_cX3_round r := (x_al x_e_aload_n (x_al ⟨rfl, xf_RX3_21⟩ (x_al x_e_ifCond (x_al x_e_aload_n (x_al ⟨rfl, xf_RX3_9⟩ (x_al x_e_iload_n (x_al x_e_aload_n (x_al ⟨rfl, xf_RX3_21⟩ (x_al ⟨rfl, (Or.inr (Or.inr (Or.inr (Or.inr ⟨x_ab rfl, xk_RX3_42⟩))))⟩ (x_al x_e_iaload (x_al x_e_goto (x_al x_e_iconst (x_al x_e_ireturn x_an)))))))))))))
set_option maxRecDepth 20000 in
theorem rk_cX3_round : ∀ q ∈ x_rws M_cX3_round, ∀ r ∈ q.2, x_okR x_mt M_cX3_round r := x_okRs (x_al (x_dec rfl dc_cX3_round_0) x_an) (x_al wc_cX3_round_0 x_an)
theorem ok_cX3_round : x_okM x_mt M_cX3_round := x_okMk (plainFor_of_name xN_RX3) rfl xV_RX3 (Nat.le_of_ble_eq_true rfl) (x_bw_in (x_t5 (i := 45) rfl) rfl) (x_bw_in (x_t1 (i := 3) rfl) rfl) (fun h => by cases h) (fun _ => ⟨(x_bw_in (x_t5 (i := 43) rfl) rfl), TX3, 5, rfl⟩) (fun _ _ => (x_bw_in (x_t5 (i := 44) rfl) rfl)) rk_cX3_round
theorem dc_cX3_oftenAt_0 : ∀ r ∈ k_cX3_oftenAt_0, decode cX3_oftenAt r.1 = .ok (r.2.1, r.2.2.1) := x_wall_ok _ 0 [3, 61, 3, 62, 29, 42, 180, 0, 21, 162, 0, 32, 42, 180, 0, 9, 29, 46, 27, 159, 0, 13, 42, 180, 0, 15, 29, 46, 27, 160, 0, 6, 132, 2, 1, 132, 3, 1, 167, 255, 222, 28, 172] (x_win_of (by decide +kernel)) (by decide +kernel)
theorem wc_cX3_oftenAt_0 : ∀ r ∈ k_cX3_oftenAt_0, x_okW x_mt M_cX3_oftenAt r := (x_al x_e_iconst (x_al ⟨rfl, (Nat.le_of_ble_eq_true rfl)⟩ (x_al x_e_iconst (x_al ⟨rfl, (Nat.le_of_ble_eq_true rfl)⟩ (x_al x_e_iload_n (x_al x_e_aload_n (x_al ⟨rfl, xf_RX3_21⟩ (x_al x_e_if_icmp (x_al x_e_aload_n (x_al ⟨rfl, xf_RX3_9⟩ (x_al x_e_iload_n (x_al x_e_iaload (x_al x_e_iload_n (x_al x_e_if_icmp (x_al x_e_aload_n (x_al ⟨rfl, xf_RX3_15⟩ (x_al x_e_iload_n (x_al x_e_iaload (x_al x_e_iload_n (x_al x_e_if_icmp (x_al ⟨rfl, (Nat.le_of_ble_eq_true rfl)⟩ (x_al ⟨rfl, (Nat.le_of_ble_eq_true rfl)⟩ (x_al x_e_goto (x_al x_e_iload_n (x_al x_e_ireturn x_an)))))))))))))))))))))))))
set_option maxRecDepth 20000 in
theorem rk_cX3_oftenAt : ∀ q ∈ x_rws M_cX3_oftenAt, ∀ r ∈ q.2, x_okR x_mt M_cX3_oftenAt r := x_okRs (x_al (x_dec rfl dc_cX3_oftenAt_0) x_an) (x_al wc_cX3_oftenAt_0 x_an)
theorem ok_cX3_oftenAt : x_okM x_mt M_cX3_oftenAt := x_okMk (plainFor_of_name xN_RX3) rfl xV_RX3 (Nat.le_of_ble_eq_true rfl) (x_bw_in (x_t3 (i := 108) rfl) rfl) (x_bw_in (x_t1 (i := 3) rfl) rfl) (fun h => by cases h) (fun _ => ⟨(x_bw_in (x_t3 (i := 106) rfl) rfl), TX3, 5, rfl⟩) (fun _ _ => (x_bw_in (x_t3 (i := 107) rfl) rfl)) rk_cX3_oftenAt
theorem dc_cX3_goesSo_0 : ∀ r ∈ k_cX3_goesSo_0, decode cX3_goesSo r.1 = .ok (r.2.1, r.2.2.1) := x_wall_ok _ 0 [3, 62, 29, 44, 180, 0, 48, 162, 0, 29, 44, 180, 0, 51, 29, 47, 42, 27, 29, 96, 182, 0, 55, 133, 148, 153, 0, 5, 3, 172, 132, 3, 1, 167, 255, 225, 4, 172] (x_win_of (by decide +kernel)) (by decide +kernel)
theorem wc_cX3_goesSo_0 : ∀ r ∈ k_cX3_goesSo_0, x_okW x_mt M_cX3_goesSo r := (x_al x_e_iconst (x_al ⟨rfl, (Nat.le_of_ble_eq_true rfl)⟩ (x_al x_e_iload_n (x_al x_e_aload_n (x_al ⟨rfl, xf_RX3_48⟩ (x_al x_e_if_icmp (x_al x_e_aload_n (x_al ⟨rfl, xf_RX3_51⟩ (x_al x_e_iload_n (x_al x_e_laload (x_al x_e_aload_n (x_al x_e_iload_n (x_al x_e_iload_n (x_al x_e_iadd (x_al ⟨rfl, (Or.inr (Or.inr ⟨x_ab rfl, xk_RX3_55⟩))⟩ (x_al x_e_i2l (x_al x_e_lcmp (x_al x_e_ifCond (x_al x_e_iconst (x_al x_e_ireturn (x_al ⟨rfl, (Nat.le_of_ble_eq_true rfl)⟩ (x_al x_e_goto (x_al x_e_iconst (x_al x_e_ireturn x_an))))))))))))))))))))))))
set_option maxRecDepth 20000 in
theorem rk_cX3_goesSo : ∀ q ∈ x_rws M_cX3_goesSo, ∀ r ∈ q.2, x_okR x_mt M_cX3_goesSo r := x_okRs (x_al (x_dec rfl dc_cX3_goesSo_0) x_an) (x_al wc_cX3_goesSo_0 x_an)
theorem ok_cX3_goesSo : x_okM x_mt M_cX3_goesSo := x_okMk (plainFor_of_name xN_RX3) rfl xV_RX3 (Nat.le_of_ble_eq_true rfl) (x_bw_in (x_t5 (i := 93) rfl) rfl) (x_bw_in (x_t1 (i := 3) rfl) rfl) (fun h => by cases h) (fun _ => ⟨(x_bw_in (x_t5 (i := 91) rfl) rfl), TX3, 5, rfl⟩) (fun _ _ => (x_bw_in (x_t5 (i := 92) rfl) rfl)) rk_cX3_goesSo
theorem dc_cX3_neededFrom_0 : ∀ r ∈ k_cX3_neededFrom_0, decode cX3_neededFrom r.1 = .ok (r.2.1, r.2.2.1) := x_wall_ok _ 0 [3, 61, 3, 62, 29, 42, 180, 0, 21, 162, 0, 27, 29, 27, 159, 0, 16, 28, 42, 27, 29, 182, 0, 59, 4, 96, 184, 0, 62, 61, 132, 3, 1, 167, 255, 227, 28, 42, 180, 0, 21, 164, 0, 7, 2, 167, 0, 4, 28, 172] (x_win_of (by decide +kernel)) (by decide +kernel)
theorem wc_cX3_neededFrom_0 : ∀ r ∈ k_cX3_neededFrom_0, x_okW x_mt M_cX3_neededFrom r := (x_al x_e_iconst (x_al ⟨rfl, (Nat.le_of_ble_eq_true rfl)⟩ (x_al x_e_iconst (x_al ⟨rfl, (Nat.le_of_ble_eq_true rfl)⟩ (x_al x_e_iload_n (x_al x_e_aload_n (x_al ⟨rfl, xf_RX3_21⟩ (x_al x_e_if_icmp (x_al x_e_iload_n (x_al x_e_iload_n (x_al x_e_if_icmp (x_al x_e_iload_n (x_al x_e_aload_n (x_al x_e_iload_n (x_al x_e_iload_n (x_al ⟨rfl, (Or.inr (Or.inr ⟨x_ab rfl, xk_RX3_59⟩))⟩ (x_al x_e_iconst (x_al x_e_iadd (x_al ⟨rfl, (Or.inl ⟨rfl, xo_RX3_62, x_mmax⟩)⟩ (x_al ⟨rfl, (Nat.le_of_ble_eq_true rfl)⟩ (x_al ⟨rfl, (Nat.le_of_ble_eq_true rfl)⟩ (x_al x_e_goto (x_al x_e_iload_n (x_al x_e_aload_n (x_al ⟨rfl, xf_RX3_21⟩ (x_al x_e_if_icmp (x_al x_e_iconst (x_al x_e_goto (x_al x_e_iload_n (x_al x_e_ireturn x_an))))))))))))))))))))))))))))))
set_option maxRecDepth 20000 in
theorem rk_cX3_neededFrom : ∀ q ∈ x_rws M_cX3_neededFrom, ∀ r ∈ q.2, x_okR x_mt M_cX3_neededFrom r := x_okRs (x_al (x_dec rfl dc_cX3_neededFrom_0) x_an) (x_al wc_cX3_neededFrom_0 x_an)
theorem ok_cX3_neededFrom : x_okM x_mt M_cX3_neededFrom := x_okMk (plainFor_of_name xN_RX3) rfl xV_RX3 (Nat.le_of_ble_eq_true rfl) (x_bw_in (x_t5 (i := 110) rfl) rfl) (x_bw_in (x_t1 (i := 3) rfl) rfl) (fun h => by cases h) (fun _ => ⟨(x_bw_in (x_t5 (i := 108) rfl) rfl), TX3, 5, rfl⟩) (fun _ _ => (x_bw_in (x_t5 (i := 109) rfl) rfl)) rk_cX3_neededFrom
theorem dc_cX3_alike_0 : ∀ r ∈ k_cX3_alike_0, decode cX3_alike r.1 = .ok (r.2.1, r.2.2.1) := x_wall_ok _ 0 [3, 62, 29, 42, 180, 0, 21, 162, 0, 26, 42, 27, 29, 96, 182, 0, 55, 42, 28, 29, 96, 182, 0, 55, 160, 0, 9, 132, 3, 1, 167, 255, 228, 29, 172] (x_win_of (by decide +kernel)) (by decide +kernel)
theorem wc_cX3_alike_0 : ∀ r ∈ k_cX3_alike_0, x_okW x_mt M_cX3_alike r := (x_al x_e_iconst (x_al ⟨rfl, (Nat.le_of_ble_eq_true rfl)⟩ (x_al x_e_iload_n (x_al x_e_aload_n (x_al ⟨rfl, xf_RX3_21⟩ (x_al x_e_if_icmp (x_al x_e_aload_n (x_al x_e_iload_n (x_al x_e_iload_n (x_al x_e_iadd (x_al ⟨rfl, (Or.inr (Or.inr ⟨x_ab rfl, xk_RX3_55⟩))⟩ (x_al x_e_aload_n (x_al x_e_iload_n (x_al x_e_iload_n (x_al x_e_iadd (x_al ⟨rfl, (Or.inr (Or.inr ⟨x_ab rfl, xk_RX3_55⟩))⟩ (x_al x_e_if_icmp (x_al ⟨rfl, (Nat.le_of_ble_eq_true rfl)⟩ (x_al x_e_goto (x_al x_e_iload_n (x_al x_e_ireturn x_an)))))))))))))))))))))
set_option maxRecDepth 20000 in
theorem rk_cX3_alike : ∀ q ∈ x_rws M_cX3_alike, ∀ r ∈ q.2, x_okR x_mt M_cX3_alike r := x_okRs (x_al (x_dec rfl dc_cX3_alike_0) x_an) (x_al wc_cX3_alike_0 x_an)
theorem ok_cX3_alike : x_okM x_mt M_cX3_alike := x_okMk (plainFor_of_name xN_RX3) rfl xV_RX3 (Nat.le_of_ble_eq_true rfl) (x_bw_in (x_t5 (i := 114) rfl) rfl) (x_bw_in (x_t1 (i := 3) rfl) rfl) (fun h => by cases h) (fun _ => ⟨(x_bw_in (x_t5 (i := 113) rfl) rfl), TX3, 5, rfl⟩) (fun _ _ => (x_bw_in (x_t0 (i := 33) rfl) rfl)) rk_cX3_alike
theorem xN_RX4 : plainName RX4 = true := by decide +kernel
theorem xV_RX4 : RX4 ≠ "java/lang/invoke/MethodHandle" ∧ RX4 ≠ "java/lang/invoke/VarHandle" := by decide +kernel
theorem dc_cX4_init_0 : ∀ r ∈ k_cX4_init_0, decode cX4_init r.1 = .ok (r.2.1, r.2.2.1) := x_wall_ok _ 0 [42, 183, 0, 3, 42, 16, 60, 188, 10, 181, 0, 9, 42, 16, 60, 188, 10, 181, 0, 15, 42, 16, 60, 188, 10, 181, 0, 18, 42, 16, 60, 188, 10, 181, 0, 21, 42, 16, 60, 188, 10, 181, 0, 24, 177] (x_win_of (by decide +kernel)) (by decide +kernel)
theorem wc_cX4_init_0 : ∀ r ∈ k_cX4_init_0, x_okW x_mt M_cX4_init r := (x_al x_e_aload_n (x_al ⟨rfl, (Or.inl ⟨rfl, xo_RX4_3, x_oi1, x_oi2⟩)⟩ (x_al x_e_aload_n (x_al x_e_bipush (x_al ⟨rfl, xn_int⟩ (x_al ⟨rfl, xp_RX4_9_cX4_init⟩ (x_al x_e_aload_n (x_al x_e_bipush (x_al ⟨rfl, xn_int⟩ (x_al ⟨rfl, xp_RX4_15_cX4_init⟩ (x_al x_e_aload_n (x_al x_e_bipush (x_al ⟨rfl, xn_int⟩ (x_al ⟨rfl, xp_RX4_18_cX4_init⟩ (x_al x_e_aload_n (x_al x_e_bipush (x_al ⟨rfl, xn_int⟩ (x_al ⟨rfl, xp_RX4_21_cX4_init⟩ (x_al x_e_aload_n (x_al x_e_bipush (x_al ⟨rfl, xn_int⟩ (x_al ⟨rfl, xp_RX4_24_cX4_init⟩ (x_al x_e_return_ x_an)))))))))))))))))))))))
set_option maxRecDepth 20000 in
theorem rk_cX4_init : ∀ q ∈ x_rws M_cX4_init, ∀ r ∈ q.2, x_okR x_mt M_cX4_init r := x_okRs (x_al (x_dec rfl dc_cX4_init_0) x_an) (x_al wc_cX4_init_0 x_an)
theorem ok_cX4_init : x_okM x_mt M_cX4_init := x_okMk (plainFor_of_name xN_RX4) rfl xV_RX4 (Nat.le_of_ble_eq_true rfl) (x_bw_in (x_t1 (i := 199) rfl) rfl) (x_bw_in (x_t1 (i := 6) rfl) rfl) (fun h => by cases h) (fun _ => ⟨(x_bw_in (x_t1 (i := 198) rfl) rfl), TX4, 7, rfl⟩) (fun _ h => absurd rfl h) rk_cX4_init
theorem dc_cX4_has_0 : ∀ r ∈ k_cX4_has_0, decode cX4_has r.1 = .ok (r.2.1, r.2.2.1) := x_wall_ok _ 0 [27, 155, 0, 15, 27, 42, 180, 0, 27, 162, 0, 7, 4, 167, 0, 4, 3, 172] (x_win_of (by decide +kernel)) (by decide +kernel)
theorem wc_cX4_has_0 : ∀ r ∈ k_cX4_has_0, x_okW x_mt M_cX4_has r := (x_al x_e_iload_n (x_al x_e_ifCond (x_al x_e_iload_n (x_al x_e_aload_n (x_al ⟨rfl, xf_RX4_27⟩ (x_al x_e_if_icmp (x_al x_e_iconst (x_al x_e_goto (x_al x_e_iconst (x_al x_e_ireturn x_an))))))))))
set_option maxRecDepth 20000 in
theorem rk_cX4_has : ∀ q ∈ x_rws M_cX4_has, ∀ r ∈ q.2, x_okR x_mt M_cX4_has r := x_okRs (x_al (x_dec rfl dc_cX4_has_0) x_an) (x_al wc_cX4_has_0 x_an)
theorem ok_cX4_has : x_okM x_mt M_cX4_has := x_okMk (plainFor_of_name xN_RX4) rfl xV_RX4 (Nat.le_of_ble_eq_true rfl) (x_bw_in (x_t3 (i := 225) rfl) rfl) (x_bw_in (x_t1 (i := 6) rfl) rfl) (fun h => by cases h) (fun _ => ⟨(x_bw_in (x_t3 (i := 223) rfl) rfl), TX4, 7, rfl⟩) (fun _ _ => (x_bw_in (x_t3 (i := 224) rfl) rfl)) rk_cX4_has
theorem dc_cX4_deal_1 : ∀ r ∈ k_cX4_deal_1, decode cX4_deal r.1 = .ok (r.2.1, r.2.2.1) := x_wall_ok _ 59 [21, 4, 46, 182, 0, 53, 21, 4, 4, 96, 45, 180, 0, 57, 162, 0, 10, 21, 4, 4, 96, 167, 0, 4, 3, 54, 4, 132, 5, 1, 167, 255, 182, 177] (x_win_of (by decide +kernel)) (by decide +kernel)
theorem wc_cX4_deal_1 : ∀ r ∈ k_cX4_deal_1, x_okW x_mt M_cX4_deal r := (x_al x_e_iload (x_al x_e_iaload (x_al ⟨rfl, (Or.inr (Or.inr ⟨x_ab rfl, xk_RX4_53⟩))⟩ (x_al x_e_iload (x_al x_e_iconst (x_al x_e_iadd (x_al x_e_aload_n (x_al ⟨rfl, xf_RX4_57⟩ (x_al x_e_if_icmp (x_al x_e_iload (x_al x_e_iconst (x_al x_e_iadd (x_al x_e_goto (x_al x_e_iconst (x_al ⟨rfl, (Nat.le_of_ble_eq_true rfl)⟩ (x_al ⟨rfl, (Nat.le_of_ble_eq_true rfl)⟩ (x_al x_e_goto (x_al x_e_return_ x_an))))))))))))))))))
theorem dc_cX4_deal_0 : ∀ r ∈ k_cX4_deal_0, decode cX4_deal r.1 = .ok (r.2.1, r.2.2.1) := x_wall_ok _ 0 [42, 182, 0, 31, 43, 180, 0, 34, 78, 28, 54, 4, 3, 54, 5, 21, 5, 16, 60, 162, 0, 73, 45, 21, 4, 182, 0, 40, 153, 0, 64, 42, 43, 182, 0, 46, 153, 0, 56, 42, 43, 45, 180, 0, 50, 21, 4, 46, 45, 180, 0, 51, 21, 4, 46, 45, 180, 0, 52] (x_win_of (by decide +kernel)) (by decide +kernel)
theorem wc_cX4_deal_0 : ∀ r ∈ k_cX4_deal_0, x_okW x_mt M_cX4_deal r := (x_al x_e_aload_n (x_al ⟨rfl, (Or.inr (Or.inr ⟨x_ab rfl, xk_RX4_31⟩))⟩ (x_al x_e_aload_n (x_al ⟨rfl, xf_RX4_34⟩ (x_al ⟨rfl, (Nat.le_of_ble_eq_true rfl)⟩ (x_al x_e_iload_n (x_al ⟨rfl, (Nat.le_of_ble_eq_true rfl)⟩ (x_al x_e_iconst (x_al ⟨rfl, (Nat.le_of_ble_eq_true rfl)⟩ (x_al x_e_iload (x_al x_e_bipush (x_al x_e_if_icmp (x_al x_e_aload_n (x_al x_e_iload (x_al ⟨rfl, (Or.inr (Or.inr ⟨x_ab rfl, xk_RX4_40⟩))⟩ (x_al x_e_ifCond (x_al x_e_aload_n (x_al x_e_aload_n (x_al ⟨rfl, (Or.inr (Or.inr ⟨x_ab rfl, xk_RX4_46⟩))⟩ (x_al x_e_ifCond (x_al x_e_aload_n (x_al x_e_aload_n (x_al x_e_aload_n (x_al ⟨rfl, xf_RX4_50⟩ (x_al x_e_iload (x_al x_e_iaload (x_al x_e_aload_n (x_al ⟨rfl, xf_RX4_51⟩ (x_al x_e_iload (x_al x_e_iaload (x_al x_e_aload_n (x_al ⟨rfl, xf_RX4_52⟩ x_an))))))))))))))))))))))))))))))))
set_option maxRecDepth 20000 in
theorem rk_cX4_deal : ∀ q ∈ x_rws M_cX4_deal, ∀ r ∈ q.2, x_okR x_mt M_cX4_deal r := x_okRs (x_al (x_dec rfl dc_cX4_deal_0) (x_al (x_dec rfl dc_cX4_deal_1) x_an)) (x_al wc_cX4_deal_0 (x_al wc_cX4_deal_1 x_an))
theorem ok_cX4_deal : x_okM x_mt M_cX4_deal := x_okMk (plainFor_of_name xN_RX4) rfl xV_RX4 (Nat.le_of_ble_eq_true rfl) (x_bw_in (x_t3 (i := 202) rfl) rfl) (x_bw_in (x_t1 (i := 6) rfl) rfl) (fun h => by cases h) (fun _ => ⟨(x_bw_in (x_t3 (i := 200) rfl) rfl), TX4, 7, rfl⟩) (fun _ _ => (x_bw_in (x_t3 (i := 201) rfl) rfl)) rk_cX4_deal
theorem dc_cX4_draw_2 : ∀ r ∈ k_cX4_draw_2, decode cX4_draw r.1 = .ok (r.2.1, r.2.2.1) := x_wall_ok _ 123 [42, 43, 21, 10, 2, 3, 182, 0, 53, 21, 7, 54, 6, 21, 10, 54, 7, 132, 8, 1, 167, 255, 130, 177] (x_win_of (by decide +kernel)) (by decide +kernel)
theorem wc_cX4_draw_2 : ∀ r ∈ k_cX4_draw_2, x_okW x_mt M_cX4_draw r := (x_al x_e_aload_n (x_al x_e_aload_n (x_al x_e_iload (x_al x_e_iconst (x_al x_e_iconst (x_al ⟨rfl, (Or.inr (Or.inr ⟨x_ab rfl, xk_RX4_53⟩))⟩ (x_al x_e_iload (x_al ⟨rfl, (Nat.le_of_ble_eq_true rfl)⟩ (x_al x_e_iload (x_al ⟨rfl, (Nat.le_of_ble_eq_true rfl)⟩ (x_al ⟨rfl, (Nat.le_of_ble_eq_true rfl)⟩ (x_al x_e_goto (x_al x_e_return_ x_an)))))))))))))
theorem dc_cX4_draw_1 : ∀ r ∈ k_cX4_draw_1, decode cX4_draw r.1 = .ok (r.2.1, r.2.2.1) := x_wall_ok _ 58 [21, 6, 21, 7, 21, 10, 182, 0, 65, 153, 0, 6, 132, 9, 1, 132, 10, 1, 167, 255, 218, 21, 9, 154, 0, 4, 177, 20, 0, 69, 22, 4, 105, 20, 0, 71, 97, 20, 0, 73, 113, 55, 4, 43, 29, 21, 6, 21, 7, 22, 4, 20, 0, 75, 109, 21, 9, 133, 113, 136, 184, 0, 77, 54, 10] (x_win_of (by decide +kernel)) (by decide +kernel)
theorem wc_cX4_draw_1 : ∀ r ∈ k_cX4_draw_1, x_okW x_mt M_cX4_draw r := (x_al x_e_iload (x_al x_e_iload (x_al x_e_iload (x_al ⟨rfl, (Or.inr (Or.inr ⟨x_ab rfl, xk_RX4_65⟩))⟩ (x_al x_e_ifCond (x_al ⟨rfl, (Nat.le_of_ble_eq_true rfl)⟩ (x_al ⟨rfl, (Nat.le_of_ble_eq_true rfl)⟩ (x_al x_e_goto (x_al x_e_iload (x_al x_e_ifCond (x_al x_e_return_ (x_al ⟨rfl, xc_RX4_69⟩ (x_al x_e_lload (x_al x_e_lmul (x_al ⟨rfl, xc_RX4_71⟩ (x_al x_e_ladd (x_al ⟨rfl, xc_RX4_73⟩ (x_al x_e_lrem (x_al ⟨rfl, (Nat.le_of_ble_eq_true rfl)⟩ (x_al x_e_aload_n (x_al x_e_iload_n (x_al x_e_iload (x_al x_e_iload (x_al x_e_lload (x_al ⟨rfl, xc_RX4_75⟩ (x_al x_e_ldiv (x_al x_e_iload (x_al x_e_i2l (x_al x_e_lrem (x_al x_e_l2i (x_al ⟨rfl, (Or.inr (Or.inr (Or.inr (Or.inr ⟨x_ab rfl, xk_RX4_77⟩))))⟩ (x_al ⟨rfl, (Nat.le_of_ble_eq_true rfl)⟩ x_an))))))))))))))))))))))))))))))))
theorem dc_cX4_draw_0 : ∀ r ∈ k_cX4_draw_0, decode cX4_draw r.1 = .ok (r.2.1, r.2.2.1) := x_wall_ok _ 0 [42, 182, 0, 31, 28, 133, 55, 4, 2, 54, 6, 2, 54, 7, 3, 54, 8, 21, 8, 16, 60, 162, 0, 125, 42, 43, 182, 0, 46, 153, 0, 117, 3, 54, 9, 3, 54, 10, 21, 10, 43, 182, 0, 58, 162, 0, 35, 43, 21, 10, 182, 0, 62, 154, 0, 20, 43, 29] (x_win_of (by decide +kernel)) (by decide +kernel)
theorem wc_cX4_draw_0 : ∀ r ∈ k_cX4_draw_0, x_okW x_mt M_cX4_draw r := (x_al x_e_aload_n (x_al ⟨rfl, (Or.inr (Or.inr ⟨x_ab rfl, xk_RX4_31⟩))⟩ (x_al x_e_iload_n (x_al x_e_i2l (x_al ⟨rfl, (Nat.le_of_ble_eq_true rfl)⟩ (x_al x_e_iconst (x_al ⟨rfl, (Nat.le_of_ble_eq_true rfl)⟩ (x_al x_e_iconst (x_al ⟨rfl, (Nat.le_of_ble_eq_true rfl)⟩ (x_al x_e_iconst (x_al ⟨rfl, (Nat.le_of_ble_eq_true rfl)⟩ (x_al x_e_iload (x_al x_e_bipush (x_al x_e_if_icmp (x_al x_e_aload_n (x_al x_e_aload_n (x_al ⟨rfl, (Or.inr (Or.inr ⟨x_ab rfl, xk_RX4_46⟩))⟩ (x_al x_e_ifCond (x_al x_e_iconst (x_al ⟨rfl, (Nat.le_of_ble_eq_true rfl)⟩ (x_al x_e_iconst (x_al ⟨rfl, (Nat.le_of_ble_eq_true rfl)⟩ (x_al x_e_iload (x_al x_e_aload_n (x_al ⟨rfl, (Or.inr (Or.inr ⟨x_ab rfl, xk_RX4_58⟩))⟩ (x_al x_e_if_icmp (x_al x_e_aload_n (x_al x_e_iload (x_al ⟨rfl, (Or.inr (Or.inr ⟨x_ab rfl, xk_RX4_62⟩))⟩ (x_al x_e_ifCond (x_al x_e_aload_n (x_al x_e_iload_n x_an))))))))))))))))))))))))))))))))
set_option maxRecDepth 20000 in
theorem rk_cX4_draw : ∀ q ∈ x_rws M_cX4_draw, ∀ r ∈ q.2, x_okR x_mt M_cX4_draw r := x_okRs (x_al (x_dec rfl dc_cX4_draw_0) (x_al (x_dec rfl dc_cX4_draw_1) (x_al (x_dec rfl dc_cX4_draw_2) x_an))) (x_al wc_cX4_draw_0 (x_al wc_cX4_draw_1 (x_al wc_cX4_draw_2 x_an)))
theorem ok_cX4_draw : x_okM x_mt M_cX4_draw := x_okMk (plainFor_of_name xN_RX4) rfl xV_RX4 (Nat.le_of_ble_eq_true rfl) (x_bw_in (x_t6 (i := 19) rfl) rfl) (x_bw_in (x_t1 (i := 6) rfl) rfl) (fun h => by cases h) (fun _ => ⟨(x_bw_in (x_t6 (i := 17) rfl) rfl), TX4, 7, rfl⟩) (fun _ _ => (x_bw_in (x_t6 (i := 18) rfl) rfl)) rk_cX4_draw
theorem dc_cX4_nthLet_0 : ∀ r ∈ k_cX4_nthLet_0, decode cX4_nthLet r.1 = .ok (r.2.1, r.2.2.1) := x_wall_ok _ 0 [3, 54, 5, 3, 54, 6, 21, 6, 42, 182, 0, 58, 162, 0, 43, 42, 21, 6, 182, 0, 62, 154, 0, 28, 42, 27, 28, 29, 21, 6, 182, 0, 65, 153, 0, 16, 21, 5, 21, 4, 160, 0, 6, 21, 6, 172, 132, 5, 1, 132, 6, 1, 167, 255, 210, 2, 172] (x_win_of (by decide +kernel)) (by decide +kernel)
theorem wc_cX4_nthLet_0 : ∀ r ∈ k_cX4_nthLet_0, x_okW x_mt M_cX4_nthLet r := (x_al x_e_iconst (x_al ⟨rfl, (Nat.le_of_ble_eq_true rfl)⟩ (x_al x_e_iconst (x_al ⟨rfl, (Nat.le_of_ble_eq_true rfl)⟩ (x_al x_e_iload (x_al x_e_aload_n (x_al ⟨rfl, (Or.inr (Or.inr ⟨x_ab rfl, xk_RX4_58⟩))⟩ (x_al x_e_if_icmp (x_al x_e_aload_n (x_al x_e_iload (x_al ⟨rfl, (Or.inr (Or.inr ⟨x_ab rfl, xk_RX4_62⟩))⟩ (x_al x_e_ifCond (x_al x_e_aload_n (x_al x_e_iload_n (x_al x_e_iload_n (x_al x_e_iload_n (x_al x_e_iload (x_al ⟨rfl, (Or.inr (Or.inr ⟨x_ab rfl, xk_RX4_65⟩))⟩ (x_al x_e_ifCond (x_al x_e_iload (x_al x_e_iload (x_al x_e_if_icmp (x_al x_e_iload (x_al x_e_ireturn (x_al ⟨rfl, (Nat.le_of_ble_eq_true rfl)⟩ (x_al ⟨rfl, (Nat.le_of_ble_eq_true rfl)⟩ (x_al x_e_goto (x_al x_e_iconst (x_al x_e_ireturn x_an)))))))))))))))))))))))))))))
set_option maxRecDepth 20000 in
theorem rk_cX4_nthLet : ∀ q ∈ x_rws M_cX4_nthLet, ∀ r ∈ q.2, x_okR x_mt M_cX4_nthLet r := x_okRs (x_al (x_dec rfl dc_cX4_nthLet_0) x_an) (x_al wc_cX4_nthLet_0 x_an)
theorem ok_cX4_nthLet : x_okM x_mt M_cX4_nthLet := x_okMk (plainFor_of_name xN_RX4) rfl xV_RX4 (Nat.le_of_ble_eq_true rfl) (x_bw_in (x_t6 (i := 29) rfl) rfl) (x_bw_in (x_t1 (i := 6) rfl) rfl) (fun _ => (x_bw_in (x_t6 (i := 28) rfl) rfl)) (fun h => by cases h) (fun h => by cases h) rk_cX4_nthLet
theorem dc_cX4_begin_0 : ∀ r ∈ k_cX4_begin_0, decode cX4_begin r.1 = .ok (r.2.1, r.2.2.1) := x_wall_ok _ 0 [42, 3, 181, 0, 27, 42, 3, 181, 0, 81, 177] (x_win_of (by decide +kernel)) (by decide +kernel)
theorem wc_cX4_begin_0 : ∀ r ∈ k_cX4_begin_0, x_okW x_mt M_cX4_begin r := (x_al x_e_aload_n (x_al x_e_iconst (x_al ⟨rfl, (xp_RX4_27 _)⟩ (x_al x_e_aload_n (x_al x_e_iconst (x_al ⟨rfl, (xp_RX4_81 _)⟩ (x_al x_e_return_ x_an)))))))
set_option maxRecDepth 20000 in
theorem rk_cX4_begin : ∀ q ∈ x_rws M_cX4_begin, ∀ r ∈ q.2, x_okR x_mt M_cX4_begin r := x_okRs (x_al (x_dec rfl dc_cX4_begin_0) x_an) (x_al wc_cX4_begin_0 x_an)
theorem ok_cX4_begin : x_okM x_mt M_cX4_begin := x_okMk (plainFor_of_name xN_RX4) rfl xV_RX4 (Nat.le_of_ble_eq_true rfl) (x_bw_in (x_t3 (i := 206) rfl) rfl) (x_bw_in (x_t1 (i := 6) rfl) rfl) (fun h => by cases h) (fun _ => ⟨(x_bw_in (x_t3 (i := 205) rfl) rfl), TX4, 7, rfl⟩) (fun _ _ => (x_bw_in (x_t0 (i := 15) rfl) rfl)) rk_cX4_begin
theorem dc_cX4_hasRoom_0 : ∀ r ∈ k_cX4_hasRoom_0, decode cX4_hasRoom r.1 = .ok (r.2.1, r.2.2.1) := x_wall_ok _ 0 [42, 180, 0, 27, 16, 60, 162, 0, 29, 43, 42, 180, 0, 81, 43, 42, 180, 0, 81, 182, 0, 84, 96, 4, 100, 182, 0, 88, 153, 0, 7, 4, 167, 0, 4, 3, 172] (x_win_of (by decide +kernel)) (by decide +kernel)
theorem wc_cX4_hasRoom_0 : ∀ r ∈ k_cX4_hasRoom_0, x_okW x_mt M_cX4_hasRoom r := (x_al x_e_aload_n (x_al ⟨rfl, xf_RX4_27⟩ (x_al x_e_bipush (x_al x_e_if_icmp (x_al x_e_aload_n (x_al x_e_aload_n (x_al ⟨rfl, xf_RX4_81⟩ (x_al x_e_aload_n (x_al x_e_aload_n (x_al ⟨rfl, xf_RX4_81⟩ (x_al ⟨rfl, (Or.inr (Or.inr ⟨x_ab rfl, xk_RX4_84⟩))⟩ (x_al x_e_iadd (x_al x_e_iconst (x_al x_e_isub (x_al ⟨rfl, (Or.inr (Or.inr ⟨x_ab rfl, xk_RX4_88⟩))⟩ (x_al x_e_ifCond (x_al x_e_iconst (x_al x_e_goto (x_al x_e_iconst (x_al x_e_ireturn x_an))))))))))))))))))))
set_option maxRecDepth 20000 in
theorem rk_cX4_hasRoom : ∀ q ∈ x_rws M_cX4_hasRoom, ∀ r ∈ q.2, x_okR x_mt M_cX4_hasRoom r := x_okRs (x_al (x_dec rfl dc_cX4_hasRoom_0) x_an) (x_al wc_cX4_hasRoom_0 x_an)
theorem ok_cX4_hasRoom : x_okM x_mt M_cX4_hasRoom := x_okMk (plainFor_of_name xN_RX4) rfl xV_RX4 (Nat.le_of_ble_eq_true rfl) (x_bw_in (x_t3 (i := 211) rfl) rfl) (x_bw_in (x_t1 (i := 6) rfl) rfl) (fun h => by cases h) (fun _ => ⟨(x_bw_in (x_t3 (i := 210) rfl) rfl), TX4, 7, rfl⟩) (fun _ _ => (x_bw_in (x_t0 (i := 16) rfl) rfl)) rk_cX4_hasRoom
theorem dc_cX4_add_1 : ∀ r ∈ k_cX4_add_1, decode cX4_add r.1 = .ok (r.2.1, r.2.2.1) := x_wall_ok _ 57 [42, 180, 0, 81, 182, 0, 84, 96, 4, 100, 79, 42, 42, 180, 0, 24, 42, 180, 0, 27, 46, 43, 180, 0, 91, 96, 4, 96, 181, 0, 81, 42, 89, 180, 0, 27, 4, 96, 181, 0, 27, 177] (x_win_of (by decide +kernel)) (by decide +kernel)
theorem wc_cX4_add_1 : ∀ r ∈ k_cX4_add_1, x_okW x_mt M_cX4_add r := (x_al x_e_aload_n (x_al ⟨rfl, xf_RX4_81⟩ (x_al ⟨rfl, (Or.inr (Or.inr ⟨x_ab rfl, xk_RX4_84⟩))⟩ (x_al x_e_iadd (x_al x_e_iconst (x_al x_e_isub (x_al x_e_iastore (x_al x_e_aload_n (x_al x_e_aload_n (x_al ⟨rfl, xf_RX4_24⟩ (x_al x_e_aload_n (x_al ⟨rfl, xf_RX4_27⟩ (x_al x_e_iaload (x_al x_e_aload_n (x_al ⟨rfl, xf_RX4_91⟩ (x_al x_e_iadd (x_al x_e_iconst (x_al x_e_iadd (x_al ⟨rfl, (xp_RX4_81 _)⟩ (x_al x_e_aload_n (x_al x_e_dup (x_al ⟨rfl, xf_RX4_27⟩ (x_al x_e_iconst (x_al x_e_iadd (x_al ⟨rfl, (xp_RX4_27 _)⟩ (x_al x_e_return_ x_an))))))))))))))))))))))))))
theorem dc_cX4_add_0 : ∀ r ∈ k_cX4_add_0, decode cX4_add r.1 = .ok (r.2.1, r.2.2.1) := x_wall_ok _ 0 [42, 180, 0, 9, 42, 180, 0, 27, 28, 79, 42, 180, 0, 15, 42, 180, 0, 27, 29, 79, 42, 180, 0, 18, 42, 180, 0, 27, 21, 4, 79, 42, 180, 0, 21, 42, 180, 0, 27, 42, 180, 0, 81, 79, 42, 180, 0, 24, 42, 180, 0, 27, 42, 180, 0, 81, 43] (x_win_of (by decide +kernel)) (by decide +kernel)
theorem wc_cX4_add_0 : ∀ r ∈ k_cX4_add_0, x_okW x_mt M_cX4_add r := (x_al x_e_aload_n (x_al ⟨rfl, xf_RX4_9⟩ (x_al x_e_aload_n (x_al ⟨rfl, xf_RX4_27⟩ (x_al x_e_iload_n (x_al x_e_iastore (x_al x_e_aload_n (x_al ⟨rfl, xf_RX4_15⟩ (x_al x_e_aload_n (x_al ⟨rfl, xf_RX4_27⟩ (x_al x_e_iload_n (x_al x_e_iastore (x_al x_e_aload_n (x_al ⟨rfl, xf_RX4_18⟩ (x_al x_e_aload_n (x_al ⟨rfl, xf_RX4_27⟩ (x_al x_e_iload (x_al x_e_iastore (x_al x_e_aload_n (x_al ⟨rfl, xf_RX4_21⟩ (x_al x_e_aload_n (x_al ⟨rfl, xf_RX4_27⟩ (x_al x_e_aload_n (x_al ⟨rfl, xf_RX4_81⟩ (x_al x_e_iastore (x_al x_e_aload_n (x_al ⟨rfl, xf_RX4_24⟩ (x_al x_e_aload_n (x_al ⟨rfl, xf_RX4_27⟩ (x_al x_e_aload_n (x_al ⟨rfl, xf_RX4_81⟩ (x_al x_e_aload_n x_an))))))))))))))))))))))))))))))))
set_option maxRecDepth 20000 in
theorem rk_cX4_add : ∀ q ∈ x_rws M_cX4_add, ∀ r ∈ q.2, x_okR x_mt M_cX4_add r := x_okRs (x_al (x_dec rfl dc_cX4_add_0) (x_al (x_dec rfl dc_cX4_add_1) x_an)) (x_al wc_cX4_add_0 (x_al wc_cX4_add_1 x_an))
theorem ok_cX4_add : x_okM x_mt M_cX4_add := x_okMk (plainFor_of_name xN_RX4) rfl xV_RX4 (Nat.le_of_ble_eq_true rfl) (x_bw_in (x_t3 (i := 217) rfl) rfl) (x_bw_in (x_t1 (i := 6) rfl) rfl) (fun h => by cases h) (fun _ => ⟨(x_bw_in (x_t3 (i := 216) rfl) rfl), TX4, 7, rfl⟩) (fun _ _ => (x_bw_in (x_t0 (i := 17) rfl) rfl)) rk_cX4_add
theorem dc_cX4_upIn_0 : ∀ r ∈ k_cX4_upIn_0, decode cX4_upIn r.1 = .ok (r.2.1, r.2.2.1) := x_wall_ok _ 0 [3, 61, 28, 42, 180, 0, 27, 162, 0, 31, 42, 180, 0, 21, 28, 46, 27, 163, 0, 15, 27, 42, 180, 0, 24, 28, 46, 163, 0, 5, 28, 172, 132, 2, 1, 167, 255, 223, 2, 172] (x_win_of (by decide +kernel)) (by decide +kernel)
theorem wc_cX4_upIn_0 : ∀ r ∈ k_cX4_upIn_0, x_okW x_mt M_cX4_upIn r := (x_al x_e_iconst (x_al ⟨rfl, (Nat.le_of_ble_eq_true rfl)⟩ (x_al x_e_iload_n (x_al x_e_aload_n (x_al ⟨rfl, xf_RX4_27⟩ (x_al x_e_if_icmp (x_al x_e_aload_n (x_al ⟨rfl, xf_RX4_21⟩ (x_al x_e_iload_n (x_al x_e_iaload (x_al x_e_iload_n (x_al x_e_if_icmp (x_al x_e_iload_n (x_al x_e_aload_n (x_al ⟨rfl, xf_RX4_24⟩ (x_al x_e_iload_n (x_al x_e_iaload (x_al x_e_if_icmp (x_al x_e_iload_n (x_al x_e_ireturn (x_al ⟨rfl, (Nat.le_of_ble_eq_true rfl)⟩ (x_al x_e_goto (x_al x_e_iconst (x_al x_e_ireturn x_an))))))))))))))))))))))))
set_option maxRecDepth 20000 in
theorem rk_cX4_upIn : ∀ q ∈ x_rws M_cX4_upIn, ∀ r ∈ q.2, x_okR x_mt M_cX4_upIn r := x_okRs (x_al (x_dec rfl dc_cX4_upIn_0) x_an) (x_al wc_cX4_upIn_0 x_an)
theorem ok_cX4_upIn : x_okM x_mt M_cX4_upIn := x_okMk (plainFor_of_name xN_RX4) rfl xV_RX4 (Nat.le_of_ble_eq_true rfl) (x_bw_in (x_t3 (i := 233) rfl) rfl) (x_bw_in (x_t1 (i := 6) rfl) rfl) (fun h => by cases h) (fun _ => ⟨(x_bw_in (x_t3 (i := 231) rfl) rfl), TX4, 7, rfl⟩) (fun _ _ => (x_bw_in (x_t3 (i := 232) rfl) rfl)) rk_cX4_upIn
theorem dc_cX4_holesOf_0 : ∀ r ∈ k_cX4_holesOf_0, decode cX4_holesOf r.1 = .ok (r.2.1, r.2.2.1) := x_wall_ok _ 0 [42, 27, 182, 0, 94, 154, 0, 5, 3, 172, 4, 42, 180, 0, 9, 27, 46, 120, 42, 180, 0, 15, 27, 46, 2, 160, 0, 7, 3, 167, 0, 11, 4, 42, 180, 0, 15, 27, 46, 120, 128, 172] (x_win_of (by decide +kernel)) (by decide +kernel)
theorem wc_cX4_holesOf_0 : ∀ r ∈ k_cX4_holesOf_0, x_okW x_mt M_cX4_holesOf r := (x_al x_e_aload_n (x_al x_e_iload_n (x_al ⟨rfl, (Or.inr (Or.inr ⟨x_ab rfl, xk_RX4_94⟩))⟩ (x_al x_e_ifCond (x_al x_e_iconst (x_al x_e_ireturn (x_al x_e_iconst (x_al x_e_aload_n (x_al ⟨rfl, xf_RX4_9⟩ (x_al x_e_iload_n (x_al x_e_iaload (x_al x_e_ishl (x_al x_e_aload_n (x_al ⟨rfl, xf_RX4_15⟩ (x_al x_e_iload_n (x_al x_e_iaload (x_al x_e_iconst (x_al x_e_if_icmp (x_al x_e_iconst (x_al x_e_goto (x_al x_e_iconst (x_al x_e_aload_n (x_al ⟨rfl, xf_RX4_15⟩ (x_al x_e_iload_n (x_al x_e_iaload (x_al x_e_ishl (x_al x_e_ior (x_al x_e_ireturn x_an))))))))))))))))))))))))))))
set_option maxRecDepth 20000 in
theorem rk_cX4_holesOf : ∀ q ∈ x_rws M_cX4_holesOf, ∀ r ∈ q.2, x_okR x_mt M_cX4_holesOf r := x_okRs (x_al (x_dec rfl dc_cX4_holesOf_0) x_an) (x_al wc_cX4_holesOf_0 x_an)
theorem ok_cX4_holesOf : x_okM x_mt M_cX4_holesOf := x_okMk (plainFor_of_name xN_RX4) rfl xV_RX4 (Nat.le_of_ble_eq_true rfl) (x_bw_in (x_t3 (i := 237) rfl) rfl) (x_bw_in (x_t1 (i := 6) rfl) rfl) (fun h => by cases h) (fun _ => ⟨(x_bw_in (x_t3 (i := 235) rfl) rfl), TX4, 7, rfl⟩) (fun _ _ => (x_bw_in (x_t3 (i := 236) rfl) rfl)) rk_cX4_holesOf
theorem dc_cX4_goodHoles_0 : ∀ r ∈ k_cX4_goodHoles_0, decode cX4_goodHoles r.1 = .ok (r.2.1, r.2.2.1) := x_wall_ok _ 0 [3, 60, 3, 61, 28, 42, 180, 0, 27, 162, 0, 26, 42, 180, 0, 18, 28, 46, 154, 0, 11, 27, 42, 28, 182, 0, 95, 128, 60, 132, 2, 1, 167, 255, 228, 27, 172] (x_win_of (by decide +kernel)) (by decide +kernel)
theorem wc_cX4_goodHoles_0 : ∀ r ∈ k_cX4_goodHoles_0, x_okW x_mt M_cX4_goodHoles r := (x_al x_e_iconst (x_al ⟨rfl, (Nat.le_of_ble_eq_true rfl)⟩ (x_al x_e_iconst (x_al ⟨rfl, (Nat.le_of_ble_eq_true rfl)⟩ (x_al x_e_iload_n (x_al x_e_aload_n (x_al ⟨rfl, xf_RX4_27⟩ (x_al x_e_if_icmp (x_al x_e_aload_n (x_al ⟨rfl, xf_RX4_18⟩ (x_al x_e_iload_n (x_al x_e_iaload (x_al x_e_ifCond (x_al x_e_iload_n (x_al x_e_aload_n (x_al x_e_iload_n (x_al ⟨rfl, (Or.inr (Or.inr ⟨x_ab rfl, xk_RX4_95⟩))⟩ (x_al x_e_ior (x_al ⟨rfl, (Nat.le_of_ble_eq_true rfl)⟩ (x_al ⟨rfl, (Nat.le_of_ble_eq_true rfl)⟩ (x_al x_e_goto (x_al x_e_iload_n (x_al x_e_ireturn x_an)))))))))))))))))))))))
set_option maxRecDepth 20000 in
theorem rk_cX4_goodHoles : ∀ q ∈ x_rws M_cX4_goodHoles, ∀ r ∈ q.2, x_okR x_mt M_cX4_goodHoles r := x_okRs (x_al (x_dec rfl dc_cX4_goodHoles_0) x_an) (x_al wc_cX4_goodHoles_0 x_an)
theorem ok_cX4_goodHoles : x_okM x_mt M_cX4_goodHoles := x_okMk (plainFor_of_name xN_RX4) rfl xV_RX4 (Nat.le_of_ble_eq_true rfl) (x_bw_in (x_t5 (i := 148) rfl) rfl) (x_bw_in (x_t1 (i := 6) rfl) rfl) (fun h => by cases h) (fun _ => ⟨(x_bw_in (x_t5 (i := 146) rfl) rfl), TX4, 7, rfl⟩) (fun _ _ => (x_bw_in (x_t5 (i := 147) rfl) rfl)) rk_cX4_goodHoles
theorem dc_cX4_goodIn_0 : ∀ r ∈ k_cX4_goodIn_0, decode cX4_goodIn r.1 = .ok (r.2.1, r.2.2.1) := x_wall_ok _ 0 [3, 61, 3, 62, 29, 42, 180, 0, 27, 162, 0, 31, 42, 180, 0, 18, 29, 46, 154, 0, 16, 28, 42, 29, 182, 0, 95, 27, 126, 184, 0, 98, 96, 61, 132, 3, 1, 167, 255, 223, 28, 172] (x_win_of (by decide +kernel)) (by decide +kernel)
theorem wc_cX4_goodIn_0 : ∀ r ∈ k_cX4_goodIn_0, x_okW x_mt M_cX4_goodIn r := (x_al x_e_iconst (x_al ⟨rfl, (Nat.le_of_ble_eq_true rfl)⟩ (x_al x_e_iconst (x_al ⟨rfl, (Nat.le_of_ble_eq_true rfl)⟩ (x_al x_e_iload_n (x_al x_e_aload_n (x_al ⟨rfl, xf_RX4_27⟩ (x_al x_e_if_icmp (x_al x_e_aload_n (x_al ⟨rfl, xf_RX4_18⟩ (x_al x_e_iload_n (x_al x_e_iaload (x_al x_e_ifCond (x_al x_e_iload_n (x_al x_e_aload_n (x_al x_e_iload_n (x_al ⟨rfl, (Or.inr (Or.inr ⟨x_ab rfl, xk_RX4_95⟩))⟩ (x_al x_e_iload_n (x_al x_e_iand (x_al ⟨rfl, (Or.inr (Or.inr (Or.inr (Or.inr ⟨x_ab rfl, xk_RX4_98⟩))))⟩ (x_al x_e_iadd (x_al ⟨rfl, (Nat.le_of_ble_eq_true rfl)⟩ (x_al ⟨rfl, (Nat.le_of_ble_eq_true rfl)⟩ (x_al x_e_goto (x_al x_e_iload_n (x_al x_e_ireturn x_an))))))))))))))))))))))))))
set_option maxRecDepth 20000 in
theorem rk_cX4_goodIn : ∀ q ∈ x_rws M_cX4_goodIn, ∀ r ∈ q.2, x_okR x_mt M_cX4_goodIn r := x_okRs (x_al (x_dec rfl dc_cX4_goodIn_0) x_an) (x_al wc_cX4_goodIn_0 x_an)
theorem ok_cX4_goodIn : x_okM x_mt M_cX4_goodIn := x_okMk (plainFor_of_name xN_RX4) rfl xV_RX4 (Nat.le_of_ble_eq_true rfl) (x_bw_in (x_t5 (i := 153) rfl) rfl) (x_bw_in (x_t1 (i := 6) rfl) rfl) (fun h => by cases h) (fun _ => ⟨(x_bw_in (x_t5 (i := 151) rfl) rfl), TX4, 7, rfl⟩) (fun _ _ => (x_bw_in (x_t5 (i := 152) rfl) rfl)) rk_cX4_goodIn
theorem dc_cX4_strike_0 : ∀ r ∈ k_cX4_strike_0, decode cX4_strike r.1 = .ok (r.2.1, r.2.2.1) := x_wall_ok _ 0 [42, 27, 182, 0, 94, 154, 0, 5, 2, 172, 28, 42, 180, 0, 21, 27, 46, 184, 0, 103, 62, 29, 42, 180, 0, 24, 27, 46, 163, 0, 7, 29, 167, 0, 4, 2, 172] (x_win_of (by decide +kernel)) (by decide +kernel)
theorem wc_cX4_strike_0 : ∀ r ∈ k_cX4_strike_0, x_okW x_mt M_cX4_strike r := (x_al x_e_aload_n (x_al x_e_iload_n (x_al ⟨rfl, (Or.inr (Or.inr ⟨x_ab rfl, xk_RX4_94⟩))⟩ (x_al x_e_ifCond (x_al x_e_iconst (x_al x_e_ireturn (x_al x_e_iload_n (x_al x_e_aload_n (x_al ⟨rfl, xf_RX4_21⟩ (x_al x_e_iload_n (x_al x_e_iaload (x_al ⟨rfl, (Or.inl ⟨rfl, xo_RX4_103, x_mmax⟩)⟩ (x_al ⟨rfl, (Nat.le_of_ble_eq_true rfl)⟩ (x_al x_e_iload_n (x_al x_e_aload_n (x_al ⟨rfl, xf_RX4_24⟩ (x_al x_e_iload_n (x_al x_e_iaload (x_al x_e_if_icmp (x_al x_e_iload_n (x_al x_e_goto (x_al x_e_iconst (x_al x_e_ireturn x_an)))))))))))))))))))))))
set_option maxRecDepth 20000 in
theorem rk_cX4_strike : ∀ q ∈ x_rws M_cX4_strike, ∀ r ∈ q.2, x_okR x_mt M_cX4_strike r := x_okRs (x_al (x_dec rfl dc_cX4_strike_0) x_an) (x_al wc_cX4_strike_0 x_an)
theorem ok_cX4_strike : x_okM x_mt M_cX4_strike := x_okMk (plainFor_of_name xN_RX4) rfl xV_RX4 (Nat.le_of_ble_eq_true rfl) (x_bw_in (x_t4 (i := 83) rfl) rfl) (x_bw_in (x_t1 (i := 6) rfl) rfl) (fun h => by cases h) (fun _ => ⟨(x_bw_in (x_t4 (i := 81) rfl) rfl), TX4, 7, rfl⟩) (fun _ _ => (x_bw_in (x_t4 (i := 82) rfl) rfl)) rk_cX4_strike
theorem xN_RX5 : plainName RX5 = true := by decide +kernel
theorem xV_RX5 : RX5 ≠ "java/lang/invoke/MethodHandle" ∧ RX5 ≠ "java/lang/invoke/VarHandle" := by decide +kernel
theorem dc_cX5_init_0 : ∀ r ∈ k_cX5_init_0, decode cX5_init r.1 = .ok (r.2.1, r.2.2.1) := x_wall_ok _ 0 [42, 183, 0, 3, 42, 17, 0, 156, 188, 11, 181, 0, 11, 42, 17, 0, 156, 188, 11, 181, 0, 15, 177] (x_win_of (by decide +kernel)) (by decide +kernel)
theorem wc_cX5_init_0 : ∀ r ∈ k_cX5_init_0, x_okW x_mt M_cX5_init r := (x_al x_e_aload_n (x_al ⟨rfl, (Or.inl ⟨rfl, xo_RX5_3, x_oi1, x_oi2⟩)⟩ (x_al x_e_aload_n (x_al x_e_sipush (x_al ⟨rfl, xn_long⟩ (x_al ⟨rfl, xp_RX5_11_cX5_init⟩ (x_al x_e_aload_n (x_al x_e_sipush (x_al ⟨rfl, xn_long⟩ (x_al ⟨rfl, xp_RX5_15_cX5_init⟩ (x_al x_e_return_ x_an)))))))))))
set_option maxRecDepth 20000 in
theorem rk_cX5_init : ∀ q ∈ x_rws M_cX5_init, ∀ r ∈ q.2, x_okR x_mt M_cX5_init r := x_okRs (x_al (x_dec rfl dc_cX5_init_0) x_an) (x_al wc_cX5_init_0 x_an)
theorem ok_cX5_init : x_okM x_mt M_cX5_init := x_okMk (plainFor_of_name xN_RX5) rfl xV_RX5 (Nat.le_of_ble_eq_true rfl) (x_bw_in (x_t2 (i := 80) rfl) rfl) (x_bw_in (x_t1 (i := 10) rfl) rfl) (fun h => by cases h) (fun _ => ⟨(x_bw_in (x_t2 (i := 79) rfl) rfl), TX5, 2, rfl⟩) (fun _ h => absurd rfl h) rk_cX5_init
theorem dc_cX5_begin_0 : ∀ r ∈ k_cX5_begin_0, decode cX5_begin r.1 = .ok (r.2.1, r.2.2.1) := x_wall_ok _ 0 [3, 61, 28, 17, 0, 156, 162, 0, 16, 42, 180, 0, 11, 28, 9, 80, 132, 2, 1, 167, 255, 239, 3, 61, 28, 43, 182, 0, 18, 162, 0, 27, 43, 28, 182, 0, 24, 154, 0, 13, 42, 180, 0, 11, 2, 28, 10, 184, 0, 28, 132, 2, 1, 167, 255, 227, 177] (x_win_of (by decide +kernel)) (by decide +kernel)
theorem wc_cX5_begin_0 : ∀ r ∈ k_cX5_begin_0, x_okW x_mt M_cX5_begin r := (x_al x_e_iconst (x_al ⟨rfl, (Nat.le_of_ble_eq_true rfl)⟩ (x_al x_e_iload_n (x_al x_e_sipush (x_al x_e_if_icmp (x_al x_e_aload_n (x_al ⟨rfl, xf_RX5_11⟩ (x_al x_e_iload_n (x_al x_e_lconst (x_al x_e_lastore (x_al ⟨rfl, (Nat.le_of_ble_eq_true rfl)⟩ (x_al x_e_goto (x_al x_e_iconst (x_al ⟨rfl, (Nat.le_of_ble_eq_true rfl)⟩ (x_al x_e_iload_n (x_al x_e_aload_n (x_al ⟨rfl, (Or.inr (Or.inr ⟨x_ab rfl, xk_RX5_18⟩))⟩ (x_al x_e_if_icmp (x_al x_e_aload_n (x_al x_e_iload_n (x_al ⟨rfl, (Or.inr (Or.inr ⟨x_ab rfl, xk_RX5_24⟩))⟩ (x_al x_e_ifCond (x_al x_e_aload_n (x_al ⟨rfl, xf_RX5_11⟩ (x_al x_e_iconst (x_al x_e_iload_n (x_al x_e_lconst (x_al ⟨rfl, (Or.inr (Or.inr (Or.inr (Or.inr ⟨x_ab rfl, xk_RX5_28⟩))))⟩ (x_al ⟨rfl, (Nat.le_of_ble_eq_true rfl)⟩ (x_al x_e_goto (x_al x_e_return_ x_an)))))))))))))))))))))))))))))))
set_option maxRecDepth 20000 in
theorem rk_cX5_begin : ∀ q ∈ x_rws M_cX5_begin, ∀ r ∈ q.2, x_okR x_mt M_cX5_begin r := x_okRs (x_al (x_dec rfl dc_cX5_begin_0) x_an) (x_al wc_cX5_begin_0 x_an)
theorem ok_cX5_begin : x_okM x_mt M_cX5_begin := x_okMk (plainFor_of_name xN_RX5) rfl xV_RX5 (Nat.le_of_ble_eq_true rfl) (x_bw_in (x_t4 (i := 229) rfl) rfl) (x_bw_in (x_t1 (i := 10) rfl) rfl) (fun h => by cases h) (fun _ => ⟨(x_bw_in (x_t4 (i := 227) rfl) rfl), TX5, 2, rfl⟩) (fun _ _ => (x_bw_in (x_t4 (i := 228) rfl) rfl)) rk_cX5_begin
