/-! ===== the words of the tables ===== -/
theorem x_tb {ts : List Cond} (h : ∀ w ∈ ts, w ∈ lw_tbl) {i : Nat} {w : Cond} (e : ts[i]? = some w) : w ∈ lw_tbl := h w (List.mem_of_getElem? e)
theorem x_tbl {w : Cond} (h : w ∈ tables_1) : w ∈ lw_tbl := List.mem_append_right _ h
theorem x_t0 {i : Nat} {w : Cond} (e : (k2_sels lw_privs)[i]? = some w) : w ∈ lw_tbl := List.mem_append_left _ (List.mem_of_getElem? e)
theorem x_t1 {i : Nat} {w : Cond} (e : tables_1_1[i]? = some w) : w ∈ lw_tbl := x_tbl (List.mem_append_left _ (List.mem_of_getElem? e))
theorem x_t2 {i : Nat} {w : Cond} (e : tables_1_2[i]? = some w) : w ∈ lw_tbl := x_tbl (List.mem_append_right _ (List.mem_append_left _ (List.mem_of_getElem? e)))
theorem x_t3 {i : Nat} {w : Cond} (e : tables_1_3[i]? = some w) : w ∈ lw_tbl := x_tbl (List.mem_append_right _ (List.mem_append_right _ (List.mem_append_left _ (List.mem_of_getElem? e))))
theorem x_t4 {i : Nat} {w : Cond} (e : tables_1_4[i]? = some w) : w ∈ lw_tbl := x_tbl (List.mem_append_right _ (List.mem_append_right _ (List.mem_append_right _ (List.mem_append_left _ (List.mem_of_getElem? e)))))
theorem x_t5 {i : Nat} {w : Cond} (e : tables_1_5[i]? = some w) : w ∈ lw_tbl := x_tbl (List.mem_append_right _ (List.mem_append_right _ (List.mem_append_right _ (List.mem_append_right _ (List.mem_append_left _ (List.mem_of_getElem? e))))))
theorem x_t6 {i : Nat} {w : Cond} (e : tables_1_6[i]? = some w) : w ∈ lw_tbl := x_tbl (List.mem_append_right _ (List.mem_append_right _ (List.mem_append_right _ (List.mem_append_right _ (List.mem_append_right _ (List.mem_append_left _ (List.mem_of_getElem? e)))))))
theorem x_t7 {i : Nat} {w : Cond} (e : tables_1_7[i]? = some w) : w ∈ lw_tbl := x_tbl (List.mem_append_right _ (List.mem_append_right _ (List.mem_append_right _ (List.mem_append_right _ (List.mem_append_right _ (List.mem_append_right _ (List.mem_append_left _ (List.mem_of_getElem? e))))))))
theorem x_t8 {i : Nat} {w : Cond} (e : tables_1_8[i]? = some w) : w ∈ lw_tbl := x_tbl (List.mem_append_right _ (List.mem_append_right _ (List.mem_append_right _ (List.mem_append_right _ (List.mem_append_right _ (List.mem_append_right _ (List.mem_append_right _ (List.mem_append_left _ (List.mem_of_getElem? e)))))))))
theorem x_t9 {i : Nat} {w : Cond} (e : tables_1_9[i]? = some w) : w ∈ lw_tbl := x_tbl (List.mem_append_right _ (List.mem_append_right _ (List.mem_append_right _ (List.mem_append_right _ (List.mem_append_right _ (List.mem_append_right _ (List.mem_append_right _ (List.mem_append_right _ (List.mem_of_getElem? e)))))))))
theorem x_oi1 : Cond.instanceMethod Lib.objectInit ∈ x_bw := (x_bw_in (x_t1 (i := 27) rfl) rfl)
theorem x_oi2 : Cond.code Lib.objectInit ⟨#[0xb1]⟩ 1 none ∈ x_bw := (x_bw_in (x_t1 (i := 28) (by decide +kernel)) rfl)
theorem x_mmax : Cond.static Lib.Math.max.name ∈ x_bw ∧ Cond.initialized "java/lang/Math" ∈ x_bw ∧ Cond.code Lib.Math.max.name Lib.Math.max.code 2 (some .int) ∈ x_bw := ⟨(x_bw_in (x_t4 (i := 72) rfl) rfl), (x_bw_in (x_t1 (i := 14) rfl) rfl), (x_bw_in (x_t4 (i := 73) (by decide +kernel)) rfl)⟩
theorem x_mmin : Cond.static Lib.Math.min.name ∈ x_bw ∧ Cond.initialized "java/lang/Math" ∈ x_bw ∧ Cond.code Lib.Math.min.name Lib.Math.min.code 2 (some .int) ∈ x_bw := ⟨(x_bw_in (x_t2 (i := 217) rfl) rfl), (x_bw_in (x_t1 (i := 14) rfl) rfl), (x_bw_in (x_t2 (i := 218) (by decide +kernel)) rfl)⟩
theorem x_mabs : Cond.static Lib.Math.abs.name ∈ x_bw ∧ Cond.initialized "java/lang/Math" ∈ x_bw ∧ Cond.code Lib.Math.abs.name Lib.Math.abs.code 1 (some .int) ∈ x_bw := ⟨(x_bw_in (x_t4 (i := 13) rfl) rfl), (x_bw_in (x_t1 (i := 14) rfl) rfl), (x_bw_in (x_t4 (i := 14) (by decide +kernel)) rfl)⟩
theorem x_ac : Cond.native arraycopyName ∈ x_bw ∧ Cond.static arraycopyName ∈ x_bw ∧ Cond.initialized "java/lang/System" ∈ x_bw := ⟨(x_bw_in (x_t3 (i := 140) rfl) rfl), (x_bw_in (x_t3 (i := 139) rfl) rfl), (x_bw_in (x_t1 (i := 19) rfl) rfl)⟩
theorem x_ao_in : ∀ C ∈ x_ao, Cond.arrayOver (.object C) ∈ lw_tbl := (List.forall_mem_cons.mpr ⟨x_t1 (i := 138) rfl, (List.forall_mem_cons.mpr ⟨x_t2 (i := 113) rfl, (fun _ h => absurd h List.not_mem_nil)⟩)⟩)
theorem x_al {α : Type} {P : α → Prop} {a : α} {l : List α} (h : P a) (t : ∀ r ∈ l, P r) : ∀ r ∈ a :: l, P r := List.forall_mem_cons.mpr ⟨h, t⟩
theorem x_an {α : Type} {P : α → Prop} : ∀ r ∈ ([] : List α), P r := fun _ h => absurd h List.not_mem_nil
theorem x_JW_ok : x_JW := (x_al (x_bw_in (x_t3 (i := 9) (by decide +kernel)) rfl) (x_al (x_bw_in (x_t3 (i := 7) rfl) rfl) (x_al (x_bw_in (x_t3 (i := 8) rfl) rfl) (x_al (x_bw_in (x_t3 (i := 6) rfl) rfl) (x_al (x_bw_in (x_t3 (i := 19) (by decide +kernel)) rfl) (x_al (x_bw_in (x_t3 (i := 17) rfl) rfl) (x_al (x_bw_in (x_t3 (i := 18) rfl) rfl) (x_al (x_bw_in (x_t3 (i := 16) rfl) rfl) (x_al (x_bw_in (x_t3 (i := 5) (by decide +kernel)) rfl) (x_al (x_bw_in (x_t3 (i := 3) rfl) rfl) (x_al (x_bw_in (x_t3 (i := 4) rfl) rfl) (x_al (x_bw_in (x_t3 (i := 15) (by decide +kernel)) rfl) (x_al (x_bw_in (x_t3 (i := 13) rfl) rfl) (x_al (x_bw_in (x_t3 (i := 14) rfl) rfl) (x_al (x_bw_in (x_t3 (i := 25) (by decide +kernel)) rfl) (x_al (x_bw_in (x_t3 (i := 24) rfl) rfl) (x_al (x_bw_in (x_t3 (i := 23) rfl) rfl) (x_al (x_bw_in (x_t3 (i := 22) (by decide +kernel)) rfl) (x_al (x_bw_in (x_t3 (i := 21) rfl) rfl) (x_al (x_bw_in (x_t3 (i := 20) rfl) rfl) (x_al (x_bw_in (x_t3 (i := 30) (by decide +kernel)) rfl) (x_al (x_bw_in (x_t3 (i := 29) rfl) rfl) (x_al (x_bw_in (x_t3 (i := 28) rfl) rfl) (x_al (x_bw_in (x_t1 (i := 15) rfl) rfl) (x_al (x_bw_in (x_t1 (i := 16) rfl) rfl) (x_al (x_bw_in (x_t1 (i := 17) rfl) rfl) (x_al (x_bw_in (x_t9 (i := 179) rfl) rfl) (x_al (x_bw_in (x_t9 (i := 180) rfl) rfl) (x_al (x_bw_in (x_t3 (i := 10) rfl) rfl) (x_al (x_bw_in (x_t3 (i := 26) rfl) rfl) x_an))))))))))))))))))))))))))))))
theorem x_lit_in : ∀ q ∈ x_lit, Cond.stringRef q.1 q.2.1 q.2.2 ∈ lw_tbl := (x_al (x_t2 (i := 230) rfl) (x_al (x_t2 (i := 231) rfl) (x_al (x_t2 (i := 232) rfl) (x_al (x_t2 (i := 233) rfl) (x_al (x_t2 (i := 234) rfl) (x_al (x_t2 (i := 235) rfl) (x_al (x_t2 (i := 236) rfl) (x_al (x_t2 (i := 237) rfl) (x_al (x_t7 (i := 34) rfl) (x_al (x_t7 (i := 53) rfl) (x_al (x_t7 (i := 62) rfl) (x_al (x_t7 (i := 63) rfl) (x_al (x_t7 (i := 64) rfl) (x_al (x_t7 (i := 69) rfl) (x_al (x_t7 (i := 70) rfl) (x_al (x_t7 (i := 71) rfl) (x_al (x_t7 (i := 72) rfl) (x_al (x_t7 (i := 73) rfl) (x_al (x_t7 (i := 74) rfl) (x_al (x_t7 (i := 75) rfl) (x_al (x_t7 (i := 80) rfl) (x_al (x_t7 (i := 113) rfl) (x_al (x_t7 (i := 114) rfl) (x_al (x_t7 (i := 115) rfl) (x_al (x_t7 (i := 116) rfl) (x_al (x_t7 (i := 117) rfl) (x_al (x_t7 (i := 118) rfl) x_an)))))))))))))))))))))))))))
theorem x_ly1 : Cond.laysStatic "java/lang/String" "COMPACT_STRINGS" "Z" ∈ lw_tbl := x_t3 (i := 11) rfl
theorem x_ly2 : Cond.initialized "java/lang/String" ∈ lw_tbl := x_t1 (i := 15) rfl
theorem x_ly3 : Cond.laysStatic "jdk/internal/util/Preconditions" "SIOOBE_FORMATTER" "Ljava/util/function/BiFunction;" ∈ lw_tbl := x_t3 (i := 27) rfl
theorem x_ly4 : Cond.initialized "jdk/internal/util/Preconditions" ∈ lw_tbl := x_t1 (i := 17) rfl
theorem x_ll : x_lit.length = x_sbyt.length := rfl
set_option maxRecDepth 20000 in
theorem x_C0 : (∀ w ∈ u_ws RX0 TX0 1, w ∈ x_bw) ∧ Cond.instantiable RX0 1 ∈ x_bw ∧ Cond.initialized RX0 ∈ x_bw := by
  refine ⟨fun w hw => ?_, (x_bw_in (x_t2 (i := 67) rfl) rfl), (x_bw_in (x_t1 (i := 9) rfl) rfl)⟩
  obtain ⟨k, hk, rfl⟩ := List.mem_map.mp hw
  have hk := List.mem_range.mp hk
  match k, hk with
  | 0, _ => exact (x_bw_in (x_t2 (i := 73) rfl) rfl)
  | k + 1, h => exact absurd h (by omega)
set_option maxRecDepth 20000 in
theorem x_C1 : (∀ w ∈ u_ws RX1 TX1 4, w ∈ x_bw) ∧ Cond.instantiable RX1 4 ∈ x_bw ∧ Cond.initialized RX1 ∈ x_bw := by
  refine ⟨fun w hw => ?_, (x_bw_in (x_t2 (i := 91) rfl) rfl), (x_bw_in (x_t1 (i := 11) rfl) rfl)⟩
  obtain ⟨k, hk, rfl⟩ := List.mem_map.mp hw
  have hk := List.mem_range.mp hk
  match k, hk with
  | 0, _ => exact (x_bw_in (x_t2 (i := 103) rfl) rfl)
  | 1, _ => exact (x_bw_in (x_t2 (i := 105) rfl) rfl)
  | 2, _ => exact (x_bw_in (x_t2 (i := 107) rfl) rfl)
  | 3, _ => exact (x_bw_in (x_t2 (i := 109) rfl) rfl)
  | k + 4, h => exact absurd h (by omega)
set_option maxRecDepth 20000 in
theorem x_C2 : (∀ w ∈ u_ws RX2 TX2 15, w ∈ x_bw) ∧ Cond.instantiable RX2 15 ∈ x_bw ∧ Cond.initialized RX2 ∈ x_bw := by
  refine ⟨fun w hw => ?_, (x_bw_in (x_t1 (i := 30) rfl) rfl), (x_bw_in (x_t1 (i := 2) rfl) rfl)⟩
  obtain ⟨k, hk, rfl⟩ := List.mem_map.mp hw
  have hk := List.mem_range.mp hk
  match k, hk with
  | 0, _ => exact (x_bw_in (x_t1 (i := 107) rfl) rfl)
  | 1, _ => exact (x_bw_in (x_t1 (i := 109) rfl) rfl)
  | 2, _ => exact (x_bw_in (x_t1 (i := 111) rfl) rfl)
  | 3, _ => exact (x_bw_in (x_t1 (i := 113) rfl) rfl)
  | 4, _ => exact (x_bw_in (x_t1 (i := 115) rfl) rfl)
  | 5, _ => exact (x_bw_in (x_t1 (i := 117) rfl) rfl)
  | 6, _ => exact (x_bw_in (x_t1 (i := 119) rfl) rfl)
  | 7, _ => exact (x_bw_in (x_t1 (i := 121) rfl) rfl)
  | 8, _ => exact (x_bw_in (x_t1 (i := 123) rfl) rfl)
  | 9, _ => exact (x_bw_in (x_t1 (i := 125) rfl) rfl)
  | 10, _ => exact (x_bw_in (x_t1 (i := 127) rfl) rfl)
  | 11, _ => exact (x_bw_in (x_t1 (i := 129) rfl) rfl)
  | 12, _ => exact (x_bw_in (x_t1 (i := 131) rfl) rfl)
  | 13, _ => exact (x_bw_in (x_t1 (i := 133) rfl) rfl)
  | 14, _ => exact (x_bw_in (x_t1 (i := 135) rfl) rfl)
  | k + 15, h => exact absurd h (by omega)
set_option maxRecDepth 20000 in
theorem x_C3 : (∀ w ∈ u_ws RX3 TX3 5, w ∈ x_bw) ∧ Cond.instantiable RX3 5 ∈ x_bw ∧ Cond.initialized RX3 ∈ x_bw := by
  refine ⟨fun w hw => ?_, (x_bw_in (x_t1 (i := 36) rfl) rfl), (x_bw_in (x_t1 (i := 3) rfl) rfl)⟩
  obtain ⟨k, hk, rfl⟩ := List.mem_map.mp hw
  have hk := List.mem_range.mp hk
  match k, hk with
  | 0, _ => exact (x_bw_in (x_t1 (i := 57) rfl) rfl)
  | 1, _ => exact (x_bw_in (x_t1 (i := 59) rfl) rfl)
  | 2, _ => exact (x_bw_in (x_t1 (i := 61) rfl) rfl)
  | 3, _ => exact (x_bw_in (x_t1 (i := 63) rfl) rfl)
  | 4, _ => exact (x_bw_in (x_t1 (i := 65) rfl) rfl)
  | k + 5, h => exact absurd h (by omega)
set_option maxRecDepth 20000 in
theorem x_C4 : (∀ w ∈ u_ws RX4 TX4 7, w ∈ x_bw) ∧ Cond.instantiable RX4 7 ∈ x_bw ∧ Cond.initialized RX4 ∈ x_bw := by
  refine ⟨fun w hw => ?_, (x_bw_in (x_t1 (i := 196) rfl) rfl), (x_bw_in (x_t1 (i := 6) rfl) rfl)⟩
  obtain ⟨k, hk, rfl⟩ := List.mem_map.mp hw
  have hk := List.mem_range.mp hk
  match k, hk with
  | 0, _ => exact (x_bw_in (x_t1 (i := 226) rfl) rfl)
  | 1, _ => exact (x_bw_in (x_t1 (i := 228) rfl) rfl)
  | 2, _ => exact (x_bw_in (x_t1 (i := 230) rfl) rfl)
  | 3, _ => exact (x_bw_in (x_t1 (i := 232) rfl) rfl)
  | 4, _ => exact (x_bw_in (x_t1 (i := 234) rfl) rfl)
  | 5, _ => exact (x_bw_in (x_t1 (i := 236) rfl) rfl)
  | 6, _ => exact (x_bw_in (x_t1 (i := 238) rfl) rfl)
  | k + 7, h => exact absurd h (by omega)
set_option maxRecDepth 20000 in
theorem x_C5 : (∀ w ∈ u_ws RX5 TX5 2, w ∈ x_bw) ∧ Cond.instantiable RX5 2 ∈ x_bw ∧ Cond.initialized RX5 ∈ x_bw := by
  refine ⟨fun w hw => ?_, (x_bw_in (x_t2 (i := 77) rfl) rfl), (x_bw_in (x_t1 (i := 10) rfl) rfl)⟩
  obtain ⟨k, hk, rfl⟩ := List.mem_map.mp hw
  have hk := List.mem_range.mp hk
  match k, hk with
  | 0, _ => exact (x_bw_in (x_t2 (i := 84) rfl) rfl)
  | 1, _ => exact (x_bw_in (x_t2 (i := 86) rfl) rfl)
  | k + 2, h => exact absurd h (by omega)
set_option maxRecDepth 20000 in
theorem x_C6 : (∀ w ∈ u_ws RX6 TX6 5, w ∈ x_bw) ∧ Cond.instantiable RX6 5 ∈ x_bw ∧ Cond.initialized RX6 ∈ x_bw := by
  refine ⟨fun w hw => ?_, (x_bw_in (x_t2 (i := 2) rfl) rfl), (x_bw_in (x_t1 (i := 7) rfl) rfl)⟩
  obtain ⟨k, hk, rfl⟩ := List.mem_map.mp hw
  have hk := List.mem_range.mp hk
  match k, hk with
  | 0, _ => exact (x_bw_in (x_t2 (i := 17) rfl) rfl)
  | 1, _ => exact (x_bw_in (x_t2 (i := 19) rfl) rfl)
  | 2, _ => exact (x_bw_in (x_t2 (i := 21) rfl) rfl)
  | 3, _ => exact (x_bw_in (x_t2 (i := 23) rfl) rfl)
  | 4, _ => exact (x_bw_in (x_t2 (i := 25) rfl) rfl)
  | k + 5, h => exact absurd h (by omega)
set_option maxRecDepth 20000 in
theorem x_C7 : (∀ w ∈ u_ws RX7 TX7 9, w ∈ x_bw) ∧ Cond.instantiable RX7 9 ∈ x_bw ∧ Cond.initialized RX7 ∈ x_bw := by
  refine ⟨fun w hw => ?_, (x_bw_in (x_t1 (i := 140) rfl) rfl), (x_bw_in (x_t1 (i := 4) rfl) rfl)⟩
  obtain ⟨k, hk, rfl⟩ := List.mem_map.mp hw
  have hk := List.mem_range.mp hk
  match k, hk with
  | 0, _ => exact (x_bw_in (x_t1 (i := 176) rfl) rfl)
  | 1, _ => exact (x_bw_in (x_t1 (i := 178) rfl) rfl)
  | 2, _ => exact (x_bw_in (x_t1 (i := 180) rfl) rfl)
  | 3, _ => exact (x_bw_in (x_t1 (i := 182) rfl) rfl)
  | 4, _ => exact (x_bw_in (x_t1 (i := 184) rfl) rfl)
  | 5, _ => exact (x_bw_in (x_t1 (i := 186) rfl) rfl)
  | 6, _ => exact (x_bw_in (x_t1 (i := 188) rfl) rfl)
  | 7, _ => exact (x_bw_in (x_t1 (i := 190) rfl) rfl)
  | 8, _ => exact (x_bw_in (x_t1 (i := 192) rfl) rfl)
  | k + 9, h => exact absurd h (by omega)
set_option maxRecDepth 20000 in
theorem x_C8 : (∀ w ∈ u_ws RX8 TX8 3, w ∈ x_bw) ∧ Cond.instantiable RX8 3 ∈ x_bw ∧ Cond.initialized RX8 ∈ x_bw := by
  refine ⟨fun w hw => ?_, (x_bw_in (x_t2 (i := 114) rfl) rfl), (x_bw_in (x_t1 (i := 12) rfl) rfl)⟩
  obtain ⟨k, hk, rfl⟩ := List.mem_map.mp hw
  have hk := List.mem_range.mp hk
  match k, hk with
  | 0, _ => exact (x_bw_in (x_t2 (i := 129) rfl) rfl)
  | 1, _ => exact (x_bw_in (x_t2 (i := 131) rfl) rfl)
  | 2, _ => exact (x_bw_in (x_t2 (i := 133) rfl) rfl)
  | k + 3, h => exact absurd h (by omega)
set_option maxRecDepth 20000 in
theorem x_C9 : (∀ w ∈ u_ws RX9 TX9 9, w ∈ x_bw) ∧ Cond.instantiable RX9 9 ∈ x_bw ∧ Cond.initialized RX9 ∈ x_bw := by
  refine ⟨fun w hw => ?_, (x_bw_in (x_t2 (i := 29) rfl) rfl), (x_bw_in (x_t1 (i := 8) rfl) rfl)⟩
  obtain ⟨k, hk, rfl⟩ := List.mem_map.mp hw
  have hk := List.mem_range.mp hk
  match k, hk with
  | 0, _ => exact (x_bw_in (x_t2 (i := 47) rfl) rfl)
  | 1, _ => exact (x_bw_in (x_t2 (i := 49) rfl) rfl)
  | 2, _ => exact (x_bw_in (x_t2 (i := 51) rfl) rfl)
  | 3, _ => exact (x_bw_in (x_t2 (i := 53) rfl) rfl)
  | 4, _ => exact (x_bw_in (x_t2 (i := 55) rfl) rfl)
  | 5, _ => exact (x_bw_in (x_t2 (i := 57) rfl) rfl)
  | 6, _ => exact (x_bw_in (x_t2 (i := 59) rfl) rfl)
  | 7, _ => exact (x_bw_in (x_t2 (i := 61) rfl) rfl)
  | 8, _ => exact (x_bw_in (x_t2 (i := 63) rfl) rfl)
  | k + 9, h => exact absurd h (by omega)
set_option maxRecDepth 20000 in
theorem x_C10 : (∀ w ∈ u_ws RX10 TX10 2, w ∈ x_bw) ∧ Cond.instantiable RX10 2 ∈ x_bw ∧ Cond.initialized RX10 ∈ x_bw := by
  refine ⟨fun w hw => ?_, (x_bw_in (x_t1 (i := 148) rfl) rfl), (x_bw_in (x_t1 (i := 5) rfl) rfl)⟩
  obtain ⟨k, hk, rfl⟩ := List.mem_map.mp hw
  have hk := List.mem_range.mp hk
  match k, hk with
  | 0, _ => exact (x_bw_in (x_t1 (i := 157) rfl) rfl)
  | 1, _ => exact (x_bw_in (x_t1 (i := 159) rfl) rfl)
  | k + 2, h => exact absurd h (by omega)
set_option maxRecDepth 20000 in
theorem x_C11 : (∀ w ∈ u_ws RX11 TX11 11, w ∈ x_bw) ∧ Cond.instantiable RX11 11 ∈ x_bw ∧ Cond.initialized RX11 ∈ x_bw := by
  refine ⟨fun w hw => ?_, (x_bw_in (x_t1 (i := 22) rfl) rfl), (x_bw_in (x_t1 (i := 1) rfl) rfl)⟩
  obtain ⟨k, hk, rfl⟩ := List.mem_map.mp hw
  have hk := List.mem_range.mp hk
  match k, hk with
  | 0, _ => exact (x_bw_in (x_t2 (i := 147) rfl) rfl)
  | 1, _ => exact (x_bw_in (x_t2 (i := 149) rfl) rfl)
  | 2, _ => exact (x_bw_in (x_t2 (i := 151) rfl) rfl)
  | 3, _ => exact (x_bw_in (x_t2 (i := 153) rfl) rfl)
  | 4, _ => exact (x_bw_in (x_t2 (i := 155) rfl) rfl)
  | 5, _ => exact (x_bw_in (x_t2 (i := 157) rfl) rfl)
  | 6, _ => exact (x_bw_in (x_t2 (i := 159) rfl) rfl)
  | 7, _ => exact (x_bw_in (x_t2 (i := 161) rfl) rfl)
  | 8, _ => exact (x_bw_in (x_t2 (i := 163) rfl) rfl)
  | 9, _ => exact (x_bw_in (x_t2 (i := 165) rfl) rfl)
  | 10, _ => exact (x_bw_in (x_t2 (i := 167) rfl) rfl)
  | k + 11, h => exact absurd h (by omega)
set_option maxRecDepth 20000 in
theorem x_C12 : (∀ w ∈ u_ws RX12 TX12 47, w ∈ x_bw) ∧ Cond.instantiable RX12 47 ∈ x_bw ∧ Cond.initialized RX12 ∈ x_bw := by
  refine ⟨fun w hw => ?_, (x_bw_in (x_t6 (i := 73) rfl) rfl), (x_bw_in (x_t1 (i := 13) rfl) rfl)⟩
  obtain ⟨k, hk, rfl⟩ := List.mem_map.mp hw
  have hk := List.mem_range.mp hk
  match k, hk with
  | 0, _ => exact (x_bw_in (x_t6 (i := 124) rfl) rfl)
  | 1, _ => exact (x_bw_in (x_t6 (i := 126) rfl) rfl)
  | 2, _ => exact (x_bw_in (x_t6 (i := 128) rfl) rfl)
  | 3, _ => exact (x_bw_in (x_t6 (i := 130) rfl) rfl)
  | 4, _ => exact (x_bw_in (x_t6 (i := 132) rfl) rfl)
  | 5, _ => exact (x_bw_in (x_t6 (i := 134) rfl) rfl)
  | 6, _ => exact (x_bw_in (x_t6 (i := 136) rfl) rfl)
  | 7, _ => exact (x_bw_in (x_t6 (i := 138) rfl) rfl)
  | 8, _ => exact (x_bw_in (x_t6 (i := 140) rfl) rfl)
  | 9, _ => exact (x_bw_in (x_t6 (i := 142) rfl) rfl)
  | 10, _ => exact (x_bw_in (x_t6 (i := 144) rfl) rfl)
  | 11, _ => exact (x_bw_in (x_t6 (i := 146) rfl) rfl)
  | 12, _ => exact (x_bw_in (x_t6 (i := 148) rfl) rfl)
  | 13, _ => exact (x_bw_in (x_t6 (i := 150) rfl) rfl)
  | 14, _ => exact (x_bw_in (x_t6 (i := 152) rfl) rfl)
  | 15, _ => exact (x_bw_in (x_t6 (i := 154) rfl) rfl)
  | 16, _ => exact (x_bw_in (x_t6 (i := 156) rfl) rfl)
  | 17, _ => exact (x_bw_in (x_t6 (i := 158) rfl) rfl)
  | 18, _ => exact (x_bw_in (x_t6 (i := 160) rfl) rfl)
  | 19, _ => exact (x_bw_in (x_t6 (i := 162) rfl) rfl)
  | 20, _ => exact (x_bw_in (x_t6 (i := 164) rfl) rfl)
  | 21, _ => exact (x_bw_in (x_t6 (i := 166) rfl) rfl)
  | 22, _ => exact (x_bw_in (x_t6 (i := 168) rfl) rfl)
  | 23, _ => exact (x_bw_in (x_t6 (i := 170) rfl) rfl)
  | 24, _ => exact (x_bw_in (x_t6 (i := 172) rfl) rfl)
  | 25, _ => exact (x_bw_in (x_t6 (i := 174) rfl) rfl)
  | 26, _ => exact (x_bw_in (x_t6 (i := 176) rfl) rfl)
  | 27, _ => exact (x_bw_in (x_t6 (i := 178) rfl) rfl)
  | 28, _ => exact (x_bw_in (x_t6 (i := 180) rfl) rfl)
  | 29, _ => exact (x_bw_in (x_t6 (i := 182) rfl) rfl)
  | 30, _ => exact (x_bw_in (x_t6 (i := 184) rfl) rfl)
  | 31, _ => exact (x_bw_in (x_t6 (i := 186) rfl) rfl)
  | 32, _ => exact (x_bw_in (x_t6 (i := 188) rfl) rfl)
  | 33, _ => exact (x_bw_in (x_t6 (i := 190) rfl) rfl)
  | 34, _ => exact (x_bw_in (x_t6 (i := 192) rfl) rfl)
  | 35, _ => exact (x_bw_in (x_t6 (i := 194) rfl) rfl)
  | 36, _ => exact (x_bw_in (x_t6 (i := 196) rfl) rfl)
  | 37, _ => exact (x_bw_in (x_t6 (i := 198) rfl) rfl)
  | 38, _ => exact (x_bw_in (x_t6 (i := 200) rfl) rfl)
  | 39, _ => exact (x_bw_in (x_t6 (i := 202) rfl) rfl)
  | 40, _ => exact (x_bw_in (x_t6 (i := 204) rfl) rfl)
  | 41, _ => exact (x_bw_in (x_t6 (i := 206) rfl) rfl)
  | 42, _ => exact (x_bw_in (x_t6 (i := 208) rfl) rfl)
  | 43, _ => exact (x_bw_in (x_t6 (i := 210) rfl) rfl)
  | 44, _ => exact (x_bw_in (x_t6 (i := 212) rfl) rfl)
  | 45, _ => exact (x_bw_in (x_t6 (i := 214) rfl) rfl)
  | 46, _ => exact (x_bw_in (x_t6 (i := 216) rfl) rfl)
  | k + 47, h => exact absurd h (by omega)
theorem x_okC_ok : x_okC := by
  intro ci C T N h
  match ci, h with
  | 0, h => cases h; exact ⟨x_C0.1, tyX0_ok, nmX0, x_C0.2.1, x_C0.2.2⟩
  | 1, h => cases h; exact ⟨x_C1.1, tyX1_ok, nmX1, x_C1.2.1, x_C1.2.2⟩
  | 2, h => cases h; exact ⟨x_C2.1, tyX2_ok, nmX2, x_C2.2.1, x_C2.2.2⟩
  | 3, h => cases h; exact ⟨x_C3.1, tyX3_ok, nmX3, x_C3.2.1, x_C3.2.2⟩
  | 4, h => cases h; exact ⟨x_C4.1, tyX4_ok, nmX4, x_C4.2.1, x_C4.2.2⟩
  | 5, h => cases h; exact ⟨x_C5.1, tyX5_ok, nmX5, x_C5.2.1, x_C5.2.2⟩
  | 6, h => cases h; exact ⟨x_C6.1, tyX6_ok, nmX6, x_C6.2.1, x_C6.2.2⟩
  | 7, h => cases h; exact ⟨x_C7.1, tyX7_ok, nmX7, x_C7.2.1, x_C7.2.2⟩
  | 8, h => cases h; exact ⟨x_C8.1, tyX8_ok, nmX8, x_C8.2.1, x_C8.2.2⟩
  | 9, h => cases h; exact ⟨x_C9.1, tyX9_ok, nmX9, x_C9.2.1, x_C9.2.2⟩
  | 10, h => cases h; exact ⟨x_C10.1, tyX10_ok, nmX10, x_C10.2.1, x_C10.2.2⟩
  | 11, h => cases h; exact ⟨x_C11.1, tyX11_ok, nmX11, x_C11.2.1, x_C11.2.2⟩
  | 12, h => cases h; exact ⟨x_C12.1, tyX12_ok, nmX12, x_C12.2.1, x_C12.2.2⟩
  | k + 13, h => exact absurd h (by simp [vwCl])
