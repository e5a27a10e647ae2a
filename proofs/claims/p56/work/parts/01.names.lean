-- ===== PART A: goes FIRST, ahead of the names: the tables' words, and 'selects' of the private methods out of them =====
/-- a private method of a class that the tables say can be made, by its rows of tables_1 -/
def lw_okq (q : MethodName × Nat) : Prop := (q.1.cls ≠ "java/lang/invoke/MethodHandle" ∧ q.1.cls ≠ "java/lang/invoke/VarHandle") ∧ Cond.instantiable q.1.cls q.2 ∈ tables_1 ∧ Cond.privateMethod q.1 ∈ tables_1 ∧ Cond.instanceMethod q.1 ∈ tables_1
theorem y_wt1 {i : Nat} {w : Cond} (e : tables_1_1[i]? = some w) : w ∈ tables_1 := (List.mem_append_left _ (List.mem_of_getElem? e))
theorem y_wt2 {i : Nat} {w : Cond} (e : tables_1_2[i]? = some w) : w ∈ tables_1 := (List.mem_append_right _ (List.mem_append_left _ (List.mem_of_getElem? e)))
theorem y_wt3 {i : Nat} {w : Cond} (e : tables_1_3[i]? = some w) : w ∈ tables_1 := (List.mem_append_right _ (List.mem_append_right _ (List.mem_append_left _ (List.mem_of_getElem? e))))
theorem y_wt4 {i : Nat} {w : Cond} (e : tables_1_4[i]? = some w) : w ∈ tables_1 := (List.mem_append_right _ (List.mem_append_right _ (List.mem_append_right _ (List.mem_append_left _ (List.mem_of_getElem? e)))))
theorem y_wt5 {i : Nat} {w : Cond} (e : tables_1_5[i]? = some w) : w ∈ tables_1 := (List.mem_append_right _ (List.mem_append_right _ (List.mem_append_right _ (List.mem_append_right _ (List.mem_append_left _ (List.mem_of_getElem? e))))))
theorem y_wt6 {i : Nat} {w : Cond} (e : tables_1_6[i]? = some w) : w ∈ tables_1 := (List.mem_append_right _ (List.mem_append_right _ (List.mem_append_right _ (List.mem_append_right _ (List.mem_append_right _ (List.mem_append_left _ (List.mem_of_getElem? e)))))))
theorem y_wt7 {i : Nat} {w : Cond} (e : tables_1_7[i]? = some w) : w ∈ tables_1 := (List.mem_append_right _ (List.mem_append_right _ (List.mem_append_right _ (List.mem_append_right _ (List.mem_append_right _ (List.mem_append_right _ (List.mem_append_left _ (List.mem_of_getElem? e))))))))
theorem y_wt8 {i : Nat} {w : Cond} (e : tables_1_8[i]? = some w) : w ∈ tables_1 := (List.mem_append_right _ (List.mem_append_right _ (List.mem_append_right _ (List.mem_append_right _ (List.mem_append_right _ (List.mem_append_right _ (List.mem_append_right _ (List.mem_append_left _ (List.mem_of_getElem? e)))))))))
theorem y_wt9 {i : Nat} {w : Cond} (e : tables_1_9[i]? = some w) : w ∈ tables_1 := (List.mem_append_right _ (List.mem_append_right _ (List.mem_append_right _ (List.mem_append_right _ (List.mem_append_right _ (List.mem_append_right _ (List.mem_append_right _ (List.mem_append_right _ (List.mem_of_getElem? e)))))))))
theorem lw_p0 : lw_okq (⟨"MoleBoard$Reader", "step", "()V"⟩, 9) := ⟨⟨by decide +kernel, by decide +kernel⟩, y_wt1 (i := 140) rfl, y_wt2 (i := 199) rfl, y_wt2 (i := 200) rfl⟩
theorem lw_p1 : lw_okq (⟨"MoleBoard$Reader", "readLine", "()V"⟩, 9) := ⟨⟨by decide +kernel, by decide +kernel⟩, y_wt1 (i := 140) rfl, y_wt2 (i := 220) rfl, y_wt2 (i := 221) rfl⟩
theorem lw_p2 : lw_okq (⟨"MoleBoard$Reader", "kindOfLine", "()I"⟩, 9) := ⟨⟨by decide +kernel, by decide +kernel⟩, y_wt1 (i := 140) rfl, y_wt2 (i := 224) rfl, y_wt2 (i := 225) rfl⟩
theorem lw_p3 : lw_okq (⟨"MoleBoard$Reader", "standsAt", "(Ljava/lang/String;I)Z"⟩, 9) := ⟨⟨by decide +kernel, by decide +kernel⟩, y_wt1 (i := 140) rfl, y_wt2 (i := 239) rfl, y_wt3 (i := 0) rfl⟩
theorem lw_p4 : lw_okq (⟨"MoleBoard$Reader", "isSpelled", "(Ljava/lang/String;I)Z"⟩, 9) := ⟨⟨by decide +kernel, by decide +kernel⟩, y_wt1 (i := 140) rfl, y_wt3 (i := 51) rfl, y_wt3 (i := 52) rfl⟩
theorem lw_p5 : lw_okq (⟨"MoleBoard$Reader", "blame", "(I)V"⟩, 9) := ⟨⟨by decide +kernel, by decide +kernel⟩, y_wt1 (i := 140) rfl, y_wt3 (i := 55) rfl, y_wt3 (i := 56) rfl⟩
theorem lw_p6 : lw_okq (⟨"MoleBoard$Reader", "isFull", "(I)Z"⟩, 9) := ⟨⟨by decide +kernel, by decide +kernel⟩, y_wt1 (i := 140) rfl, y_wt3 (i := 59) rfl, y_wt3 (i := 60) rfl⟩
theorem lw_p7 : lw_okq (⟨"MoleBoard$Reader", "judge", "(II)I"⟩, 9) := ⟨⟨by decide +kernel, by decide +kernel⟩, y_wt1 (i := 140) rfl, y_wt3 (i := 66) rfl, y_wt3 (i := 67) rfl⟩
theorem lw_p8 : lw_okq (⟨"MoleBoard$Reader", "fitsBoard", "(I)Z"⟩, 9) := ⟨⟨by decide +kernel, by decide +kernel⟩, y_wt1 (i := 140) rfl, y_wt3 (i := 70) rfl, y_wt3 (i := 71) rfl⟩
theorem lw_p9 : lw_okq (⟨"MoleBoard$Reader", "within", "(II)I"⟩, 9) := ⟨⟨by decide +kernel, by decide +kernel⟩, y_wt1 (i := 140) rfl, y_wt3 (i := 74) rfl, y_wt3 (i := 75) rfl⟩
theorem lw_p10 : lw_okq (⟨"MoleBoard$Reader", "judgeFrom", "()I"⟩, 9) := ⟨⟨by decide +kernel, by decide +kernel⟩, y_wt1 (i := 140) rfl, y_wt3 (i := 78) rfl, y_wt3 (i := 79) rfl⟩
theorem lw_p11 : lw_okq (⟨"MoleBoard$Reader", "isOpen", "()Z"⟩, 9) := ⟨⟨by decide +kernel, by decide +kernel⟩, y_wt1 (i := 140) rfl, y_wt3 (i := 90) rfl, y_wt3 (i := 91) rfl⟩
theorem lw_p12 : lw_okq (⟨"MoleBoard$Reader", "apply", "(I)V"⟩, 9) := ⟨⟨by decide +kernel, by decide +kernel⟩, y_wt1 (i := 140) rfl, y_wt3 (i := 115) rfl, y_wt3 (i := 116) rfl⟩
theorem lw_p13 : lw_okq (⟨"MoleBoard$Reader", "addPlayer", "()V"⟩, 9) := ⟨⟨by decide +kernel, by decide +kernel⟩, y_wt1 (i := 140) rfl, y_wt3 (i := 127) rfl, y_wt3 (i := 128) rfl⟩
theorem lw_p14 : lw_okq (⟨"MoleBoard", "rowsKept", "()I"⟩, 11) := ⟨⟨by decide +kernel, by decide +kernel⟩, y_wt1 (i := 22) rfl, y_wt3 (i := 184) rfl, y_wt3 (i := 185) rfl⟩
theorem lw_p15 : lw_okq (⟨"MoleBoard$Game", "begin", "()V"⟩, 7) := ⟨⟨by decide +kernel, by decide +kernel⟩, y_wt1 (i := 196) rfl, y_wt3 (i := 204) rfl, y_wt3 (i := 205) rfl⟩
def lw_privs_1 : List (MethodName × Nat) := [(⟨"MoleBoard$Reader", "step", "()V"⟩, 9), (⟨"MoleBoard$Reader", "readLine", "()V"⟩, 9), (⟨"MoleBoard$Reader", "kindOfLine", "()I"⟩, 9), (⟨"MoleBoard$Reader", "standsAt", "(Ljava/lang/String;I)Z"⟩, 9), (⟨"MoleBoard$Reader", "isSpelled", "(Ljava/lang/String;I)Z"⟩, 9), (⟨"MoleBoard$Reader", "blame", "(I)V"⟩, 9), (⟨"MoleBoard$Reader", "isFull", "(I)Z"⟩, 9), (⟨"MoleBoard$Reader", "judge", "(II)I"⟩, 9), (⟨"MoleBoard$Reader", "fitsBoard", "(I)Z"⟩, 9), (⟨"MoleBoard$Reader", "within", "(II)I"⟩, 9), (⟨"MoleBoard$Reader", "judgeFrom", "()I"⟩, 9), (⟨"MoleBoard$Reader", "isOpen", "()Z"⟩, 9), (⟨"MoleBoard$Reader", "apply", "(I)V"⟩, 9), (⟨"MoleBoard$Reader", "addPlayer", "()V"⟩, 9), (⟨"MoleBoard", "rowsKept", "()I"⟩, 11), (⟨"MoleBoard$Game", "begin", "()V"⟩, 7)]
theorem lw_r1 : ∀ q ∈ lw_privs_1, lw_okq q := List.forall_mem_cons.mpr ⟨lw_p0, List.forall_mem_cons.mpr ⟨lw_p1, List.forall_mem_cons.mpr ⟨lw_p2, List.forall_mem_cons.mpr ⟨lw_p3, List.forall_mem_cons.mpr ⟨lw_p4, List.forall_mem_cons.mpr ⟨lw_p5, List.forall_mem_cons.mpr ⟨lw_p6, List.forall_mem_cons.mpr ⟨lw_p7, List.forall_mem_cons.mpr ⟨lw_p8, List.forall_mem_cons.mpr ⟨lw_p9, List.forall_mem_cons.mpr ⟨lw_p10, List.forall_mem_cons.mpr ⟨lw_p11, List.forall_mem_cons.mpr ⟨lw_p12, List.forall_mem_cons.mpr ⟨lw_p13, List.forall_mem_cons.mpr ⟨lw_p14, List.forall_mem_cons.mpr ⟨lw_p15, fun _ h => absurd h List.not_mem_nil⟩⟩⟩⟩⟩⟩⟩⟩⟩⟩⟩⟩⟩⟩⟩⟩
theorem lw_p16 : lw_okq (⟨"MoleBoard$Game", "hasRoom", "(LMoleBoard$Board;)Z"⟩, 7) := ⟨⟨by decide +kernel, by decide +kernel⟩, y_wt1 (i := 196) rfl, y_wt3 (i := 209) rfl, y_wt3 (i := 210) rfl⟩
theorem lw_p17 : lw_okq (⟨"MoleBoard$Game", "add", "(LMoleBoard$Board;III)V"⟩, 7) := ⟨⟨by decide +kernel, by decide +kernel⟩, y_wt1 (i := 196) rfl, y_wt3 (i := 215) rfl, y_wt3 (i := 216) rfl⟩
theorem lw_p18 : lw_okq (⟨"MoleBoard", "makeReady", "(I)Z"⟩, 11) := ⟨⟨by decide +kernel, by decide +kernel⟩, y_wt1 (i := 22) rfl, y_wt4 (i := 33) rfl, y_wt4 (i := 34) rfl⟩
theorem lw_p19 : lw_okq (⟨"MoleBoard", "runOf", "(I)Z"⟩, 11) := ⟨⟨by decide +kernel, by decide +kernel⟩, y_wt1 (i := 22) rfl, y_wt4 (i := 47) rfl, y_wt4 (i := 48) rfl⟩
theorem lw_p20 : lw_okq (⟨"MoleBoard$Run", "begin", "(LMoleBoard$Game;LMoleBoard$Player;)V"⟩, 9) := ⟨⟨by decide +kernel, by decide +kernel⟩, y_wt2 (i := 29) rfl, y_wt4 (i := 55) rfl, y_wt4 (i := 56) rfl⟩
theorem lw_p21 : lw_okq (⟨"MoleBoard$Run", "goFor", "(LMoleBoard$Board;LMoleBoard$Game;LMoleBoard$Player;II)V"⟩, 9) := ⟨⟨by decide +kernel, by decide +kernel⟩, y_wt2 (i := 29) rfl, y_wt4 (i := 59) rfl, y_wt4 (i := 60) rfl⟩
theorem lw_p22 : lw_okq (⟨"MoleBoard$Run", "strike", "(LMoleBoard$Board;LMoleBoard$Game;LMoleBoard$Player;II)Z"⟩, 9) := ⟨⟨by decide +kernel, by decide +kernel⟩, y_wt2 (i := 29) rfl, y_wt4 (i := 67) rfl, y_wt4 (i := 68) rfl⟩
theorem lw_p23 : lw_okq (⟨"MoleBoard$Best", "keep", "(III)V"⟩, 1) := ⟨⟨by decide +kernel, by decide +kernel⟩, y_wt2 (i := 67) rfl, y_wt4 (i := 134) rfl, y_wt4 (i := 135) rfl⟩
theorem lw_p24 : lw_okq (⟨"MoleBoard$Best", "goOn", "(LMoleBoard$Board;LMoleBoard$Game;LMoleBoard$Player;II)I"⟩, 1) := ⟨⟨by decide +kernel, by decide +kernel⟩, y_wt2 (i := 67) rfl, y_wt4 (i := 138) rfl, y_wt4 (i := 139) rfl⟩
theorem lw_p25 : lw_okq (⟨"MoleBoard$Best", "freeAt", "(II)I"⟩, 1) := ⟨⟨by decide +kernel, by decide +kernel⟩, y_wt2 (i := 67) rfl, y_wt4 (i := 143) rfl, y_wt4 (i := 144) rfl⟩
theorem lw_p26 : lw_okq (⟨"MoleBoard", "hitsKnowing", "(I)I"⟩, 11) := ⟨⟨by decide +kernel, by decide +kernel⟩, y_wt1 (i := 22) rfl, y_wt4 (i := 155) rfl, y_wt4 (i := 156) rfl⟩
theorem lw_p27 : lw_okq (⟨"MoleBoard", "hitsLagging", "(I)I"⟩, 11) := ⟨⟨by decide +kernel, by decide +kernel⟩, y_wt1 (i := 22) rfl, y_wt4 (i := 172) rfl, y_wt4 (i := 173) rfl⟩
theorem lw_p28 : lw_okq (⟨"MoleBoard", "countLots", "(II)Z"⟩, 11) := ⟨⟨by decide +kernel, by decide +kernel⟩, y_wt1 (i := 22) rfl, y_wt4 (i := 220) rfl, y_wt4 (i := 221) rfl⟩
theorem lw_p29 : lw_okq (⟨"MoleBoard$Lots", "waysTo", "(II)J"⟩, 2) := ⟨⟨by decide +kernel, by decide +kernel⟩, y_wt2 (i := 77) rfl, y_wt5 (i := 3) rfl, y_wt5 (i := 4) rfl⟩
theorem lw_p30 : lw_okq (⟨"MoleBoard$Lots", "growFrom", "(LMoleBoard$Board;III)V"⟩, 2) := ⟨⟨by decide +kernel, by decide +kernel⟩, y_wt2 (i := 77) rfl, y_wt5 (i := 7) rfl, y_wt5 (i := 8) rfl⟩
theorem lw_p31 : lw_okq (⟨"MoleBoard", "whyUnheard", "(I)I"⟩, 11) := ⟨⟨by decide +kernel, by decide +kernel⟩, y_wt1 (i := 22) rfl, y_wt5 (i := 55) rfl, y_wt5 (i := 56) rfl⟩
def lw_privs_2 : List (MethodName × Nat) := [(⟨"MoleBoard$Game", "hasRoom", "(LMoleBoard$Board;)Z"⟩, 7), (⟨"MoleBoard$Game", "add", "(LMoleBoard$Board;III)V"⟩, 7), (⟨"MoleBoard", "makeReady", "(I)Z"⟩, 11), (⟨"MoleBoard", "runOf", "(I)Z"⟩, 11), (⟨"MoleBoard$Run", "begin", "(LMoleBoard$Game;LMoleBoard$Player;)V"⟩, 9), (⟨"MoleBoard$Run", "goFor", "(LMoleBoard$Board;LMoleBoard$Game;LMoleBoard$Player;II)V"⟩, 9), (⟨"MoleBoard$Run", "strike", "(LMoleBoard$Board;LMoleBoard$Game;LMoleBoard$Player;II)Z"⟩, 9), (⟨"MoleBoard$Best", "keep", "(III)V"⟩, 1), (⟨"MoleBoard$Best", "goOn", "(LMoleBoard$Board;LMoleBoard$Game;LMoleBoard$Player;II)I"⟩, 1), (⟨"MoleBoard$Best", "freeAt", "(II)I"⟩, 1), (⟨"MoleBoard", "hitsKnowing", "(I)I"⟩, 11), (⟨"MoleBoard", "hitsLagging", "(I)I"⟩, 11), (⟨"MoleBoard", "countLots", "(II)Z"⟩, 11), (⟨"MoleBoard$Lots", "waysTo", "(II)J"⟩, 2), (⟨"MoleBoard$Lots", "growFrom", "(LMoleBoard$Board;III)V"⟩, 2), (⟨"MoleBoard", "whyUnheard", "(I)I"⟩, 11)]
theorem lw_r2 : ∀ q ∈ lw_privs_2, lw_okq q := List.forall_mem_cons.mpr ⟨lw_p16, List.forall_mem_cons.mpr ⟨lw_p17, List.forall_mem_cons.mpr ⟨lw_p18, List.forall_mem_cons.mpr ⟨lw_p19, List.forall_mem_cons.mpr ⟨lw_p20, List.forall_mem_cons.mpr ⟨lw_p21, List.forall_mem_cons.mpr ⟨lw_p22, List.forall_mem_cons.mpr ⟨lw_p23, List.forall_mem_cons.mpr ⟨lw_p24, List.forall_mem_cons.mpr ⟨lw_p25, List.forall_mem_cons.mpr ⟨lw_p26, List.forall_mem_cons.mpr ⟨lw_p27, List.forall_mem_cons.mpr ⟨lw_p28, List.forall_mem_cons.mpr ⟨lw_p29, List.forall_mem_cons.mpr ⟨lw_p30, List.forall_mem_cons.mpr ⟨lw_p31, fun _ h => absurd h List.not_mem_nil⟩⟩⟩⟩⟩⟩⟩⟩⟩⟩⟩⟩⟩⟩⟩⟩
theorem lw_p32 : lw_okq (⟨"MoleBoard$Row", "isPeriod", "(I)Z"⟩, 3) := ⟨⟨by decide +kernel, by decide +kernel⟩, y_wt2 (i := 114) rfl, y_wt5 (i := 70) rfl, y_wt5 (i := 71) rfl⟩
theorem lw_p33 : lw_okq (⟨"MoleBoard$Drum", "alike", "(II)I"⟩, 5) := ⟨⟨by decide +kernel, by decide +kernel⟩, y_wt1 (i := 36) rfl, y_wt5 (i := 112) rfl, y_wt5 (i := 113) rfl⟩
theorem lw_p34 : lw_okq (⟨"MoleBoard", "lookPoints", "(I)I"⟩, 11) := ⟨⟨by decide +kernel, by decide +kernel⟩, y_wt1 (i := 22) rfl, y_wt5 (i := 134) rfl, y_wt5 (i := 135) rfl⟩
theorem lw_p35 : lw_okq (⟨"MoleBoard", "ticketsOfRun", "()I"⟩, 11) := ⟨⟨by decide +kernel, by decide +kernel⟩, y_wt1 (i := 22) rfl, y_wt5 (i := 160) rfl, y_wt5 (i := 161) rfl⟩
theorem lw_p36 : lw_okq (⟨"MoleBoard", "whyNoBlows", "(I)I"⟩, 11) := ⟨⟨by decide +kernel, by decide +kernel⟩, y_wt1 (i := 22) rfl, y_wt5 (i := 172) rfl, y_wt5 (i := 173) rfl⟩
theorem lw_p37 : lw_okq (⟨"MoleBoard$Blows", "judgeOne", "(LMoleBoard$Game;III)V"⟩, 4) := ⟨⟨by decide +kernel, by decide +kernel⟩, y_wt2 (i := 91) rfl, y_wt5 (i := 180) rfl, y_wt5 (i := 181) rfl⟩
theorem lw_p38 : lw_okq (⟨"MoleBoardModel", "advance", "()V"⟩, 47) := ⟨⟨by decide +kernel, by decide +kernel⟩, y_wt6 (i := 73) rfl, y_wt7 (i := 9) rfl, y_wt7 (i := 10) rfl⟩
theorem lw_p39 : lw_okq (⟨"MoleBoardModel", "see", "(I)I"⟩, 47) := ⟨⟨by decide +kernel, by decide +kernel⟩, y_wt6 (i := 73) rfl, y_wt7 (i := 13) rfl, y_wt7 (i := 14) rfl⟩
theorem lw_p40 : lw_okq (⟨"MoleBoardModel", "good", "()Z"⟩, 47) := ⟨⟨by decide +kernel, by decide +kernel⟩, y_wt6 (i := 73) rfl, y_wt7 (i := 23) rfl, y_wt7 (i := 24) rfl⟩
theorem lw_p41 : lw_okq (⟨"MoleBoardModel", "readLine", "()V"⟩, 47) := ⟨⟨by decide +kernel, by decide +kernel⟩, y_wt6 (i := 73) rfl, y_wt7 (i := 27) rfl, y_wt7 (i := 28) rfl⟩
theorem lw_p42 : lw_okq (⟨"MoleBoardModel", "readFirst", "()V"⟩, 47) := ⟨⟨by decide +kernel, by decide +kernel⟩, y_wt6 (i := 73) rfl, y_wt7 (i := 31) rfl, y_wt7 (i := 32) rfl⟩
theorem lw_p43 : lw_okq (⟨"MoleBoardModel", "needs", "(Ljava/lang/String;)V"⟩, 47) := ⟨⟨by decide +kernel, by decide +kernel⟩, y_wt6 (i := 73) rfl, y_wt7 (i := 36) rfl, y_wt7 (i := 37) rfl⟩
theorem lw_p44 : lw_okq (⟨"MoleBoardModel", "takes", "(Ljava/lang/String;)Z"⟩, 47) := ⟨⟨by decide +kernel, by decide +kernel⟩, y_wt6 (i := 73) rfl, y_wt7 (i := 40) rfl, y_wt7 (i := 41) rfl⟩
theorem lw_p45 : lw_okq (⟨"MoleBoardModel", "is", "(Ljava/lang/String;)Z"⟩, 47) := ⟨⟨by decide +kernel, by decide +kernel⟩, y_wt6 (i := 73) rfl, y_wt7 (i := 44) rfl, y_wt7 (i := 45) rfl⟩
theorem lw_p46 : lw_okq (⟨"MoleBoardModel", "errs", "(I)V"⟩, 47) := ⟨⟨by decide +kernel, by decide +kernel⟩, y_wt6 (i := 73) rfl, y_wt7 (i := 50) rfl, y_wt7 (i := 51) rfl⟩
theorem lw_p47 : lw_okq (⟨"MoleBoardModel", "told", "(Ljava/lang/String;II)I"⟩, 47) := ⟨⟨by decide +kernel, by decide +kernel⟩, y_wt6 (i := 73) rfl, y_wt7 (i := 55) rfl, y_wt7 (i := 56) rfl⟩
def lw_privs_3 : List (MethodName × Nat) := [(⟨"MoleBoard$Row", "isPeriod", "(I)Z"⟩, 3), (⟨"MoleBoard$Drum", "alike", "(II)I"⟩, 5), (⟨"MoleBoard", "lookPoints", "(I)I"⟩, 11), (⟨"MoleBoard", "ticketsOfRun", "()I"⟩, 11), (⟨"MoleBoard", "whyNoBlows", "(I)I"⟩, 11), (⟨"MoleBoard$Blows", "judgeOne", "(LMoleBoard$Game;III)V"⟩, 4), (⟨"MoleBoardModel", "advance", "()V"⟩, 47), (⟨"MoleBoardModel", "see", "(I)I"⟩, 47), (⟨"MoleBoardModel", "good", "()Z"⟩, 47), (⟨"MoleBoardModel", "readLine", "()V"⟩, 47), (⟨"MoleBoardModel", "readFirst", "()V"⟩, 47), (⟨"MoleBoardModel", "needs", "(Ljava/lang/String;)V"⟩, 47), (⟨"MoleBoardModel", "takes", "(Ljava/lang/String;)Z"⟩, 47), (⟨"MoleBoardModel", "is", "(Ljava/lang/String;)Z"⟩, 47), (⟨"MoleBoardModel", "errs", "(I)V"⟩, 47), (⟨"MoleBoardModel", "told", "(Ljava/lang/String;II)I"⟩, 47)]
theorem lw_r3 : ∀ q ∈ lw_privs_3, lw_okq q := List.forall_mem_cons.mpr ⟨lw_p32, List.forall_mem_cons.mpr ⟨lw_p33, List.forall_mem_cons.mpr ⟨lw_p34, List.forall_mem_cons.mpr ⟨lw_p35, List.forall_mem_cons.mpr ⟨lw_p36, List.forall_mem_cons.mpr ⟨lw_p37, List.forall_mem_cons.mpr ⟨lw_p38, List.forall_mem_cons.mpr ⟨lw_p39, List.forall_mem_cons.mpr ⟨lw_p40, List.forall_mem_cons.mpr ⟨lw_p41, List.forall_mem_cons.mpr ⟨lw_p42, List.forall_mem_cons.mpr ⟨lw_p43, List.forall_mem_cons.mpr ⟨lw_p44, List.forall_mem_cons.mpr ⟨lw_p45, List.forall_mem_cons.mpr ⟨lw_p46, List.forall_mem_cons.mpr ⟨lw_p47, fun _ h => absurd h List.not_mem_nil⟩⟩⟩⟩⟩⟩⟩⟩⟩⟩⟩⟩⟩⟩⟩⟩
theorem lw_p48 : lw_okq (⟨"MoleBoardModel", "number", "(II)I"⟩, 47) := ⟨⟨by decide +kernel, by decide +kernel⟩, y_wt6 (i := 73) rfl, y_wt7 (i := 59) rfl, y_wt7 (i := 60) rfl⟩
theorem lw_p49 : lw_okq (⟨"MoleBoardModel", "readNext", "()V"⟩, 47) := ⟨⟨by decide +kernel, by decide +kernel⟩, y_wt6 (i := 73) rfl, y_wt7 (i := 66) rfl, y_wt7 (i := 67) rfl⟩
theorem lw_p50 : lw_okq (⟨"MoleBoardModel", "readStay", "()V"⟩, 47) := ⟨⟨by decide +kernel, by decide +kernel⟩, y_wt6 (i := 73) rfl, y_wt7 (i := 77) rfl, y_wt7 (i := 78) rfl⟩
theorem lw_p51 : lw_okq (⟨"MoleBoardModel", "freshStay", "(I)I"⟩, 47) := ⟨⟨by decide +kernel, by decide +kernel⟩, y_wt6 (i := 73) rfl, y_wt7 (i := 82) rfl, y_wt7 (i := 83) rfl⟩
theorem lw_p52 : lw_okq (⟨"MoleBoardModel", "readShut", "()V"⟩, 47) := ⟨⟨by decide +kernel, by decide +kernel⟩, y_wt6 (i := 73) rfl, y_wt7 (i := 86) rfl, y_wt7 (i := 87) rfl⟩
theorem lw_p53 : lw_okq (⟨"MoleBoardModel", "isNextHole", "()Z"⟩, 47) := ⟨⟨by decide +kernel, by decide +kernel⟩, y_wt6 (i := 73) rfl, y_wt7 (i := 90) rfl, y_wt7 (i := 91) rfl⟩
theorem lw_p54 : lw_okq (⟨"MoleBoardModel", "freshHoles", "()I"⟩, 47) := ⟨⟨by decide +kernel, by decide +kernel⟩, y_wt6 (i := 73) rfl, y_wt7 (i := 94) rfl, y_wt7 (i := 95) rfl⟩
theorem lw_p55 : lw_okq (⟨"MoleBoardModel", "isFreshComing", "(I)Z"⟩, 47) := ⟨⟨by decide +kernel, by decide +kernel⟩, y_wt6 (i := 73) rfl, y_wt7 (i := 98) rfl, y_wt7 (i := 99) rfl⟩
theorem lw_p56 : lw_okq (⟨"MoleBoardModel", "readComing", "(ZZ)V"⟩, 47) := ⟨⟨by decide +kernel, by decide +kernel⟩, y_wt6 (i := 73) rfl, y_wt7 (i := 102) rfl, y_wt7 (i := 103) rfl⟩
theorem lw_p57 : lw_okq (⟨"MoleBoardModel", "readHole", "(I)I"⟩, 47) := ⟨⟨by decide +kernel, by decide +kernel⟩, y_wt6 (i := 73) rfl, y_wt7 (i := 106) rfl, y_wt7 (i := 107) rfl⟩
theorem lw_p58 : lw_okq (⟨"MoleBoardModel", "readPlayer", "()V"⟩, 47) := ⟨⟨by decide +kernel, by decide +kernel⟩, y_wt6 (i := 73) rfl, y_wt7 (i := 110) rfl, y_wt7 (i := 111) rfl⟩
theorem lw_p59 : lw_okq (⟨"MoleBoardModel", "isComing", "(I)Z"⟩, 47) := ⟨⟨by decide +kernel, by decide +kernel⟩, y_wt6 (i := 73) rfl, y_wt7 (i := 124) rfl, y_wt7 (i := 125) rfl⟩
theorem lw_p60 : lw_okq (⟨"MoleBoardModel", "ofComing", "(II)I"⟩, 47) := ⟨⟨by decide +kernel, by decide +kernel⟩, y_wt6 (i := 73) rfl, y_wt7 (i := 128) rfl, y_wt7 (i := 129) rfl⟩
theorem lw_p61 : lw_okq (⟨"MoleBoardModel", "isPlayer", "(I)Z"⟩, 47) := ⟨⟨by decide +kernel, by decide +kernel⟩, y_wt6 (i := 73) rfl, y_wt7 (i := 136) rfl, y_wt7 (i := 137) rfl⟩
theorem lw_p62 : lw_okq (⟨"MoleBoardModel", "of", "(II)I"⟩, 47) := ⟨⟨by decide +kernel, by decide +kernel⟩, y_wt6 (i := 73) rfl, y_wt7 (i := 141) rfl, y_wt7 (i := 142) rfl⟩
theorem lw_p63 : lw_okq (⟨"MoleBoardModel", "isTick", "(J)Z"⟩, 47) := ⟨⟨by decide +kernel, by decide +kernel⟩, y_wt6 (i := 73) rfl, y_wt7 (i := 149) rfl, y_wt7 (i := 150) rfl⟩
def lw_privs_4 : List (MethodName × Nat) := [(⟨"MoleBoardModel", "number", "(II)I"⟩, 47), (⟨"MoleBoardModel", "readNext", "()V"⟩, 47), (⟨"MoleBoardModel", "readStay", "()V"⟩, 47), (⟨"MoleBoardModel", "freshStay", "(I)I"⟩, 47), (⟨"MoleBoardModel", "readShut", "()V"⟩, 47), (⟨"MoleBoardModel", "isNextHole", "()Z"⟩, 47), (⟨"MoleBoardModel", "freshHoles", "()I"⟩, 47), (⟨"MoleBoardModel", "isFreshComing", "(I)Z"⟩, 47), (⟨"MoleBoardModel", "readComing", "(ZZ)V"⟩, 47), (⟨"MoleBoardModel", "readHole", "(I)I"⟩, 47), (⟨"MoleBoardModel", "readPlayer", "()V"⟩, 47), (⟨"MoleBoardModel", "isComing", "(I)Z"⟩, 47), (⟨"MoleBoardModel", "ofComing", "(II)I"⟩, 47), (⟨"MoleBoardModel", "isPlayer", "(I)Z"⟩, 47), (⟨"MoleBoardModel", "of", "(II)I"⟩, 47), (⟨"MoleBoardModel", "isTick", "(J)Z"⟩, 47)]
theorem lw_r4 : ∀ q ∈ lw_privs_4, lw_okq q := List.forall_mem_cons.mpr ⟨lw_p48, List.forall_mem_cons.mpr ⟨lw_p49, List.forall_mem_cons.mpr ⟨lw_p50, List.forall_mem_cons.mpr ⟨lw_p51, List.forall_mem_cons.mpr ⟨lw_p52, List.forall_mem_cons.mpr ⟨lw_p53, List.forall_mem_cons.mpr ⟨lw_p54, List.forall_mem_cons.mpr ⟨lw_p55, List.forall_mem_cons.mpr ⟨lw_p56, List.forall_mem_cons.mpr ⟨lw_p57, List.forall_mem_cons.mpr ⟨lw_p58, List.forall_mem_cons.mpr ⟨lw_p59, List.forall_mem_cons.mpr ⟨lw_p60, List.forall_mem_cons.mpr ⟨lw_p61, List.forall_mem_cons.mpr ⟨lw_p62, List.forall_mem_cons.mpr ⟨lw_p63, fun _ h => absurd h List.not_mem_nil⟩⟩⟩⟩⟩⟩⟩⟩⟩⟩⟩⟩⟩⟩⟩⟩
theorem lw_p64 : lw_okq (⟨"MoleBoardModel", "stayIn", "(I)I"⟩, 47) := ⟨⟨by decide +kernel, by decide +kernel⟩, y_wt6 (i := 73) rfl, y_wt7 (i := 153) rfl, y_wt7 (i := 154) rfl⟩
theorem lw_p65 : lw_okq (⟨"MoleBoardModel", "isBoard", "()Z"⟩, 47) := ⟨⟨by decide +kernel, by decide +kernel⟩, y_wt6 (i := 73) rfl, y_wt7 (i := 161) rfl, y_wt7 (i := 162) rfl⟩
theorem lw_p66 : lw_okq (⟨"MoleBoardModel", "lay", "()V"⟩, 47) := ⟨⟨by decide +kernel, by decide +kernel⟩, y_wt6 (i := 73) rfl, y_wt7 (i := 165) rfl, y_wt7 (i := 166) rfl⟩
theorem lw_p67 : lw_okq (⟨"MoleBoardModel", "mayCome", "()Z"⟩, 47) := ⟨⟨by decide +kernel, by decide +kernel⟩, y_wt6 (i := 73) rfl, y_wt7 (i := 169) rfl, y_wt7 (i := 170) rfl⟩
theorem lw_p68 : lw_okq (⟨"MoleBoardModel", "nextTick", "()I"⟩, 47) := ⟨⟨by decide +kernel, by decide +kernel⟩, y_wt6 (i := 73) rfl, y_wt7 (i := 173) rfl, y_wt7 (i := 174) rfl⟩
theorem lw_p69 : lw_okq (⟨"MoleBoardModel", "come", "(III)V"⟩, 47) := ⟨⟨by decide +kernel, by decide +kernel⟩, y_wt6 (i := 73) rfl, y_wt7 (i := 177) rfl, y_wt7 (i := 178) rfl⟩
theorem lw_p70 : lw_okq (⟨"MoleBoardModel", "isInGame", "(I)Z"⟩, 47) := ⟨⟨by decide +kernel, by decide +kernel⟩, y_wt6 (i := 73) rfl, y_wt7 (i := 185) rfl, y_wt7 (i := 186) rfl⟩
theorem lw_p71 : lw_okq (⟨"MoleBoardModel", "inGame", "(II)I"⟩, 47) := ⟨⟨by decide +kernel, by decide +kernel⟩, y_wt6 (i := 73) rfl, y_wt7 (i := 189) rfl, y_wt7 (i := 190) rfl⟩
theorem lw_p72 : lw_okq (⟨"MoleBoardModel", "upIn", "(I)I"⟩, 47) := ⟨⟨by decide +kernel, by decide +kernel⟩, y_wt6 (i := 73) rfl, y_wt7 (i := 197) rfl, y_wt7 (i := 198) rfl⟩
theorem lw_p73 : lw_okq (⟨"MoleBoardModel", "isHole", "(J)Z"⟩, 47) := ⟨⟨by decide +kernel, by decide +kernel⟩, y_wt6 (i := 73) rfl, y_wt7 (i := 209) rfl, y_wt7 (i := 210) rfl⟩
theorem lw_p74 : lw_okq (⟨"MoleBoardModel", "holes", "()I"⟩, 47) := ⟨⟨by decide +kernel, by decide +kernel⟩, y_wt6 (i := 73) rfl, y_wt7 (i := 213) rfl, y_wt7 (i := 214) rfl⟩
theorem lw_p75 : lw_okq (⟨"MoleBoardModel", "stepsOf", "(II)I"⟩, 47) := ⟨⟨by decide +kernel, by decide +kernel⟩, y_wt6 (i := 73) rfl, y_wt7 (i := 217) rfl, y_wt7 (i := 218) rfl⟩
theorem lw_p76 : lw_okq (⟨"MoleBoardModel", "paceIn", "(II)I"⟩, 47) := ⟨⟨by decide +kernel, by decide +kernel⟩, y_wt6 (i := 73) rfl, y_wt7 (i := 226) rfl, y_wt7 (i := 227) rfl⟩
theorem lw_p77 : lw_okq (⟨"MoleBoardModel", "asTold", "(I)V"⟩, 47) := ⟨⟨by decide +kernel, by decide +kernel⟩, y_wt6 (i := 73) rfl, y_wt7 (i := 234) rfl, y_wt7 (i := 235) rfl⟩
theorem lw_p78 : lw_okq (⟨"MoleBoardModel", "awareOf", "(I)I"⟩, 47) := ⟨⟨by decide +kernel, by decide +kernel⟩, y_wt6 (i := 73) rfl, y_wt7 (i := 238) rfl, y_wt7 (i := 239) rfl⟩
theorem lw_p79 : lw_okq (⟨"MoleBoardModel", "runAsTold", "(I)V"⟩, 47) := ⟨⟨by decide +kernel, by decide +kernel⟩, y_wt6 (i := 73) rfl, y_wt8 (i := 6) rfl, y_wt8 (i := 7) rfl⟩
def lw_privs_5 : List (MethodName × Nat) := [(⟨"MoleBoardModel", "stayIn", "(I)I"⟩, 47), (⟨"MoleBoardModel", "isBoard", "()Z"⟩, 47), (⟨"MoleBoardModel", "lay", "()V"⟩, 47), (⟨"MoleBoardModel", "mayCome", "()Z"⟩, 47), (⟨"MoleBoardModel", "nextTick", "()I"⟩, 47), (⟨"MoleBoardModel", "come", "(III)V"⟩, 47), (⟨"MoleBoardModel", "isInGame", "(I)Z"⟩, 47), (⟨"MoleBoardModel", "inGame", "(II)I"⟩, 47), (⟨"MoleBoardModel", "upIn", "(I)I"⟩, 47), (⟨"MoleBoardModel", "isHole", "(J)Z"⟩, 47), (⟨"MoleBoardModel", "holes", "()I"⟩, 47), (⟨"MoleBoardModel", "stepsOf", "(II)I"⟩, 47), (⟨"MoleBoardModel", "paceIn", "(II)I"⟩, 47), (⟨"MoleBoardModel", "asTold", "(I)V"⟩, 47), (⟨"MoleBoardModel", "awareOf", "(I)I"⟩, 47), (⟨"MoleBoardModel", "runAsTold", "(I)V"⟩, 47)]
theorem lw_r5 : ∀ q ∈ lw_privs_5, lw_okq q := List.forall_mem_cons.mpr ⟨lw_p64, List.forall_mem_cons.mpr ⟨lw_p65, List.forall_mem_cons.mpr ⟨lw_p66, List.forall_mem_cons.mpr ⟨lw_p67, List.forall_mem_cons.mpr ⟨lw_p68, List.forall_mem_cons.mpr ⟨lw_p69, List.forall_mem_cons.mpr ⟨lw_p70, List.forall_mem_cons.mpr ⟨lw_p71, List.forall_mem_cons.mpr ⟨lw_p72, List.forall_mem_cons.mpr ⟨lw_p73, List.forall_mem_cons.mpr ⟨lw_p74, List.forall_mem_cons.mpr ⟨lw_p75, List.forall_mem_cons.mpr ⟨lw_p76, List.forall_mem_cons.mpr ⟨lw_p77, List.forall_mem_cons.mpr ⟨lw_p78, List.forall_mem_cons.mpr ⟨lw_p79, fun _ h => absurd h List.not_mem_nil⟩⟩⟩⟩⟩⟩⟩⟩⟩⟩⟩⟩⟩⟩⟩⟩
theorem lw_p80 : lw_okq (⟨"MoleBoardModel", "run", "()V"⟩, 47) := ⟨⟨by decide +kernel, by decide +kernel⟩, y_wt6 (i := 73) rfl, y_wt8 (i := 10) rfl, y_wt8 (i := 11) rfl⟩
theorem lw_p81 : lw_okq (⟨"MoleBoardModel", "goesFor", "(I)V"⟩, 47) := ⟨⟨by decide +kernel, by decide +kernel⟩, y_wt6 (i := 73) rfl, y_wt8 (i := 14) rfl, y_wt8 (i := 15) rfl⟩
theorem lw_p82 : lw_okq (⟨"MoleBoardModel", "isHis", "(I)Z"⟩, 47) := ⟨⟨by decide +kernel, by decide +kernel⟩, y_wt6 (i := 73) rfl, y_wt8 (i := 18) rfl, y_wt8 (i := 19) rfl⟩
theorem lw_p83 : lw_okq (⟨"MoleBoardModel", "goes", "(II)Z"⟩, 47) := ⟨⟨by decide +kernel, by decide +kernel⟩, y_wt6 (i := 73) rfl, y_wt8 (i := 22) rfl, y_wt8 (i := 23) rfl⟩
theorem lw_p84 : lw_okq (⟨"MoleBoardModel", "bestOf", "(II)I"⟩, 47) := ⟨⟨by decide +kernel, by decide +kernel⟩, y_wt6 (i := 73) rfl, y_wt8 (i := 51) rfl, y_wt8 (i := 52) rfl⟩
theorem lw_p85 : lw_okq (⟨"MoleBoardModel", "mayHit", "(III)V"⟩, 47) := ⟨⟨by decide +kernel, by decide +kernel⟩, y_wt6 (i := 73) rfl, y_wt8 (i := 59) rfl, y_wt8 (i := 60) rfl⟩
theorem lw_p86 : lw_okq (⟨"MoleBoardModel", "behind", "(IIII)I"⟩, 47) := ⟨⟨by decide +kernel, by decide +kernel⟩, y_wt6 (i := 73) rfl, y_wt8 (i := 63) rfl, y_wt8 (i := 64) rfl⟩
theorem lw_p87 : lw_okq (⟨"MoleBoardModel", "sooner", "(III)V"⟩, 47) := ⟨⟨by decide +kernel, by decide +kernel⟩, y_wt6 (i := 73) rfl, y_wt8 (i := 67) rfl, y_wt8 (i := 68) rfl⟩
theorem lw_p88 : lw_okq (⟨"MoleBoardModel", "learnsBy", "(II)I"⟩, 47) := ⟨⟨by decide +kernel, by decide +kernel⟩, y_wt6 (i := 73) rfl, y_wt8 (i := 81) rfl, y_wt8 (i := 82) rfl⟩
theorem lw_p89 : lw_okq (⟨"MoleBoardModel", "waitingAt", "(II)I"⟩, 47) := ⟨⟨by decide +kernel, by decide +kernel⟩, y_wt6 (i := 73) rfl, y_wt8 (i := 93) rfl, y_wt8 (i := 94) rfl⟩
theorem lw_p90 : lw_okq (⟨"MoleBoardModel", "openHoles", "()I"⟩, 47) := ⟨⟨by decide +kernel, by decide +kernel⟩, y_wt6 (i := 73) rfl, y_wt8 (i := 101) rfl, y_wt8 (i := 102) rfl⟩
theorem lw_p91 : lw_okq (⟨"MoleBoardModel", "isShut", "(I)Z"⟩, 47) := ⟨⟨by decide +kernel, by decide +kernel⟩, y_wt6 (i := 73) rfl, y_wt8 (i := 105) rfl, y_wt8 (i := 106) rfl⟩
theorem lw_p92 : lw_okq (⟨"MoleBoardModel", "stepsToAll", "(I)I"⟩, 47) := ⟨⟨by decide +kernel, by decide +kernel⟩, y_wt6 (i := 73) rfl, y_wt8 (i := 109) rfl, y_wt8 (i := 110) rfl⟩
theorem lw_p93 : lw_okq (⟨"MoleBoardModel", "reachOf", "(II)I"⟩, 47) := ⟨⟨by decide +kernel, by decide +kernel⟩, y_wt6 (i := 73) rfl, y_wt8 (i := 124) rfl, y_wt8 (i := 125) rfl⟩
theorem lw_p94 : lw_okq (⟨"MoleBoardModel", "lagging", "(II)I"⟩, 47) := ⟨⟨by decide +kernel, by decide +kernel⟩, y_wt6 (i := 73) rfl, y_wt8 (i := 139) rfl, y_wt8 (i := 140) rfl⟩
theorem lw_p95 : lw_okq (⟨"MoleBoardModel", "fillRows", "(II)V"⟩, 47) := ⟨⟨by decide +kernel, by decide +kernel⟩, y_wt6 (i := 73) rfl, y_wt8 (i := 153) rfl, y_wt8 (i := 154) rfl⟩
def lw_privs_6 : List (MethodName × Nat) := [(⟨"MoleBoardModel", "run", "()V"⟩, 47), (⟨"MoleBoardModel", "goesFor", "(I)V"⟩, 47), (⟨"MoleBoardModel", "isHis", "(I)Z"⟩, 47), (⟨"MoleBoardModel", "goes", "(II)Z"⟩, 47), (⟨"MoleBoardModel", "bestOf", "(II)I"⟩, 47), (⟨"MoleBoardModel", "mayHit", "(III)V"⟩, 47), (⟨"MoleBoardModel", "behind", "(IIII)I"⟩, 47), (⟨"MoleBoardModel", "sooner", "(III)V"⟩, 47), (⟨"MoleBoardModel", "learnsBy", "(II)I"⟩, 47), (⟨"MoleBoardModel", "waitingAt", "(II)I"⟩, 47), (⟨"MoleBoardModel", "openHoles", "()I"⟩, 47), (⟨"MoleBoardModel", "isShut", "(I)Z"⟩, 47), (⟨"MoleBoardModel", "stepsToAll", "(I)I"⟩, 47), (⟨"MoleBoardModel", "reachOf", "(II)I"⟩, 47), (⟨"MoleBoardModel", "lagging", "(II)I"⟩, 47), (⟨"MoleBoardModel", "fillRows", "(II)V"⟩, 47)]
theorem lw_r6 : ∀ q ∈ lw_privs_6, lw_okq q := List.forall_mem_cons.mpr ⟨lw_p80, List.forall_mem_cons.mpr ⟨lw_p81, List.forall_mem_cons.mpr ⟨lw_p82, List.forall_mem_cons.mpr ⟨lw_p83, List.forall_mem_cons.mpr ⟨lw_p84, List.forall_mem_cons.mpr ⟨lw_p85, List.forall_mem_cons.mpr ⟨lw_p86, List.forall_mem_cons.mpr ⟨lw_p87, List.forall_mem_cons.mpr ⟨lw_p88, List.forall_mem_cons.mpr ⟨lw_p89, List.forall_mem_cons.mpr ⟨lw_p90, List.forall_mem_cons.mpr ⟨lw_p91, List.forall_mem_cons.mpr ⟨lw_p92, List.forall_mem_cons.mpr ⟨lw_p93, List.forall_mem_cons.mpr ⟨lw_p94, List.forall_mem_cons.mpr ⟨lw_p95, fun _ h => absurd h List.not_mem_nil⟩⟩⟩⟩⟩⟩⟩⟩⟩⟩⟩⟩⟩⟩⟩⟩
theorem lw_p96 : lw_okq (⟨"MoleBoardModel", "lets", "(IIII)Z"⟩, 47) := ⟨⟨by decide +kernel, by decide +kernel⟩, y_wt6 (i := 73) rfl, y_wt8 (i := 157) rfl, y_wt8 (i := 158) rfl⟩
theorem lw_p97 : lw_okq (⟨"MoleBoardModel", "endingIn", "(I)J"⟩, 47) := ⟨⟨by decide +kernel, by decide +kernel⟩, y_wt6 (i := 73) rfl, y_wt8 (i := 161) rfl, y_wt8 (i := 162) rfl⟩
theorem lw_p98 : lw_okq (⟨"MoleBoardModel", "holeAt", "(I)I"⟩, 47) := ⟨⟨by decide +kernel, by decide +kernel⟩, y_wt6 (i := 73) rfl, y_wt8 (i := 177) rfl, y_wt8 (i := 178) rfl⟩
theorem lw_p99 : lw_okq (⟨"MoleBoardModel", "asksHeard", "(I)I"⟩, 47) := ⟨⟨by decide +kernel, by decide +kernel⟩, y_wt6 (i := 73) rfl, y_wt8 (i := 186) rfl, y_wt8 (i := 187) rfl⟩
theorem lw_p100 : lw_okq (⟨"MoleBoardModel", "numberAt", "(II)J"⟩, 47) := ⟨⟨by decide +kernel, by decide +kernel⟩, y_wt6 (i := 73) rfl, y_wt8 (i := 193) rfl, y_wt8 (i := 194) rfl⟩
theorem lw_p101 : lw_okq (⟨"MoleBoardModel", "leastPeriod", "(I)I"⟩, 47) := ⟨⟨by decide +kernel, by decide +kernel⟩, y_wt6 (i := 73) rfl, y_wt8 (i := 197) rfl, y_wt8 (i := 198) rfl⟩
theorem lw_p102 : lw_okq (⟨"MoleBoardModel", "isPeriod", "(II)Z"⟩, 47) := ⟨⟨by decide +kernel, by decide +kernel⟩, y_wt6 (i := 73) rfl, y_wt8 (i := 201) rfl, y_wt8 (i := 202) rfl⟩
theorem lw_p103 : lw_okq (⟨"MoleBoardModel", "fitsFrom", "(II)Z"⟩, 47) := ⟨⟨by decide +kernel, by decide +kernel⟩, y_wt6 (i := 73) rfl, y_wt8 (i := 218) rfl, y_wt8 (i := 219) rfl⟩
theorem lw_p104 : lw_okq (⟨"MoleBoardModel", "neededFrom", "(I)I"⟩, 47) := ⟨⟨by decide +kernel, by decide +kernel⟩, y_wt6 (i := 73) rfl, y_wt8 (i := 234) rfl, y_wt8 (i := 235) rfl⟩
theorem lw_p105 : lw_okq (⟨"MoleBoardModel", "goesAlike", "(III)Z"⟩, 47) := ⟨⟨by decide +kernel, by decide +kernel⟩, y_wt6 (i := 73) rfl, y_wt8 (i := 238) rfl, y_wt8 (i := 239) rfl⟩
theorem lw_p106 : lw_okq (⟨"MoleBoardModel", "rashOf", "(I)I"⟩, 47) := ⟨⟨by decide +kernel, by decide +kernel⟩, y_wt6 (i := 73) rfl, y_wt9 (i := 10) rfl, y_wt9 (i := 11) rfl⟩
theorem lw_p107 : lw_okq (⟨"MoleBoardModel", "lookOf", "(II)I"⟩, 47) := ⟨⟨by decide +kernel, by decide +kernel⟩, y_wt6 (i := 73) rfl, y_wt9 (i := 19) rfl, y_wt9 (i := 20) rfl⟩
theorem lw_p108 : lw_okq (⟨"MoleBoardModel", "hitsOn", "(II)I"⟩, 47) := ⟨⟨by decide +kernel, by decide +kernel⟩, y_wt6 (i := 73) rfl, y_wt9 (i := 31) rfl, y_wt9 (i := 32) rfl⟩
theorem lw_p109 : lw_okq (⟨"MoleBoardModel", "ticketsOf", "(I)I"⟩, 47) := ⟨⟨by decide +kernel, by decide +kernel⟩, y_wt6 (i := 73) rfl, y_wt9 (i := 39) rfl, y_wt9 (i := 40) rfl⟩
theorem lw_p110 : lw_okq (⟨"MoleBoardModel", "asksBlows", "(I)I"⟩, 47) := ⟨⟨by decide +kernel, by decide +kernel⟩, y_wt6 (i := 73) rfl, y_wt9 (i := 51) rfl, y_wt9 (i := 52) rfl⟩
theorem lw_p111 : lw_okq (⟨"MoleBoardModel", "layBlows", "(II)V"⟩, 47) := ⟨⟨by decide +kernel, by decide +kernel⟩, y_wt6 (i := 73) rfl, y_wt9 (i := 55) rfl, y_wt9 (i := 56) rfl⟩
def lw_privs_7 : List (MethodName × Nat) := [(⟨"MoleBoardModel", "lets", "(IIII)Z"⟩, 47), (⟨"MoleBoardModel", "endingIn", "(I)J"⟩, 47), (⟨"MoleBoardModel", "holeAt", "(I)I"⟩, 47), (⟨"MoleBoardModel", "asksHeard", "(I)I"⟩, 47), (⟨"MoleBoardModel", "numberAt", "(II)J"⟩, 47), (⟨"MoleBoardModel", "leastPeriod", "(I)I"⟩, 47), (⟨"MoleBoardModel", "isPeriod", "(II)Z"⟩, 47), (⟨"MoleBoardModel", "fitsFrom", "(II)Z"⟩, 47), (⟨"MoleBoardModel", "neededFrom", "(I)I"⟩, 47), (⟨"MoleBoardModel", "goesAlike", "(III)Z"⟩, 47), (⟨"MoleBoardModel", "rashOf", "(I)I"⟩, 47), (⟨"MoleBoardModel", "lookOf", "(II)I"⟩, 47), (⟨"MoleBoardModel", "hitsOn", "(II)I"⟩, 47), (⟨"MoleBoardModel", "ticketsOf", "(I)I"⟩, 47), (⟨"MoleBoardModel", "asksBlows", "(I)I"⟩, 47), (⟨"MoleBoardModel", "layBlows", "(II)V"⟩, 47)]
theorem lw_r7 : ∀ q ∈ lw_privs_7, lw_okq q := List.forall_mem_cons.mpr ⟨lw_p96, List.forall_mem_cons.mpr ⟨lw_p97, List.forall_mem_cons.mpr ⟨lw_p98, List.forall_mem_cons.mpr ⟨lw_p99, List.forall_mem_cons.mpr ⟨lw_p100, List.forall_mem_cons.mpr ⟨lw_p101, List.forall_mem_cons.mpr ⟨lw_p102, List.forall_mem_cons.mpr ⟨lw_p103, List.forall_mem_cons.mpr ⟨lw_p104, List.forall_mem_cons.mpr ⟨lw_p105, List.forall_mem_cons.mpr ⟨lw_p106, List.forall_mem_cons.mpr ⟨lw_p107, List.forall_mem_cons.mpr ⟨lw_p108, List.forall_mem_cons.mpr ⟨lw_p109, List.forall_mem_cons.mpr ⟨lw_p110, List.forall_mem_cons.mpr ⟨lw_p111, fun _ h => absurd h List.not_mem_nil⟩⟩⟩⟩⟩⟩⟩⟩⟩⟩⟩⟩⟩⟩⟩⟩
theorem lw_p112 : lw_okq (⟨"MoleBoardModel", "strike", "(III)V"⟩, 47) := ⟨⟨by decide +kernel, by decide +kernel⟩, y_wt6 (i := 73) rfl, y_wt9 (i := 59) rfl, y_wt9 (i := 60) rfl⟩
theorem lw_p113 : lw_okq (⟨"MoleBoardModel", "oftenOf", "(I)I"⟩, 47) := ⟨⟨by decide +kernel, by decide +kernel⟩, y_wt6 (i := 73) rfl, y_wt9 (i := 75) rfl, y_wt9 (i := 76) rfl⟩
theorem lw_p114 : lw_okq (⟨"MoleBoardModel", "pathOf", "()I"⟩, 47) := ⟨⟨by decide +kernel, by decide +kernel⟩, y_wt6 (i := 73) rfl, y_wt9 (i := 87) rfl, y_wt9 (i := 88) rfl⟩
theorem lw_p115 : lw_okq (⟨"MoleBoardModel", "trade", "(II)V"⟩, 47) := ⟨⟨by decide +kernel, by decide +kernel⟩, y_wt6 (i := 73) rfl, y_wt9 (i := 95) rfl, y_wt9 (i := 96) rfl⟩
theorem lw_p116 : lw_okq (⟨"MoleBoardModel", "layNight", "(JI)V"⟩, 47) := ⟨⟨by decide +kernel, by decide +kernel⟩, y_wt6 (i := 73) rfl, y_wt9 (i := 132) rfl, y_wt9 (i := 133) rfl⟩
theorem lw_p117 : lw_okq (⟨"MoleBoardModel", "holeByLot", "(I)I"⟩, 47) := ⟨⟨by decide +kernel, by decide +kernel⟩, y_wt6 (i := 73) rfl, y_wt9 (i := 136) rfl, y_wt9 (i := 137) rfl⟩
theorem lw_p118 : lw_okq (⟨"MoleBoardModel", "draw", "(I)I"⟩, 47) := ⟨⟨by decide +kernel, by decide +kernel⟩, y_wt6 (i := 73) rfl, y_wt9 (i := 140) rfl, y_wt9 (i := 141) rfl⟩
theorem lw_p119 : lw_okq (⟨"MoleBoardModel", "nightOf", "(JII)I"⟩, 47) := ⟨⟨by decide +kernel, by decide +kernel⟩, y_wt6 (i := 73) rfl, y_wt9 (i := 152) rfl, y_wt9 (i := 153) rfl⟩
def lw_privs_8 : List (MethodName × Nat) := [(⟨"MoleBoardModel", "strike", "(III)V"⟩, 47), (⟨"MoleBoardModel", "oftenOf", "(I)I"⟩, 47), (⟨"MoleBoardModel", "pathOf", "()I"⟩, 47), (⟨"MoleBoardModel", "trade", "(II)V"⟩, 47), (⟨"MoleBoardModel", "layNight", "(JI)V"⟩, 47), (⟨"MoleBoardModel", "holeByLot", "(I)I"⟩, 47), (⟨"MoleBoardModel", "draw", "(I)I"⟩, 47), (⟨"MoleBoardModel", "nightOf", "(JII)I"⟩, 47)]
theorem lw_r8 : ∀ q ∈ lw_privs_8, lw_okq q := List.forall_mem_cons.mpr ⟨lw_p112, List.forall_mem_cons.mpr ⟨lw_p113, List.forall_mem_cons.mpr ⟨lw_p114, List.forall_mem_cons.mpr ⟨lw_p115, List.forall_mem_cons.mpr ⟨lw_p116, List.forall_mem_cons.mpr ⟨lw_p117, List.forall_mem_cons.mpr ⟨lw_p118, List.forall_mem_cons.mpr ⟨lw_p119, fun _ h => absurd h List.not_mem_nil⟩⟩⟩⟩⟩⟩⟩⟩
def lw_privs : List (MethodName × Nat) := lw_privs_1 ++ (lw_privs_2 ++ (lw_privs_3 ++ (lw_privs_4 ++ (lw_privs_5 ++ (lw_privs_6 ++ (lw_privs_7 ++ (lw_privs_8)))))))
def lw_tbl : List Cond := k2_sels lw_privs ++ tables_1
theorem lw_privs_ok : ∀ q ∈ lw_privs, lw_okq q := by
  show ∀ q ∈ lw_privs_1 ++ (lw_privs_2 ++ (lw_privs_3 ++ (lw_privs_4 ++ (lw_privs_5 ++ (lw_privs_6 ++ (lw_privs_7 ++ (lw_privs_8))))))), lw_okq q
  exact List.forall_mem_append.mpr ⟨lw_r1, List.forall_mem_append.mpr ⟨lw_r2, List.forall_mem_append.mpr ⟨lw_r3, List.forall_mem_append.mpr ⟨lw_r4, List.forall_mem_append.mpr ⟨lw_r5, List.forall_mem_append.mpr ⟨lw_r6, List.forall_mem_append.mpr ⟨lw_r7, lw_r8⟩⟩⟩⟩⟩⟩⟩
-- ===== names, printed by program out of the claim's own names =====
def RX0 : String := "MoleBoard$Best"
def TX0 : u_T := fun k => match k with
  | _ => ("MoleBoard$Best", "free", "[I", true)
def tyX0 : Nat → FieldType := fun k => match k with
  | _ => .array .int
abbrev wsX00 : List Cond := u_ws RX0 TX0 1
theorem nmX0 : ∀ a, a < 1 → ∀ b, b < 1 → a ≠ b → (TX0 a).2.1 ≠ (TX0 b).2.1 := by decide +kernel
theorem tyX0_ok : ∀ k, k < 1 → parseFieldDescriptor (TX0 k).2.2.1 = some (tyX0 k) := by decide +kernel
abbrev cX0_init : ByteArray := prog_2_method_1_code
def yX0_init : MethodName := ⟨RX0, "<init>", "()V"⟩
abbrev cX0_most : ByteArray := prog_2_method_2_code
def yX0_most : MethodName := ⟨RX0, "most", "(LMoleBoard$Board;LMoleBoard$Game;LMoleBoard$Player;I)I"⟩
abbrev cX0_goOn : ByteArray := prog_2_method_3_code
def yX0_goOn : MethodName := ⟨RX0, "goOn", "(LMoleBoard$Board;LMoleBoard$Game;LMoleBoard$Player;II)I"⟩
abbrev cX0_freeAt : ByteArray := prog_2_method_4_code
def yX0_freeAt : MethodName := ⟨RX0, "freeAt", "(II)I"⟩
abbrev cX0_keep : ByteArray := prog_2_method_5_code
def yX0_keep : MethodName := ⟨RX0, "keep", "(III)V"⟩
def RX1 : String := "MoleBoard$Blows"
def TX1 : u_T := fun k => match k with
  | 0 => ("MoleBoard$Blows", "good", "I", false)
  | 1 => ("MoleBoard$Blows", "bad", "I", false)
  | 2 => ("MoleBoard$Blows", "soon", "I", false)
  | _ => ("MoleBoard$Blows", "taken", "[I", true)
def tyX1 : Nat → FieldType := fun k => match k with
  | 0 => .int
  | 1 => .int
  | 2 => .int
  | _ => .array .int
abbrev wsX10 : List Cond := u_ws RX1 TX1 4
theorem nmX1 : ∀ a, a < 4 → ∀ b, b < 4 → a ≠ b → (TX1 a).2.1 ≠ (TX1 b).2.1 := by decide +kernel
theorem tyX1_ok : ∀ k, k < 4 → parseFieldDescriptor (TX1 k).2.2.1 = some (tyX1 k) := by decide +kernel
abbrev cX1_init : ByteArray := prog_3_method_1_code
def yX1_init : MethodName := ⟨RX1, "<init>", "()V"⟩
abbrev cX1_judge : ByteArray := prog_3_method_2_code
def yX1_judge : MethodName := ⟨RX1, "judge", "(LMoleBoard$Game;LMoleBoard$Row;I)V"⟩
abbrev cX1_judgeOne : ByteArray := prog_3_method_3_code
def yX1_judgeOne : MethodName := ⟨RX1, "judgeOne", "(LMoleBoard$Game;III)V"⟩
def RX2 : String := "MoleBoard$Board"
def TX2 : u_T := fun k => match k with
  | 0 => ("MoleBoard$Board", "kept", "Z", false)
  | 1 => ("MoleBoard$Board", "lines", "I", false)
  | 2 => ("MoleBoard$Board", "wide", "I", false)
  | 3 => ("MoleBoard$Board", "high", "I", false)
  | 4 => ("MoleBoard$Board", "ticks", "I", false)
  | 5 => ("MoleBoard$Board", "pause", "I", false)
  | 6 => ("MoleBoard$Board", "shutHoles", "I", false)
  | 7 => ("MoleBoard$Board", "players", "I", false)
  | 8 => ("MoleBoard$Board", "prizeTickets", "I", false)
  | 9 => ("MoleBoard$Board", "ticketPoints", "I", false)
  | 10 => ("MoleBoard$Board", "stays", "I", false)
  | 11 => ("MoleBoard$Board", "stayFrom", "[I", true)
  | 12 => ("MoleBoard$Board", "stayLong", "[I", true)
  | 13 => ("MoleBoard$Board", "traits", "[I", true)
  | _ => ("MoleBoard$Board", "drum", "LMoleBoard$Drum;", true)
def tyX2 : Nat → FieldType := fun k => match k with
  | 0 => .boolean
  | 1 => .int
  | 2 => .int
  | 3 => .int
  | 4 => .int
  | 5 => .int
  | 6 => .int
  | 7 => .int
  | 8 => .int
  | 9 => .int
  | 10 => .int
  | 11 => .array .int
  | 12 => .array .int
  | 13 => .array .int
  | _ => .object "MoleBoard$Drum"
abbrev wsX20 : List Cond := u_ws RX2 TX2 15
theorem nmX2 : ∀ a, a < 15 → ∀ b, b < 15 → a ≠ b → (TX2 a).2.1 ≠ (TX2 b).2.1 := by decide +kernel
theorem tyX2_ok : ∀ k, k < 15 → parseFieldDescriptor (TX2 k).2.2.1 = some (tyX2 k) := by decide +kernel
abbrev cX2_init : ByteArray := prog_4_method_1_code
def yX2_init : MethodName := ⟨RX2, "<init>", "()V"⟩
abbrev cX2_empty : ByteArray := prog_4_method_2_code
def yX2_empty : MethodName := ⟨RX2, "empty", "()V"⟩
abbrev cX2_copy : ByteArray := prog_4_method_3_code
def yX2_copy : MethodName := ⟨RX2, "copy", "(LMoleBoard$Board;)V"⟩
abbrev cX2_isTold : ByteArray := prog_4_method_4_code
def yX2_isTold : MethodName := ⟨RX2, "isTold", "()Z"⟩
abbrev cX2_holes : ByteArray := prog_4_method_5_code
def yX2_holes : MethodName := ⟨RX2, "holes", "()I"⟩
abbrev cX2_isHole : ByteArray := prog_4_method_6_code
def yX2_isHole : MethodName := ⟨RX2, "isHole", "(I)Z"⟩
abbrev cX2_isTick : ByteArray := prog_4_method_7_code
def yX2_isTick : MethodName := ⟨RX2, "isTick", "(I)Z"⟩
abbrev cX2_isPlayer : ByteArray := prog_4_method_8_code
def yX2_isPlayer : MethodName := ⟨RX2, "isPlayer", "(I)Z"⟩
abbrev cX2_isShut : ByteArray := prog_4_method_9_code
def yX2_isShut : MethodName := ⟨RX2, "isShut", "(I)Z"⟩
abbrev cX2_openHoles : ByteArray := prog_4_method_10_code
def yX2_openHoles : MethodName := ⟨RX2, "openHoles", "()I"⟩
abbrev cX2_apart : ByteArray := prog_4_method_11_code
def yX2_apart : MethodName := ⟨RX2, "apart", "(II)I"⟩
abbrev cX2_stepsToAll : ByteArray := prog_4_method_12_code
def yX2_stepsToAll : MethodName := ⟨RX2, "stepsToAll", "(I)I"⟩
abbrev cX2_pathRound : ByteArray := prog_4_method_13_code
def yX2_pathRound : MethodName := ⟨RX2, "pathRound", "()I"⟩
abbrev cX2_stayIn : ByteArray := prog_4_method_14_code
def yX2_stayIn : MethodName := ⟨RX2, "stayIn", "(I)I"⟩
abbrev cX2_hasStayFrom : ByteArray := prog_4_method_15_code
def yX2_hasStayFrom : MethodName := ⟨RX2, "hasStayFrom", "(I)Z"⟩
abbrev cX2_setStay : ByteArray := prog_4_method_16_code
def yX2_setStay : MethodName := ⟨RX2, "setStay", "(II)V"⟩
abbrev cX2_trait : ByteArray := prog_4_method_17_code
def yX2_trait : MethodName := ⟨RX2, "trait", "(II)I"⟩
abbrev cX2_setTrait : ByteArray := prog_4_method_18_code
def yX2_setTrait : MethodName := ⟨RX2, "setTrait", "(III)V"⟩
abbrev cX2_isTrait : ByteArray := prog_4_method_19_code
def yX2_isTrait : MethodName := ⟨RX2, "isTrait", "(II)Z"⟩
abbrev cX2_lets : ByteArray := prog_4_method_20_code
def yX2_lets : MethodName := ⟨RX2, "lets", "(IIII)Z"⟩
def RX3 : String := "MoleBoard$Drum"
def TX3 : u_T := fun k => match k with
  | 0 => ("MoleBoard$Drum", "size", "I", false)
  | 1 => ("MoleBoard$Drum", "stands", "I", false)
  | 2 => ("MoleBoard$Drum", "first", "[I", true)
  | 3 => ("MoleBoard$Drum", "other", "[I", true)
  | _ => ("MoleBoard$Drum", "red", "[I", true)
def tyX3 : Nat → FieldType := fun k => match k with
  | 0 => .int
  | 1 => .int
  | 2 => .array .int
  | 3 => .array .int
  | _ => .array .int
abbrev wsX30 : List Cond := u_ws RX3 TX3 5
theorem nmX3 : ∀ a, a < 5 → ∀ b, b < 5 → a ≠ b → (TX3 a).2.1 ≠ (TX3 b).2.1 := by decide +kernel
theorem tyX3_ok : ∀ k, k < 5 → parseFieldDescriptor (TX3 k).2.2.1 = some (tyX3 k) := by decide +kernel
abbrev cX3_init : ByteArray := prog_5_method_1_code
def yX3_init : MethodName := ⟨RX3, "<init>", "()V"⟩
abbrev cX3_empty : ByteArray := prog_5_method_2_code
def yX3_empty : MethodName := ⟨RX3, "empty", "()V"⟩
abbrev cX3_copy : ByteArray := prog_5_method_3_code
def yX3_copy : MethodName := ⟨RX3, "copy", "(LMoleBoard$Drum;)V"⟩
abbrev cX3_has : ByteArray := prog_5_method_4_code
def yX3_has : MethodName := ⟨RX3, "has", "(I)Z"⟩
abbrev cX3_add : ByteArray := prog_5_method_5_code
def yX3_add : MethodName := ⟨RX3, "add", "(III)V"⟩
abbrev cX3_exchange : ByteArray := prog_5_method_6_code
def yX3_exchange : MethodName := ⟨RX3, "exchange", "(II)V"⟩
abbrev cX3_exchangeIn : ByteArray := prog_5_method_7_code
def yX3_exchangeIn : MethodName := ⟨RX3, "exchangeIn", "([III)V"⟩
abbrev cX3_round : ByteArray := prog_5_method_8_code
def yX3_round : MethodName := ⟨RX3, "round", "(I)I"⟩
abbrev cX3_oftenAt : ByteArray := prog_5_method_9_code
def yX3_oftenAt : MethodName := ⟨RX3, "oftenAt", "(I)I"⟩
abbrev cX3_goesSo : ByteArray := prog_5_method_10_code
def yX3_goesSo : MethodName := ⟨RX3, "goesSo", "(ILMoleBoard$Row;)Z"⟩
abbrev cX3_neededFrom : ByteArray := prog_5_method_11_code
def yX3_neededFrom : MethodName := ⟨RX3, "neededFrom", "(I)I"⟩
abbrev cX3_alike : ByteArray := prog_5_method_12_code
def yX3_alike : MethodName := ⟨RX3, "alike", "(II)I"⟩
def RX4 : String := "MoleBoard$Game"
def TX4 : u_T := fun k => match k with
  | 0 => ("MoleBoard$Game", "size", "I", false)
  | 1 => ("MoleBoard$Game", "first", "[I", true)
  | 2 => ("MoleBoard$Game", "other", "[I", true)
  | 3 => ("MoleBoard$Game", "red", "[I", true)
  | 4 => ("MoleBoard$Game", "from", "[I", true)
  | 5 => ("MoleBoard$Game", "last", "[I", true)
  | _ => ("MoleBoard$Game", "tick", "I", false)
def tyX4 : Nat → FieldType := fun k => match k with
  | 0 => .int
  | 1 => .array .int
  | 2 => .array .int
  | 3 => .array .int
  | 4 => .array .int
  | 5 => .array .int
  | _ => .int
abbrev wsX40 : List Cond := u_ws RX4 TX4 7
theorem nmX4 : ∀ a, a < 7 → ∀ b, b < 7 → a ≠ b → (TX4 a).2.1 ≠ (TX4 b).2.1 := by decide +kernel
theorem tyX4_ok : ∀ k, k < 7 → parseFieldDescriptor (TX4 k).2.2.1 = some (tyX4 k) := by decide +kernel
abbrev cX4_init : ByteArray := prog_6_method_1_code
def yX4_init : MethodName := ⟨RX4, "<init>", "()V"⟩
abbrev cX4_has : ByteArray := prog_6_method_2_code
def yX4_has : MethodName := ⟨RX4, "has", "(I)Z"⟩
abbrev cX4_deal : ByteArray := prog_6_method_3_code
def yX4_deal : MethodName := ⟨RX4, "deal", "(LMoleBoard$Board;I)V"⟩
abbrev cX4_draw : ByteArray := prog_6_method_4_code
def yX4_draw : MethodName := ⟨RX4, "draw", "(LMoleBoard$Board;II)V"⟩
abbrev cX4_nthLet : ByteArray := prog_6_method_5_code
def yX4_nthLet : MethodName := ⟨RX4, "nthLet", "(LMoleBoard$Board;IIII)I"⟩
abbrev cX4_begin : ByteArray := prog_6_method_6_code
def yX4_begin : MethodName := ⟨RX4, "begin", "()V"⟩
abbrev cX4_hasRoom : ByteArray := prog_6_method_7_code
def yX4_hasRoom : MethodName := ⟨RX4, "hasRoom", "(LMoleBoard$Board;)Z"⟩
abbrev cX4_add : ByteArray := prog_6_method_8_code
def yX4_add : MethodName := ⟨RX4, "add", "(LMoleBoard$Board;III)V"⟩
abbrev cX4_upIn : ByteArray := prog_6_method_9_code
def yX4_upIn : MethodName := ⟨RX4, "upIn", "(I)I"⟩
abbrev cX4_holesOf : ByteArray := prog_6_method_10_code
def yX4_holesOf : MethodName := ⟨RX4, "holesOf", "(I)I"⟩
abbrev cX4_goodHoles : ByteArray := prog_6_method_11_code
def yX4_goodHoles : MethodName := ⟨RX4, "goodHoles", "()I"⟩
abbrev cX4_goodIn : ByteArray := prog_6_method_12_code
def yX4_goodIn : MethodName := ⟨RX4, "goodIn", "(I)I"⟩
abbrev cX4_strike : ByteArray := prog_6_method_13_code
def yX4_strike : MethodName := ⟨RX4, "strike", "(II)I"⟩
def RX5 : String := "MoleBoard$Lots"
def TX5 : u_T := fun k => match k with
  | 0 => ("MoleBoard$Lots", "ways", "[J", true)
  | _ => ("MoleBoard$Lots", "grown", "[J", true)
def tyX5 : Nat → FieldType := fun k => match k with
  | 0 => .array .long
  | _ => .array .long
abbrev wsX50 : List Cond := u_ws RX5 TX5 2
theorem nmX5 : ∀ a, a < 2 → ∀ b, b < 2 → a ≠ b → (TX5 a).2.1 ≠ (TX5 b).2.1 := by decide +kernel
theorem tyX5_ok : ∀ k, k < 2 → parseFieldDescriptor (TX5 k).2.2.1 = some (tyX5 k) := by decide +kernel
abbrev cX5_init : ByteArray := prog_7_method_1_code
def yX5_init : MethodName := ⟨RX5, "<init>", "()V"⟩
abbrev cX5_begin : ByteArray := prog_7_method_2_code
def yX5_begin : MethodName := ⟨RX5, "begin", "(LMoleBoard$Board;)V"⟩
abbrev cX5_grow : ByteArray := prog_7_method_3_code
def yX5_grow : MethodName := ⟨RX5, "grow", "(LMoleBoard$Board;I)V"⟩
abbrev cX5_growFrom : ByteArray := prog_7_method_4_code
def yX5_growFrom : MethodName := ⟨RX5, "growFrom", "(LMoleBoard$Board;III)V"⟩
abbrev cX5_at : ByteArray := prog_7_method_5_code
def yX5_at : MethodName := ⟨RX5, "at", "(II)I"⟩
abbrev cX5_waysTo : ByteArray := prog_7_method_6_code
def yX5_waysTo : MethodName := ⟨RX5, "waysTo", "(II)J"⟩
abbrev cX5_add : ByteArray := prog_7_method_7_code
def yX5_add : MethodName := ⟨RX5, "add", "([JIIJ)V"⟩
abbrev cX5_rowsTo : ByteArray := prog_7_method_8_code
def yX5_rowsTo : MethodName := ⟨RX5, "rowsTo", "(LMoleBoard$Board;I)J"⟩
abbrev cX5_rowsInAll : ByteArray := prog_7_method_9_code
def yX5_rowsInAll : MethodName := ⟨RX5, "rowsInAll", "(LMoleBoard$Board;)J"⟩
abbrev cX5_isEven : ByteArray := prog_7_method_10_code
def yX5_isEven : MethodName := ⟨RX5, "isEven", "(LMoleBoard$Board;)Z"⟩
def RX6 : String := "MoleBoard$Player"
def TX6 : u_T := fun k => match k with
  | 0 => ("MoleBoard$Player", "pace", "I", false)
  | 1 => ("MoleBoard$Player", "lag", "I", false)
  | 2 => ("MoleBoard$Player", "tires", "I", false)
  | 3 => ("MoleBoard$Player", "knows", "I", false)
  | _ => ("MoleBoard$Player", "home", "I", false)
def tyX6 : Nat → FieldType := fun k => match k with
  | 0 => .int
  | 1 => .int
  | 2 => .int
  | 3 => .int
  | _ => .int
abbrev wsX60 : List Cond := u_ws RX6 TX6 5
theorem nmX6 : ∀ a, a < 5 → ∀ b, b < 5 → a ≠ b → (TX6 a).2.1 ≠ (TX6 b).2.1 := by decide +kernel
theorem tyX6_ok : ∀ k, k < 5 → parseFieldDescriptor (TX6 k).2.2.1 = some (tyX6 k) := by decide +kernel
abbrev cX6_init : ByteArray := prog_8_method_1_code
def yX6_init : MethodName := ⟨RX6, "<init>", "()V"⟩
abbrev cX6_take : ByteArray := prog_8_method_2_code
def yX6_take : MethodName := ⟨RX6, "take", "(LMoleBoard$Board;I)V"⟩
abbrev cX6_paceIn : ByteArray := prog_8_method_3_code
def yX6_paceIn : MethodName := ⟨RX6, "paceIn", "(I)I"⟩
abbrev cX6_awareOf : ByteArray := prog_8_method_4_code
def yX6_awareOf : MethodName := ⟨RX6, "awareOf", "(LMoleBoard$Game;I)I"⟩
abbrev cX6_there : ByteArray := prog_8_method_5_code
def yX6_there : MethodName := ⟨RX6, "there", "(LMoleBoard$Board;III)I"⟩
abbrev cX6_reachFrom : ByteArray := prog_8_method_6_code
def yX6_reachFrom : MethodName := ⟨RX6, "reachFrom", "(LMoleBoard$Board;I)I"⟩
def RX7 : String := "MoleBoard$Reader"
def TX7 : u_T := fun k => match k with
  | 0 => ("MoleBoard$Reader", "told", "LMoleBoard$Board;", true)
  | 1 => ("MoleBoard$Reader", "fault", "I", false)
  | 2 => ("MoleBoard$Reader", "place", "I", false)
  | 3 => ("MoleBoard$Reader", "tape", "LMoleBoard$Tape;", true)
  | 4 => ("MoleBoard$Reader", "values", "[I", true)
  | 5 => ("MoleBoard$Reader", "sort", "I", false)
  | 6 => ("MoleBoard$Reader", "start", "I", false)
  | 7 => ("MoleBoard$Reader", "stop", "I", false)
  | _ => ("MoleBoard$Reader", "value", "I", false)
def tyX7 : Nat → FieldType := fun k => match k with
  | 0 => .object "MoleBoard$Board"
  | 1 => .int
  | 2 => .int
  | 3 => .object "MoleBoard$Tape"
  | 4 => .array .int
  | 5 => .int
  | 6 => .int
  | 7 => .int
  | _ => .int
abbrev wsX70 : List Cond := u_ws RX7 TX7 9
theorem nmX7 : ∀ a, a < 9 → ∀ b, b < 9 → a ≠ b → (TX7 a).2.1 ≠ (TX7 b).2.1 := by decide +kernel
theorem tyX7_ok : ∀ k, k < 9 → parseFieldDescriptor (TX7 k).2.2.1 = some (tyX7 k) := by decide +kernel
abbrev cX7_init : ByteArray := prog_9_method_1_code
def yX7_init : MethodName := ⟨RX7, "<init>", "()V"⟩
abbrev cX7_readAll : ByteArray := prog_9_method_2_code
def yX7_readAll : MethodName := ⟨RX7, "readAll", "()Z"⟩
abbrev cX7_shapeOf : ByteArray := prog_9_method_3_code
def yX7_shapeOf : MethodName := ⟨RX7, "shapeOf", "(I)Ljava/lang/String;"⟩
abbrev cX7_readLine : ByteArray := prog_9_method_4_code
def yX7_readLine : MethodName := ⟨RX7, "readLine", "()V"⟩
abbrev cX7_blame : ByteArray := prog_9_method_5_code
def yX7_blame : MethodName := ⟨RX7, "blame", "(I)V"⟩
abbrev cX7_behindBlank : ByteArray := prog_9_method_6_code
def yX7_behindBlank : MethodName := ⟨RX7, "behindBlank", "(Ljava/lang/String;I)I"⟩
abbrev cX7_kindOfLine : ByteArray := prog_9_method_7_code
def yX7_kindOfLine : MethodName := ⟨RX7, "kindOfLine", "()I"⟩
abbrev cX7_standsAt : ByteArray := prog_9_method_8_code
def yX7_standsAt : MethodName := ⟨RX7, "standsAt", "(Ljava/lang/String;I)Z"⟩
abbrev cX7_isSpelled : ByteArray := prog_9_method_9_code
def yX7_isSpelled : MethodName := ⟨RX7, "isSpelled", "(Ljava/lang/String;I)Z"⟩
abbrev cX7_isFull : ByteArray := prog_9_method_10_code
def yX7_isFull : MethodName := ⟨RX7, "isFull", "(I)Z"⟩
abbrev cX7_judge : ByteArray := prog_9_method_11_code
def yX7_judge : MethodName := ⟨RX7, "judge", "(II)I"⟩
abbrev cX7_within : ByteArray := prog_9_method_12_code
def yX7_within : MethodName := ⟨RX7, "within", "(II)I"⟩
abbrev cX7_fitsBoard : ByteArray := prog_9_method_13_code
def yX7_fitsBoard : MethodName := ⟨RX7, "fitsBoard", "(I)Z"⟩
abbrev cX7_judgeFrom : ByteArray := prog_9_method_14_code
def yX7_judgeFrom : MethodName := ⟨RX7, "judgeFrom", "()I"⟩
abbrev cX7_isOpen : ByteArray := prog_9_method_15_code
def yX7_isOpen : MethodName := ⟨RX7, "isOpen", "()Z"⟩
abbrev cX7_apply : ByteArray := prog_9_method_16_code
def yX7_apply : MethodName := ⟨RX7, "apply", "(I)V"⟩
abbrev cX7_addPlayer : ByteArray := prog_9_method_17_code
def yX7_addPlayer : MethodName := ⟨RX7, "addPlayer", "()V"⟩
abbrev cX7_step : ByteArray := prog_9_method_18_code
def yX7_step : MethodName := ⟨RX7, "step", "()V"⟩
abbrev cX7_isBlank : ByteArray := prog_9_method_19_code
def yX7_isBlank : MethodName := ⟨RX7, "isBlank", "(I)Z"⟩
abbrev cX7_isLetter : ByteArray := prog_9_method_20_code
def yX7_isLetter : MethodName := ⟨RX7, "isLetter", "(I)Z"⟩
abbrev cX7_isDigit : ByteArray := prog_9_method_21_code
def yX7_isDigit : MethodName := ⟨RX7, "isDigit", "(I)Z"⟩
def RX8 : String := "MoleBoard$Row"
def TX8 : u_T := fun k => match k with
  | 0 => ("MoleBoard$Row", "size", "I", false)
  | 1 => ("MoleBoard$Row", "width", "I", false)
  | _ => ("MoleBoard$Row", "numbers", "[J", true)
def tyX8 : Nat → FieldType := fun k => match k with
  | 0 => .int
  | 1 => .int
  | _ => .array .long
abbrev wsX80 : List Cond := u_ws RX8 TX8 3
theorem nmX8 : ∀ a, a < 3 → ∀ b, b < 3 → a ≠ b → (TX8 a).2.1 ≠ (TX8 b).2.1 := by decide +kernel
theorem tyX8_ok : ∀ k, k < 3 → parseFieldDescriptor (TX8 k).2.2.1 = some (tyX8 k) := by decide +kernel
abbrev cX8_init : ByteArray := prog_10_method_1_code
def yX8_init : MethodName := ⟨RX8, "<init>", "()V"⟩
abbrev cX8_isMade : ByteArray := prog_10_method_2_code
def yX8_isMade : MethodName := ⟨RX8, "isMade", "()Z"⟩
abbrev cX8_make : ByteArray := prog_10_method_3_code
def yX8_make : MethodName := ⟨RX8, "make", "(II)V"⟩
abbrev cX8_put : ByteArray := prog_10_method_4_code
def yX8_put : MethodName := ⟨RX8, "put", "(IJ)V"⟩
abbrev cX8_hasPart : ByteArray := prog_10_method_5_code
def yX8_hasPart : MethodName := ⟨RX8, "hasPart", "(II)Z"⟩
abbrev cX8_isBelow : ByteArray := prog_10_method_6_code
def yX8_isBelow : MethodName := ⟨RX8, "isBelow", "(II)Z"⟩
abbrev cX8_isPeriod : ByteArray := prog_10_method_7_code
def yX8_isPeriod : MethodName := ⟨RX8, "isPeriod", "(I)Z"⟩
abbrev cX8_leastPeriod : ByteArray := prog_10_method_8_code
def yX8_leastPeriod : MethodName := ⟨RX8, "leastPeriod", "()I"⟩
abbrev cX8_periodsInAll : ByteArray := prog_10_method_9_code
def yX8_periodsInAll : MethodName := ⟨RX8, "periodsInAll", "()I"⟩
def RX9 : String := "MoleBoard$Run"
def TX9 : u_T := fun k => match k with
  | 0 => ("MoleBoard$Run", "struck", "I", false)
  | 1 => ("MoleBoard$Run", "gone", "I", false)
  | 2 => ("MoleBoard$Run", "strikeOf", "[I", true)
  | 3 => ("MoleBoard$Run", "timesOf", "[I", true)
  | 4 => ("MoleBoard$Run", "bad", "I", false)
  | 5 => ("MoleBoard$Run", "tickOf", "[I", true)
  | 6 => ("MoleBoard$Run", "holeOf", "[I", true)
  | 7 => ("MoleBoard$Run", "hole", "I", false)
  | _ => ("MoleBoard$Run", "free", "I", false)
def tyX9 : Nat → FieldType := fun k => match k with
  | 0 => .int
  | 1 => .int
  | 2 => .array .int
  | 3 => .array .int
  | 4 => .int
  | 5 => .array .int
  | 6 => .array .int
  | 7 => .int
  | _ => .int
abbrev wsX90 : List Cond := u_ws RX9 TX9 9
theorem nmX9 : ∀ a, a < 9 → ∀ b, b < 9 → a ≠ b → (TX9 a).2.1 ≠ (TX9 b).2.1 := by decide +kernel
theorem tyX9_ok : ∀ k, k < 9 → parseFieldDescriptor (TX9 k).2.2.1 = some (tyX9 k) := by decide +kernel
abbrev cX9_init : ByteArray := prog_11_method_1_code
def yX9_init : MethodName := ⟨RX9, "<init>", "()V"⟩
abbrev cX9_good : ByteArray := prog_11_method_2_code
def yX9_good : MethodName := ⟨RX9, "good", "(LMoleBoard$Board;LMoleBoard$Game;LMoleBoard$Player;I)I"⟩
abbrev cX9_rashPoints : ByteArray := prog_11_method_3_code
def yX9_rashPoints : MethodName := ⟨RX9, "rashPoints", "(LMoleBoard$Board;LMoleBoard$Game;LMoleBoard$Player;)I"⟩
abbrev cX9_begin : ByteArray := prog_11_method_4_code
def yX9_begin : MethodName := ⟨RX9, "begin", "(LMoleBoard$Game;LMoleBoard$Player;)V"⟩
abbrev cX9_goFor : ByteArray := prog_11_method_5_code
def yX9_goFor : MethodName := ⟨RX9, "goFor", "(LMoleBoard$Board;LMoleBoard$Game;LMoleBoard$Player;II)V"⟩
abbrev cX9_among : ByteArray := prog_11_method_6_code
def yX9_among : MethodName := ⟨RX9, "among", "(II)I"⟩
abbrev cX9_strike : ByteArray := prog_11_method_7_code
def yX9_strike : MethodName := ⟨RX9, "strike", "(LMoleBoard$Board;LMoleBoard$Game;LMoleBoard$Player;II)Z"⟩
abbrev cX9_holeBehind : ByteArray := prog_11_method_8_code
def yX9_holeBehind : MethodName := ⟨RX9, "holeBehind", "(II)I"⟩
abbrev cX9_firstMissed : ByteArray := prog_11_method_9_code
def yX9_firstMissed : MethodName := ⟨RX9, "firstMissed", "(LMoleBoard$Game;)I"⟩
def RX10 : String := "MoleBoard$Tape"
def TX10 : u_T := fun k => match k with
  | 0 => ("MoleBoard$Tape", "size", "I", false)
  | _ => ("MoleBoard$Tape", "bytes", "[B", true)
def tyX10 : Nat → FieldType := fun k => match k with
  | 0 => .int
  | _ => .array .byte
abbrev wsX100 : List Cond := u_ws RX10 TX10 2
theorem nmX10 : ∀ a, a < 2 → ∀ b, b < 2 → a ≠ b → (TX10 a).2.1 ≠ (TX10 b).2.1 := by decide +kernel
theorem tyX10_ok : ∀ k, k < 2 → parseFieldDescriptor (TX10 k).2.2.1 = some (tyX10 k) := by decide +kernel
abbrev cX10_init : ByteArray := prog_12_method_1_code
def yX10_init : MethodName := ⟨RX10, "<init>", "()V"⟩
abbrev cX10_put : ByteArray := prog_12_method_2_code
def yX10_put : MethodName := ⟨RX10, "put", "(I)V"⟩
abbrev cX10_at : ByteArray := prog_12_method_3_code
def yX10_at : MethodName := ⟨RX10, "at", "(I)I"⟩
def RX11 : String := "MoleBoard"
def TX11 : u_T := fun k => match k with
  | 0 => ("MoleBoard", "now", "LMoleBoard$Board;", true)
  | 1 => ("MoleBoard", "images", "[LMoleBoard$Board;", true)
  | 2 => ("MoleBoard", "reader", "LMoleBoard$Reader;", true)
  | 3 => ("MoleBoard", "game", "LMoleBoard$Game;", true)
  | 4 => ("MoleBoard", "runner", "LMoleBoard$Player;", true)
  | 5 => ("MoleBoard", "partner", "LMoleBoard$Player;", true)
  | 6 => ("MoleBoard", "run", "LMoleBoard$Run;", true)
  | 7 => ("MoleBoard", "search", "LMoleBoard$Best;", true)
  | 8 => ("MoleBoard", "lots", "LMoleBoard$Lots;", true)
  | 9 => ("MoleBoard", "blows", "LMoleBoard$Blows;", true)
  | _ => ("MoleBoard", "slots", "[LMoleBoard$Row;", true)
def tyX11 : Nat → FieldType := fun k => match k with
  | 0 => .object "MoleBoard$Board"
  | 1 => .array (.object "MoleBoard$Board")
  | 2 => .object "MoleBoard$Reader"
  | 3 => .object "MoleBoard$Game"
  | 4 => .object "MoleBoard$Player"
  | 5 => .object "MoleBoard$Player"
  | 6 => .object "MoleBoard$Run"
  | 7 => .object "MoleBoard$Best"
  | 8 => .object "MoleBoard$Lots"
  | 9 => .object "MoleBoard$Blows"
  | _ => .array (.object "MoleBoard$Row")
abbrev wsX110 : List Cond := u_ws RX11 TX11 11
theorem nmX11 : ∀ a, a < 11 → ∀ b, b < 11 → a ≠ b → (TX11 a).2.1 ≠ (TX11 b).2.1 := by decide +kernel
theorem tyX11_ok : ∀ k, k < 11 → parseFieldDescriptor (TX11 k).2.2.1 = some (tyX11 k) := by decide +kernel
abbrev cX11_init : ByteArray := prog_1_method_1_code
def yX11_init : MethodName := ⟨RX11, "<init>", "()V"⟩
abbrev cX11_feed : ByteArray := prog_1_method_2_code
def yX11_feed : MethodName := ⟨RX11, "feed", "(IIIII)I"⟩
abbrev cX11_end : ByteArray := prog_1_method_3_code
def yX11_end : MethodName := ⟨RX11, "end", "(I)I"⟩
abbrev cX11_board : ByteArray := prog_1_method_4_code
def yX11_board : MethodName := ⟨RX11, "board", "()I"⟩
abbrev cX11_fault : ByteArray := prog_1_method_5_code
def yX11_fault : MethodName := ⟨RX11, "fault", "(I)I"⟩
abbrev cX11_drum : ByteArray := prog_1_method_6_code
def yX11_drum : MethodName := ⟨RX11, "drum", "(II)I"⟩
abbrev cX11_player : ByteArray := prog_1_method_7_code
def yX11_player : MethodName := ⟨RX11, "player", "(II)I"⟩
abbrev cX11_stay : ByteArray := prog_1_method_8_code
def yX11_stay : MethodName := ⟨RX11, "stay", "(I)I"⟩
abbrev cX11_count : ByteArray := prog_1_method_9_code
def yX11_count : MethodName := ⟨RX11, "count", "(I)I"⟩
abbrev cX11_comings : ByteArray := prog_1_method_10_code
def yX11_comings : MethodName := ⟨RX11, "comings", "()I"⟩
abbrev cX11_comes : ByteArray := prog_1_method_11_code
def yX11_comes : MethodName := ⟨RX11, "comes", "(II)I"⟩
abbrev cX11_up : ByteArray := prog_1_method_12_code
def yX11_up : MethodName := ⟨RX11, "up", "(I)I"⟩
abbrev cX11_calm : ByteArray := prog_1_method_13_code
def yX11_calm : MethodName := ⟨RX11, "calm", "()I"⟩
abbrev cX11_steps : ByteArray := prog_1_method_14_code
def yX11_steps : MethodName := ⟨RX11, "steps", "(II)I"⟩
abbrev cX11_pace : ByteArray := prog_1_method_15_code
def yX11_pace : MethodName := ⟨RX11, "pace", "(II)I"⟩
abbrev cX11_aware : ByteArray := prog_1_method_16_code
def yX11_aware : MethodName := ⟨RX11, "aware", "(II)I"⟩
abbrev cX11_hits : ByteArray := prog_1_method_17_code
def yX11_hits : MethodName := ⟨RX11, "hits", "(I)I"⟩
abbrev cX11_hit : ByteArray := prog_1_method_18_code
def yX11_hit : MethodName := ⟨RX11, "hit", "(II)I"⟩
abbrev cX11_twice : ByteArray := prog_1_method_19_code
def yX11_twice : MethodName := ⟨RX11, "twice", "(II)I"⟩
abbrev cX11_where : ByteArray := prog_1_method_20_code
def yX11_where : MethodName := ⟨RX11, "where", "(II)I"⟩
abbrev cX11_missed : ByteArray := prog_1_method_21_code
def yX11_missed : MethodName := ⟨RX11, "missed", "(I)I"⟩
abbrev cX11_walked : ByteArray := prog_1_method_22_code
def yX11_walked : MethodName := ⟨RX11, "walked", "(I)I"⟩
abbrev cX11_best : ByteArray := prog_1_method_23_code
def yX11_best : MethodName := ⟨RX11, "best", "(I)I"⟩
abbrev cX11_ahead : ByteArray := prog_1_method_24_code
def yX11_ahead : MethodName := ⟨RX11, "ahead", "(II)I"⟩
abbrev cX11_learns : ByteArray := prog_1_method_25_code
def yX11_learns : MethodName := ⟨RX11, "learns", "(II)I"⟩
abbrev cX11_enough : ByteArray := prog_1_method_26_code
def yX11_enough : MethodName := ⟨RX11, "enough", "(I)I"⟩
abbrev cX11_waits : ByteArray := prog_1_method_27_code
def yX11_waits : MethodName := ⟨RX11, "waits", "(II)I"⟩
abbrev cX11_slack : ByteArray := prog_1_method_28_code
def yX11_slack : MethodName := ⟨RX11, "slack", "(I)I"⟩
abbrev cX11_lucky : ByteArray := prog_1_method_29_code
def yX11_lucky : MethodName := ⟨RX11, "lucky", "(I)I"⟩
abbrev cX11_mean : ByteArray := prog_1_method_30_code
def yX11_mean : MethodName := ⟨RX11, "mean", "(II)I"⟩
abbrev cX11_middle : ByteArray := prog_1_method_31_code
def yX11_middle : MethodName := ⟨RX11, "middle", "(I)I"⟩
abbrev cX11_reach : ByteArray := prog_1_method_32_code
def yX11_reach : MethodName := ⟨RX11, "reach", "(II)I"⟩
abbrev cX11_post : ByteArray := prog_1_method_33_code
def yX11_post : MethodName := ⟨RX11, "post", "(I)I"⟩
abbrev cX11_rows : ByteArray := prog_1_method_34_code
def yX11_rows : MethodName := ⟨RX11, "rows", "(II)J"⟩
abbrev cX11_ends : ByteArray := prog_1_method_35_code
def yX11_ends : MethodName := ⟨RX11, "ends", "(III)J"⟩
abbrev cX11_fair : ByteArray := prog_1_method_36_code
def yX11_fair : MethodName := ⟨RX11, "fair", "(I)I"⟩
abbrev cX11_breaks : ByteArray := prog_1_method_37_code
def yX11_breaks : MethodName := ⟨RX11, "breaks", "(I)I"⟩
abbrev cX11_period : ByteArray := prog_1_method_38_code
def yX11_period : MethodName := ⟨RX11, "period", "(I)I"⟩
abbrev cX11_periods : ByteArray := prog_1_method_39_code
def yX11_periods : MethodName := ⟨RX11, "periods", "(I)I"⟩
abbrev cX11_luck : ByteArray := prog_1_method_40_code
def yX11_luck : MethodName := ⟨RX11, "luck", "(I)I"⟩
abbrev cX11_fits : ByteArray := prog_1_method_41_code
def yX11_fits : MethodName := ⟨RX11, "fits", "(I)I"⟩
abbrev cX11_place : ByteArray := prog_1_method_42_code
def yX11_place : MethodName := ⟨RX11, "place", "(II)I"⟩
abbrev cX11_next : ByteArray := prog_1_method_43_code
def yX11_next : MethodName := ⟨RX11, "next", "(I)I"⟩
abbrev cX11_needed : ByteArray := prog_1_method_44_code
def yX11_needed : MethodName := ⟨RX11, "needed", "(I)I"⟩
abbrev cX11_known : ByteArray := prog_1_method_45_code
def yX11_known : MethodName := ⟨RX11, "known", "()I"⟩
abbrev cX11_rash : ByteArray := prog_1_method_46_code
def yX11_rash : MethodName := ⟨RX11, "rash", "(I)I"⟩
abbrev cX11_look : ByteArray := prog_1_method_47_code
def yX11_look : MethodName := ⟨RX11, "look", "(II)I"⟩
abbrev cX11_line : ByteArray := prog_1_method_48_code
def yX11_line : MethodName := ⟨RX11, "line", "(I)I"⟩
abbrev cX11_two : ByteArray := prog_1_method_49_code
def yX11_two : MethodName := ⟨RX11, "two", "(III)I"⟩
abbrev cX11_tickets : ByteArray := prog_1_method_50_code
def yX11_tickets : MethodName := ⟨RX11, "tickets", "(I)I"⟩
abbrev cX11_prize : ByteArray := prog_1_method_51_code
def yX11_prize : MethodName := ⟨RX11, "prize", "(I)I"⟩
abbrev cX11_counted : ByteArray := prog_1_method_52_code
def yX11_counted : MethodName := ⟨RX11, "counted", "(I)I"⟩
abbrev cX11_scored : ByteArray := prog_1_method_53_code
def yX11_scored : MethodName := ⟨RX11, "scored", "(I)I"⟩
abbrev cX11_early : ByteArray := prog_1_method_54_code
def yX11_early : MethodName := ⟨RX11, "early", "(II)I"⟩
abbrev cX11_often : ByteArray := prog_1_method_55_code
def yX11_often : MethodName := ⟨RX11, "often", "(I)I"⟩
abbrev cX11_balance : ByteArray := prog_1_method_56_code
def yX11_balance : MethodName := ⟨RX11, "balance", "()I"⟩
abbrev cX11_path : ByteArray := prog_1_method_57_code
def yX11_path : MethodName := ⟨RX11, "path", "()I"⟩
abbrev cX11_better : ByteArray := prog_1_method_58_code
def yX11_better : MethodName := ⟨RX11, "better", "(I)I"⟩
abbrev cX11_swap : ByteArray := prog_1_method_59_code
def yX11_swap : MethodName := ⟨RX11, "swap", "(II)I"⟩
abbrev cX11_paint : ByteArray := prog_1_method_60_code
def yX11_paint : MethodName := ⟨RX11, "paint", "(II)I"⟩
abbrev cX11_turn : ByteArray := prog_1_method_61_code
def yX11_turn : MethodName := ⟨RX11, "turn", "(I)I"⟩
abbrev cX11_shut : ByteArray := prog_1_method_62_code
def yX11_shut : MethodName := ⟨RX11, "shut", "(II)I"⟩
abbrev cX11_train : ByteArray := prog_1_method_63_code
def yX11_train : MethodName := ⟨RX11, "train", "(III)I"⟩
abbrev cX11_drawn : ByteArray := prog_1_method_64_code
def yX11_drawn : MethodName := ⟨RX11, "drawn", "(III)I"⟩
abbrev cX11_night : ByteArray := prog_1_method_65_code
def yX11_night : MethodName := ⟨RX11, "night", "(III)I"⟩
abbrev cX11_years : ByteArray := prog_1_method_66_code
def yX11_years : MethodName := ⟨RX11, "years", "(IIII)I"⟩
abbrev cX11_image : ByteArray := prog_1_method_67_code
def yX11_image : MethodName := ⟨RX11, "image", "(I)I"⟩
abbrev cX11_back : ByteArray := prog_1_method_68_code
def yX11_back : MethodName := ⟨RX11, "back", "(I)I"⟩
abbrev cX11_row : ByteArray := prog_1_method_69_code
def yX11_row : MethodName := ⟨RX11, "row", "(III)I"⟩
abbrev cX11_write : ByteArray := prog_1_method_70_code
def yX11_write : MethodName := ⟨RX11, "write", "(IIJ)I"⟩
abbrev cX11_paste : ByteArray := prog_1_method_71_code
def yX11_paste : MethodName := ⟨RX11, "paste", "(IIIII)I"⟩
abbrev cX11_isSlot : ByteArray := prog_1_method_72_code
def yX11_isSlot : MethodName := ⟨RX11, "isSlot", "(I)Z"⟩
abbrev cX11_isLaw : ByteArray := prog_1_method_73_code
def yX11_isLaw : MethodName := ⟨RX11, "isLaw", "(I)Z"⟩
abbrev cX11_isSeed : ByteArray := prog_1_method_74_code
def yX11_isSeed : MethodName := ⟨RX11, "isSeed", "(I)Z"⟩
abbrev cX11_rowsKept : ByteArray := prog_1_method_75_code
def yX11_rowsKept : MethodName := ⟨RX11, "rowsKept", "()I"⟩
abbrev cX11_makeReady : ByteArray := prog_1_method_76_code
def yX11_makeReady : MethodName := ⟨RX11, "makeReady", "(I)Z"⟩
abbrev cX11_runOf : ByteArray := prog_1_method_77_code
def yX11_runOf : MethodName := ⟨RX11, "runOf", "(I)Z"⟩
abbrev cX11_hitsKnowing : ByteArray := prog_1_method_78_code
def yX11_hitsKnowing : MethodName := ⟨RX11, "hitsKnowing", "(I)I"⟩
abbrev cX11_hitsLagging : ByteArray := prog_1_method_79_code
def yX11_hitsLagging : MethodName := ⟨RX11, "hitsLagging", "(I)I"⟩
abbrev cX11_lookPoints : ByteArray := prog_1_method_80_code
def yX11_lookPoints : MethodName := ⟨RX11, "lookPoints", "(I)I"⟩
abbrev cX11_ticketsOfRun : ByteArray := prog_1_method_81_code
def yX11_ticketsOfRun : MethodName := ⟨RX11, "ticketsOfRun", "()I"⟩
abbrev cX11_countLots : ByteArray := prog_1_method_82_code
def yX11_countLots : MethodName := ⟨RX11, "countLots", "(II)Z"⟩
abbrev cX11_whyUnheard : ByteArray := prog_1_method_83_code
def yX11_whyUnheard : MethodName := ⟨RX11, "whyUnheard", "(I)I"⟩
abbrev cX11_whyNoBlows : ByteArray := prog_1_method_84_code
def yX11_whyNoBlows : MethodName := ⟨RX11, "whyNoBlows", "(I)I"⟩
def RX12 : String := "MoleBoardModel"
def TX12 : u_T := fun k => match k with
  | 0 => ("MoleBoardModel", "thrown", "I", false)
  | 1 => ("MoleBoardModel", "world", "[I", true)
  | 2 => ("MoleBoardModel", "images", "[I", true)
  | 3 => ("MoleBoardModel", "hasImage", "[Z", true)
  | 4 => ("MoleBoardModel", "tape", "[B", true)
  | 5 => ("MoleBoardModel", "taped", "I", false)
  | 6 => ("MoleBoardModel", "five", "[I", true)
  | 7 => ("MoleBoardModel", "size", "I", false)
  | 8 => ("MoleBoardModel", "at", "I", false)
  | 9 => ("MoleBoardModel", "from", "I", false)
  | 10 => ("MoleBoardModel", "token", "I", false)
  | 11 => ("MoleBoardModel", "value", "I", false)
  | 12 => ("MoleBoardModel", "faultKind", "I", false)
  | 13 => ("MoleBoardModel", "faultPlace", "I", false)
  | 14 => ("MoleBoardModel", "fresh", "[I", true)
  | 15 => ("MoleBoardModel", "game", "[I", true)
  | 16 => ("MoleBoardModel", "tickOf", "[I", true)
  | 17 => ("MoleBoardModel", "lastOf", "[I", true)
  | 18 => ("MoleBoardModel", "gameMany", "I", false)
  | 19 => ("MoleBoardModel", "runner", "I", false)
  | 20 => ("MoleBoardModel", "runLag", "I", false)
  | 21 => ("MoleBoardModel", "runKnows", "I", false)
  | 22 => ("MoleBoardModel", "runWaits", "I", false)
  | 23 => ("MoleBoardModel", "runHoles", "I", false)
  | 24 => ("MoleBoardModel", "runRed", "Z", false)
  | 25 => ("MoleBoardModel", "hitMany", "[I", true)
  | 26 => ("MoleBoardModel", "hitTick", "[I", true)
  | 27 => ("MoleBoardModel", "strikeTick", "[I", true)
  | 28 => ("MoleBoardModel", "strikeHole", "[I", true)
  | 29 => ("MoleBoardModel", "strikes", "I", false)
  | 30 => ("MoleBoardModel", "redHits", "I", false)
  | 31 => ("MoleBoardModel", "place", "I", false)
  | 32 => ("MoleBoardModel", "free", "I", false)
  | 33 => ("MoleBoardModel", "wentSteps", "I", false)
  | 34 => ("MoleBoardModel", "freeBy", "[I", true)
  | 35 => ("MoleBoardModel", "freeNow", "[I", true)
  | 36 => ("MoleBoardModel", "rowsBy", "[J", true)
  | 37 => ("MoleBoardModel", "rowsNow", "[J", true)
  | 38 => ("MoleBoardModel", "hitHoles", "[I", true)
  | 39 => ("MoleBoardModel", "goodBlows", "I", false)
  | 40 => ("MoleBoardModel", "redBlows", "I", false)
  | 41 => ("MoleBoardModel", "earlyBlows", "I", false)
  | 42 => ("MoleBoardModel", "drawn", "J", false)
  | 43 => ("MoleBoardModel", "many", "[I", true)
  | 44 => ("MoleBoardModel", "width", "[I", true)
  | 45 => ("MoleBoardModel", "numbers", "[J", true)
  | _ => ("MoleBoardModel", "moving", "[J", true)
def tyX12 : Nat → FieldType := fun k => match k with
  | 0 => .int
  | 1 => .array .int
  | 2 => .array .int
  | 3 => .array .boolean
  | 4 => .array .byte
  | 5 => .int
  | 6 => .array .int
  | 7 => .int
  | 8 => .int
  | 9 => .int
  | 10 => .int
  | 11 => .int
  | 12 => .int
  | 13 => .int
  | 14 => .array .int
  | 15 => .array .int
  | 16 => .array .int
  | 17 => .array .int
  | 18 => .int
  | 19 => .int
  | 20 => .int
  | 21 => .int
  | 22 => .int
  | 23 => .int
  | 24 => .boolean
  | 25 => .array .int
  | 26 => .array .int
  | 27 => .array .int
  | 28 => .array .int
  | 29 => .int
  | 30 => .int
  | 31 => .int
  | 32 => .int
  | 33 => .int
  | 34 => .array .int
  | 35 => .array .int
  | 36 => .array .long
  | 37 => .array .long
  | 38 => .array .int
  | 39 => .int
  | 40 => .int
  | 41 => .int
  | 42 => .long
  | 43 => .array .int
  | 44 => .array .int
  | 45 => .array .long
  | _ => .array .long
abbrev wsX120 : List Cond := u_ws RX12 TX12 47
theorem nmX12 : ∀ a, a < 47 → ∀ b, b < 47 → a ≠ b → (TX12 a).2.1 ≠ (TX12 b).2.1 := by decide +kernel
theorem tyX12_ok : ∀ k, k < 47 → parseFieldDescriptor (TX12 k).2.2.1 = some (tyX12 k) := by decide +kernel
abbrev cX12_init : ByteArray := prog_14_method_1_code
def yX12_init : MethodName := ⟨RX12, "<init>", "()V"⟩
abbrev cX12_in : ByteArray := prog_14_method_3_code
def yX12_in : MethodName := ⟨RX12, "in", "(JJJ)Z"⟩
abbrev cX12_image : ByteArray := prog_14_method_4_code
def yX12_image : MethodName := ⟨RX12, "image", "(I)I"⟩
abbrev cX12_back : ByteArray := prog_14_method_5_code
def yX12_back : MethodName := ⟨RX12, "back", "(I)I"⟩
abbrev cX12_isBoard : ByteArray := prog_14_method_6_code
def yX12_isBoard : MethodName := ⟨RX12, "isBoard", "()Z"⟩
abbrev cX12_holes : ByteArray := prog_14_method_7_code
def yX12_holes : MethodName := ⟨RX12, "holes", "()I"⟩
abbrev cX12_isHole : ByteArray := prog_14_method_8_code
def yX12_isHole : MethodName := ⟨RX12, "isHole", "(J)Z"⟩
abbrev cX12_isShut : ByteArray := prog_14_method_9_code
def yX12_isShut : MethodName := ⟨RX12, "isShut", "(I)Z"⟩
abbrev cX12_isTick : ByteArray := prog_14_method_10_code
def yX12_isTick : MethodName := ⟨RX12, "isTick", "(J)Z"⟩
abbrev cX12_isComing : ByteArray := prog_14_method_11_code
def yX12_isComing : MethodName := ⟨RX12, "isComing", "(I)Z"⟩
abbrev cX12_isPlayer : ByteArray := prog_14_method_12_code
def yX12_isPlayer : MethodName := ⟨RX12, "isPlayer", "(I)Z"⟩
abbrev cX12_ofComing : ByteArray := prog_14_method_13_code
def yX12_ofComing : MethodName := ⟨RX12, "ofComing", "(II)I"⟩
abbrev cX12_of : ByteArray := prog_14_method_14_code
def yX12_of : MethodName := ⟨RX12, "of", "(II)I"⟩
abbrev cX12_feed : ByteArray := prog_14_method_15_code
def yX12_feed : MethodName := ⟨RX12, "feed", "(IIIII)I"⟩
abbrev cX12_end : ByteArray := prog_14_method_16_code
def yX12_end : MethodName := ⟨RX12, "end", "(I)I"⟩
abbrev cX12_see : ByteArray := prog_14_method_17_code
def yX12_see : MethodName := ⟨RX12, "see", "(I)I"⟩
abbrev cX12_advance : ByteArray := prog_14_method_18_code
def yX12_advance : MethodName := ⟨RX12, "advance", "()V"⟩
abbrev cX12_good : ByteArray := prog_14_method_19_code
def yX12_good : MethodName := ⟨RX12, "good", "()Z"⟩
abbrev cX12_errs : ByteArray := prog_14_method_20_code
def yX12_errs : MethodName := ⟨RX12, "errs", "(I)V"⟩
abbrev cX12_is : ByteArray := prog_14_method_21_code
def yX12_is : MethodName := ⟨RX12, "is", "(Ljava/lang/String;)Z"⟩
abbrev cX12_takes : ByteArray := prog_14_method_22_code
def yX12_takes : MethodName := ⟨RX12, "takes", "(Ljava/lang/String;)Z"⟩
abbrev cX12_needs : ByteArray := prog_14_method_23_code
def yX12_needs : MethodName := ⟨RX12, "needs", "(Ljava/lang/String;)V"⟩
abbrev cX12_number : ByteArray := prog_14_method_24_code
def yX12_number : MethodName := ⟨RX12, "number", "(II)I"⟩
abbrev cX12_told : ByteArray := prog_14_method_25_code
def yX12_told : MethodName := ⟨RX12, "told", "(Ljava/lang/String;II)I"⟩
abbrev cX12_fault : ByteArray := prog_14_method_26_code
def yX12_fault : MethodName := ⟨RX12, "fault", "(I)I"⟩
abbrev cX12_freshHoles : ByteArray := prog_14_method_27_code
def yX12_freshHoles : MethodName := ⟨RX12, "freshHoles", "()I"⟩
abbrev cX12_readFirst : ByteArray := prog_14_method_28_code
def yX12_readFirst : MethodName := ⟨RX12, "readFirst", "()V"⟩
abbrev cX12_freshStay : ByteArray := prog_14_method_29_code
def yX12_freshStay : MethodName := ⟨RX12, "freshStay", "(I)I"⟩
abbrev cX12_readStay : ByteArray := prog_14_method_30_code
def yX12_readStay : MethodName := ⟨RX12, "readStay", "()V"⟩
abbrev cX12_isNextHole : ByteArray := prog_14_method_31_code
def yX12_isNextHole : MethodName := ⟨RX12, "isNextHole", "()Z"⟩
abbrev cX12_isFreshComing : ByteArray := prog_14_method_32_code
def yX12_isFreshComing : MethodName := ⟨RX12, "isFreshComing", "(I)Z"⟩
abbrev cX12_readShut : ByteArray := prog_14_method_33_code
def yX12_readShut : MethodName := ⟨RX12, "readShut", "()V"⟩
abbrev cX12_readHole : ByteArray := prog_14_method_34_code
def yX12_readHole : MethodName := ⟨RX12, "readHole", "(I)I"⟩
abbrev cX12_readComing : ByteArray := prog_14_method_35_code
def yX12_readComing : MethodName := ⟨RX12, "readComing", "(ZZ)V"⟩
abbrev cX12_readPlayer : ByteArray := prog_14_method_36_code
def yX12_readPlayer : MethodName := ⟨RX12, "readPlayer", "()V"⟩
abbrev cX12_readNext : ByteArray := prog_14_method_37_code
def yX12_readNext : MethodName := ⟨RX12, "readNext", "()V"⟩
abbrev cX12_readLine : ByteArray := prog_14_method_38_code
def yX12_readLine : MethodName := ⟨RX12, "readLine", "()V"⟩
abbrev cX12_board : ByteArray := prog_14_method_39_code
def yX12_board : MethodName := ⟨RX12, "board", "()I"⟩
abbrev cX12_stayIn : ByteArray := prog_14_method_40_code
def yX12_stayIn : MethodName := ⟨RX12, "stayIn", "(I)I"⟩
abbrev cX12_nextTick : ByteArray := prog_14_method_41_code
def yX12_nextTick : MethodName := ⟨RX12, "nextTick", "()I"⟩
abbrev cX12_mayCome : ByteArray := prog_14_method_42_code
def yX12_mayCome : MethodName := ⟨RX12, "mayCome", "()Z"⟩
abbrev cX12_come : ByteArray := prog_14_method_43_code
def yX12_come : MethodName := ⟨RX12, "come", "(III)V"⟩
abbrev cX12_lay : ByteArray := prog_14_method_44_code
def yX12_lay : MethodName := ⟨RX12, "lay", "()V"⟩
abbrev cX12_inGame : ByteArray := prog_14_method_45_code
def yX12_inGame : MethodName := ⟨RX12, "inGame", "(II)I"⟩
abbrev cX12_drum : ByteArray := prog_14_method_46_code
def yX12_drum : MethodName := ⟨RX12, "drum", "(II)I"⟩
abbrev cX12_player : ByteArray := prog_14_method_47_code
def yX12_player : MethodName := ⟨RX12, "player", "(II)I"⟩
abbrev cX12_stay : ByteArray := prog_14_method_48_code
def yX12_stay : MethodName := ⟨RX12, "stay", "(I)I"⟩
abbrev cX12_comings : ByteArray := prog_14_method_49_code
def yX12_comings : MethodName := ⟨RX12, "comings", "()I"⟩
abbrev cX12_isInGame : ByteArray := prog_14_method_50_code
def yX12_isInGame : MethodName := ⟨RX12, "isInGame", "(I)Z"⟩
abbrev cX12_comes : ByteArray := prog_14_method_51_code
def yX12_comes : MethodName := ⟨RX12, "comes", "(II)I"⟩
abbrev cX12_upIn : ByteArray := prog_14_method_52_code
def yX12_upIn : MethodName := ⟨RX12, "upIn", "(I)I"⟩
abbrev cX12_up : ByteArray := prog_14_method_53_code
def yX12_up : MethodName := ⟨RX12, "up", "(I)I"⟩
abbrev cX12_calm : ByteArray := prog_14_method_54_code
def yX12_calm : MethodName := ⟨RX12, "calm", "()I"⟩
abbrev cX12_stepsOf : ByteArray := prog_14_method_55_code
def yX12_stepsOf : MethodName := ⟨RX12, "stepsOf", "(II)I"⟩
abbrev cX12_steps : ByteArray := prog_14_method_56_code
def yX12_steps : MethodName := ⟨RX12, "steps", "(II)I"⟩
abbrev cX12_paceIn : ByteArray := prog_14_method_57_code
def yX12_paceIn : MethodName := ⟨RX12, "paceIn", "(II)I"⟩
abbrev cX12_pace : ByteArray := prog_14_method_58_code
def yX12_pace : MethodName := ⟨RX12, "pace", "(II)I"⟩
abbrev cX12_asTold : ByteArray := prog_14_method_59_code
def yX12_asTold : MethodName := ⟨RX12, "asTold", "(I)V"⟩
abbrev cX12_awareOf : ByteArray := prog_14_method_60_code
def yX12_awareOf : MethodName := ⟨RX12, "awareOf", "(I)I"⟩
abbrev cX12_aware : ByteArray := prog_14_method_61_code
def yX12_aware : MethodName := ⟨RX12, "aware", "(II)I"⟩
abbrev cX12_goes : ByteArray := prog_14_method_62_code
def yX12_goes : MethodName := ⟨RX12, "goes", "(II)Z"⟩
abbrev cX12_isHis : ByteArray := prog_14_method_63_code
def yX12_isHis : MethodName := ⟨RX12, "isHis", "(I)Z"⟩
abbrev cX12_goesFor : ByteArray := prog_14_method_64_code
def yX12_goesFor : MethodName := ⟨RX12, "goesFor", "(I)V"⟩
abbrev cX12_run : ByteArray := prog_14_method_65_code
def yX12_run : MethodName := ⟨RX12, "run", "()V"⟩
abbrev cX12_runAsTold : ByteArray := prog_14_method_66_code
def yX12_runAsTold : MethodName := ⟨RX12, "runAsTold", "(I)V"⟩
abbrev cX12_hits : ByteArray := prog_14_method_67_code
def yX12_hits : MethodName := ⟨RX12, "hits", "(I)I"⟩
abbrev cX12_hit : ByteArray := prog_14_method_68_code
def yX12_hit : MethodName := ⟨RX12, "hit", "(II)I"⟩
abbrev cX12_twice : ByteArray := prog_14_method_69_code
def yX12_twice : MethodName := ⟨RX12, "twice", "(II)I"⟩
abbrev cX12_where : ByteArray := prog_14_method_70_code
def yX12_where : MethodName := ⟨RX12, "where", "(II)I"⟩
abbrev cX12_missed : ByteArray := prog_14_method_71_code
def yX12_missed : MethodName := ⟨RX12, "missed", "(I)I"⟩
abbrev cX12_walked : ByteArray := prog_14_method_72_code
def yX12_walked : MethodName := ⟨RX12, "walked", "(I)I"⟩
abbrev cX12_cell : ByteArray := prog_14_method_73_code
def yX12_cell : MethodName := ⟨RX12, "cell", "(II)I"⟩
abbrev cX12_sooner : ByteArray := prog_14_method_74_code
def yX12_sooner : MethodName := ⟨RX12, "sooner", "(III)V"⟩
abbrev cX12_behind : ByteArray := prog_14_method_75_code
def yX12_behind : MethodName := ⟨RX12, "behind", "(IIII)I"⟩
abbrev cX12_mayHit : ByteArray := prog_14_method_76_code
def yX12_mayHit : MethodName := ⟨RX12, "mayHit", "(III)V"⟩
abbrev cX12_bestOf : ByteArray := prog_14_method_77_code
def yX12_bestOf : MethodName := ⟨RX12, "bestOf", "(II)I"⟩
abbrev cX12_best : ByteArray := prog_14_method_78_code
def yX12_best : MethodName := ⟨RX12, "best", "(I)I"⟩
abbrev cX12_ahead : ByteArray := prog_14_method_79_code
def yX12_ahead : MethodName := ⟨RX12, "ahead", "(II)I"⟩
abbrev cX12_learnsBy : ByteArray := prog_14_method_80_code
def yX12_learnsBy : MethodName := ⟨RX12, "learnsBy", "(II)I"⟩
abbrev cX12_learns : ByteArray := prog_14_method_81_code
def yX12_learns : MethodName := ⟨RX12, "learns", "(II)I"⟩
abbrev cX12_enough : ByteArray := prog_14_method_82_code
def yX12_enough : MethodName := ⟨RX12, "enough", "(I)I"⟩
abbrev cX12_waitingAt : ByteArray := prog_14_method_83_code
def yX12_waitingAt : MethodName := ⟨RX12, "waitingAt", "(II)I"⟩
abbrev cX12_waits : ByteArray := prog_14_method_84_code
def yX12_waits : MethodName := ⟨RX12, "waits", "(II)I"⟩
abbrev cX12_openHoles : ByteArray := prog_14_method_85_code
def yX12_openHoles : MethodName := ⟨RX12, "openHoles", "()I"⟩
abbrev cX12_stepsToAll : ByteArray := prog_14_method_86_code
def yX12_stepsToAll : MethodName := ⟨RX12, "stepsToAll", "(I)I"⟩
abbrev cX12_divisor : ByteArray := prog_14_method_87_code
def yX12_divisor : MethodName := ⟨RX12, "divisor", "(II)I"⟩
abbrev cX12_mean : ByteArray := prog_14_method_88_code
def yX12_mean : MethodName := ⟨RX12, "mean", "(II)I"⟩
abbrev cX12_middle : ByteArray := prog_14_method_89_code
def yX12_middle : MethodName := ⟨RX12, "middle", "(I)I"⟩
abbrev cX12_reachOf : ByteArray := prog_14_method_90_code
def yX12_reachOf : MethodName := ⟨RX12, "reachOf", "(II)I"⟩
abbrev cX12_reach : ByteArray := prog_14_method_91_code
def yX12_reach : MethodName := ⟨RX12, "reach", "(II)I"⟩
abbrev cX12_bits : ByteArray := prog_14_method_92_code
def yX12_bits : MethodName := ⟨RX12, "bits", "(I)I"⟩
abbrev cX12_post : ByteArray := prog_14_method_93_code
def yX12_post : MethodName := ⟨RX12, "post", "(I)I"⟩
abbrev cX12_lagging : ByteArray := prog_14_method_94_code
def yX12_lagging : MethodName := ⟨RX12, "lagging", "(II)I"⟩
abbrev cX12_slack : ByteArray := prog_14_method_95_code
def yX12_slack : MethodName := ⟨RX12, "slack", "(I)I"⟩
abbrev cX12_isLaw : ByteArray := prog_14_method_96_code
def yX12_isLaw : MethodName := ⟨RX12, "isLaw", "(I)Z"⟩
abbrev cX12_lets : ByteArray := prog_14_method_97_code
def yX12_lets : MethodName := ⟨RX12, "lets", "(IIII)Z"⟩
abbrev cX12_fillRows : ByteArray := prog_14_method_98_code
def yX12_fillRows : MethodName := ⟨RX12, "fillRows", "(II)V"⟩
abbrev cX12_endingIn : ByteArray := prog_14_method_99_code
def yX12_endingIn : MethodName := ⟨RX12, "endingIn", "(I)J"⟩
abbrev cX12_rows : ByteArray := prog_14_method_100_code
def yX12_rows : MethodName := ⟨RX12, "rows", "(II)J"⟩
abbrev cX12_ends : ByteArray := prog_14_method_101_code
def yX12_ends : MethodName := ⟨RX12, "ends", "(III)J"⟩
abbrev cX12_fair : ByteArray := prog_14_method_102_code
def yX12_fair : MethodName := ⟨RX12, "fair", "(I)I"⟩
abbrev cX12_holeAt : ByteArray := prog_14_method_103_code
def yX12_holeAt : MethodName := ⟨RX12, "holeAt", "(I)I"⟩
abbrev cX12_breaks : ByteArray := prog_14_method_104_code
def yX12_breaks : MethodName := ⟨RX12, "breaks", "(I)I"⟩
abbrev cX12_numberAt : ByteArray := prog_14_method_105_code
def yX12_numberAt : MethodName := ⟨RX12, "numberAt", "(II)J"⟩
abbrev cX12_asksHeard : ByteArray := prog_14_method_106_code
def yX12_asksHeard : MethodName := ⟨RX12, "asksHeard", "(I)I"⟩
abbrev cX12_isPeriod : ByteArray := prog_14_method_107_code
def yX12_isPeriod : MethodName := ⟨RX12, "isPeriod", "(II)Z"⟩
abbrev cX12_leastPeriod : ByteArray := prog_14_method_108_code
def yX12_leastPeriod : MethodName := ⟨RX12, "leastPeriod", "(I)I"⟩
abbrev cX12_period : ByteArray := prog_14_method_109_code
def yX12_period : MethodName := ⟨RX12, "period", "(I)I"⟩
abbrev cX12_periods : ByteArray := prog_14_method_110_code
def yX12_periods : MethodName := ⟨RX12, "periods", "(I)I"⟩
abbrev cX12_luck : ByteArray := prog_14_method_111_code
def yX12_luck : MethodName := ⟨RX12, "luck", "(I)I"⟩
abbrev cX12_fitsFrom : ByteArray := prog_14_method_112_code
def yX12_fitsFrom : MethodName := ⟨RX12, "fitsFrom", "(II)Z"⟩
abbrev cX12_fits : ByteArray := prog_14_method_113_code
def yX12_fits : MethodName := ⟨RX12, "fits", "(I)I"⟩
abbrev cX12_place : ByteArray := prog_14_method_114_code
def yX12_place : MethodName := ⟨RX12, "place", "(II)I"⟩
abbrev cX12_next : ByteArray := prog_14_method_115_code
def yX12_next : MethodName := ⟨RX12, "next", "(I)I"⟩
abbrev cX12_goesAlike : ByteArray := prog_14_method_116_code
def yX12_goesAlike : MethodName := ⟨RX12, "goesAlike", "(III)Z"⟩
abbrev cX12_neededFrom : ByteArray := prog_14_method_117_code
def yX12_neededFrom : MethodName := ⟨RX12, "neededFrom", "(I)I"⟩
abbrev cX12_needed : ByteArray := prog_14_method_118_code
def yX12_needed : MethodName := ⟨RX12, "needed", "(I)I"⟩
abbrev cX12_known : ByteArray := prog_14_method_119_code
def yX12_known : MethodName := ⟨RX12, "known", "()I"⟩
abbrev cX12_rashOf : ByteArray := prog_14_method_120_code
def yX12_rashOf : MethodName := ⟨RX12, "rashOf", "(I)I"⟩
abbrev cX12_rash : ByteArray := prog_14_method_121_code
def yX12_rash : MethodName := ⟨RX12, "rash", "(I)I"⟩
abbrev cX12_lookOf : ByteArray := prog_14_method_122_code
def yX12_lookOf : MethodName := ⟨RX12, "lookOf", "(II)I"⟩
abbrev cX12_look : ByteArray := prog_14_method_123_code
def yX12_look : MethodName := ⟨RX12, "look", "(II)I"⟩
abbrev cX12_line : ByteArray := prog_14_method_124_code
def yX12_line : MethodName := ⟨RX12, "line", "(I)I"⟩
abbrev cX12_hitsOn : ByteArray := prog_14_method_125_code
def yX12_hitsOn : MethodName := ⟨RX12, "hitsOn", "(II)I"⟩
abbrev cX12_two : ByteArray := prog_14_method_126_code
def yX12_two : MethodName := ⟨RX12, "two", "(III)I"⟩
abbrev cX12_ticketsOf : ByteArray := prog_14_method_127_code
def yX12_ticketsOf : MethodName := ⟨RX12, "ticketsOf", "(I)I"⟩
abbrev cX12_tickets : ByteArray := prog_14_method_128_code
def yX12_tickets : MethodName := ⟨RX12, "tickets", "(I)I"⟩
abbrev cX12_prize : ByteArray := prog_14_method_129_code
def yX12_prize : MethodName := ⟨RX12, "prize", "(I)I"⟩
abbrev cX12_asksBlows : ByteArray := prog_14_method_130_code
def yX12_asksBlows : MethodName := ⟨RX12, "asksBlows", "(I)I"⟩
abbrev cX12_strike : ByteArray := prog_14_method_131_code
def yX12_strike : MethodName := ⟨RX12, "strike", "(III)V"⟩
abbrev cX12_layBlows : ByteArray := prog_14_method_132_code
def yX12_layBlows : MethodName := ⟨RX12, "layBlows", "(II)V"⟩
abbrev cX12_counted : ByteArray := prog_14_method_133_code
def yX12_counted : MethodName := ⟨RX12, "counted", "(I)I"⟩
abbrev cX12_scored : ByteArray := prog_14_method_134_code
def yX12_scored : MethodName := ⟨RX12, "scored", "(I)I"⟩
abbrev cX12_early : ByteArray := prog_14_method_135_code
def yX12_early : MethodName := ⟨RX12, "early", "(II)I"⟩
abbrev cX12_oftenOf : ByteArray := prog_14_method_136_code
def yX12_oftenOf : MethodName := ⟨RX12, "oftenOf", "(I)I"⟩
abbrev cX12_often : ByteArray := prog_14_method_137_code
def yX12_often : MethodName := ⟨RX12, "often", "(I)I"⟩
abbrev cX12_balance : ByteArray := prog_14_method_138_code
def yX12_balance : MethodName := ⟨RX12, "balance", "()I"⟩
abbrev cX12_pathOf : ByteArray := prog_14_method_139_code
def yX12_pathOf : MethodName := ⟨RX12, "pathOf", "()I"⟩
abbrev cX12_path : ByteArray := prog_14_method_140_code
def yX12_path : MethodName := ⟨RX12, "path", "()I"⟩
abbrev cX12_trade : ByteArray := prog_14_method_141_code
def yX12_trade : MethodName := ⟨RX12, "trade", "(II)V"⟩
abbrev cX12_better : ByteArray := prog_14_method_142_code
def yX12_better : MethodName := ⟨RX12, "better", "(I)I"⟩
abbrev cX12_swap : ByteArray := prog_14_method_143_code
def yX12_swap : MethodName := ⟨RX12, "swap", "(II)I"⟩
abbrev cX12_paint : ByteArray := prog_14_method_144_code
def yX12_paint : MethodName := ⟨RX12, "paint", "(II)I"⟩
abbrev cX12_turn : ByteArray := prog_14_method_145_code
def yX12_turn : MethodName := ⟨RX12, "turn", "(I)I"⟩
abbrev cX12_lucky : ByteArray := prog_14_method_146_code
def yX12_lucky : MethodName := ⟨RX12, "lucky", "(I)I"⟩
abbrev cX12_shut : ByteArray := prog_14_method_147_code
def yX12_shut : MethodName := ⟨RX12, "shut", "(II)I"⟩
abbrev cX12_train : ByteArray := prog_14_method_148_code
def yX12_train : MethodName := ⟨RX12, "train", "(III)I"⟩
abbrev cX12_draw : ByteArray := prog_14_method_149_code
def yX12_draw : MethodName := ⟨RX12, "draw", "(I)I"⟩
abbrev cX12_holeByLot : ByteArray := prog_14_method_150_code
def yX12_holeByLot : MethodName := ⟨RX12, "holeByLot", "(I)I"⟩
abbrev cX12_layNight : ByteArray := prog_14_method_151_code
def yX12_layNight : MethodName := ⟨RX12, "layNight", "(JI)V"⟩
abbrev cX12_isSeed : ByteArray := prog_14_method_152_code
def yX12_isSeed : MethodName := ⟨RX12, "isSeed", "(I)Z"⟩
abbrev cX12_drawn : ByteArray := prog_14_method_153_code
def yX12_drawn : MethodName := ⟨RX12, "drawn", "(III)I"⟩
abbrev cX12_nightOf : ByteArray := prog_14_method_154_code
def yX12_nightOf : MethodName := ⟨RX12, "nightOf", "(JII)I"⟩
abbrev cX12_night : ByteArray := prog_14_method_155_code
def yX12_night : MethodName := ⟨RX12, "night", "(III)I"⟩
abbrev cX12_years : ByteArray := prog_14_method_156_code
def yX12_years : MethodName := ⟨RX12, "years", "(IIII)I"⟩
abbrev cX12_count : ByteArray := prog_14_method_157_code
def yX12_count : MethodName := ⟨RX12, "count", "(I)I"⟩
abbrev cX12_isSlot : ByteArray := prog_14_method_158_code
def yX12_isSlot : MethodName := ⟨RX12, "isSlot", "(I)Z"⟩
abbrev cX12_cut : ByteArray := prog_14_method_159_code
def yX12_cut : MethodName := ⟨RX12, "cut", "(JI)J"⟩
abbrev cX12_row : ByteArray := prog_14_method_160_code
def yX12_row : MethodName := ⟨RX12, "row", "(III)I"⟩
abbrev cX12_write : ByteArray := prog_14_method_161_code
def yX12_write : MethodName := ⟨RX12, "write", "(IIJ)I"⟩
abbrev cX12_paste : ByteArray := prog_14_method_162_code
def yX12_paste : MethodName := ⟨RX12, "paste", "(IIIII)I"⟩
def RJ6 : String := "java/lang/Integer"
def TJ6 : u_T := fun k => match k with
  | _ => ("", "", "", false)
def tyJ6 : Nat → FieldType := fun k => match k with
  | _ => .int
abbrev wsJ60 : List Cond := u_ws RJ6 TJ6 0
theorem nmJ6 : ∀ a, a < 0 → ∀ b, b < 0 → a ≠ b → (TJ6 a).2.1 ≠ (TJ6 b).2.1 := by decide +kernel
theorem tyJ6_ok : ∀ k, k < 0 → parseFieldDescriptor (TJ6 k).2.2.1 = some (tyJ6 k) := by decide +kernel
abbrev cJ6_bitCount_0f7a4 : ByteArray := prog_15_method_49_code
def yJ6_bitCount_0f7a4 : MethodName := ⟨RJ6, "bitCount", "(I)I"⟩
def RJ9 : String := "java/lang/Math"
def TJ9 : u_T := fun k => match k with
  | _ => ("", "", "", false)
def tyJ9 : Nat → FieldType := fun k => match k with
  | _ => .int
abbrev wsJ90 : List Cond := u_ws RJ9 TJ9 0
theorem nmJ9 : ∀ a, a < 0 → ∀ b, b < 0 → a ≠ b → (TJ9 a).2.1 ≠ (TJ9 b).2.1 := by decide +kernel
theorem tyJ9_ok : ∀ k, k < 0 → parseFieldDescriptor (TJ9 k).2.2.1 = some (tyJ9 k) := by decide +kernel
abbrev cJ9_floorMod_7cf53 : ByteArray := prog_16_method_50_code
def yJ9_floorMod_7cf53 : MethodName := ⟨RJ9, "floorMod", "(II)I"⟩
abbrev cJ9_abs_0f7a4 : ByteArray := prog_16_method_59_code
def yJ9_abs_0f7a4 : MethodName := ⟨RJ9, "abs", "(I)I"⟩
abbrev cJ9_max_7cf53 : ByteArray := prog_16_method_65_code
def yJ9_max_7cf53 : MethodName := ⟨RJ9, "max", "(II)I"⟩
abbrev cJ9_min_7cf53 : ByteArray := prog_16_method_69_code
def yJ9_min_7cf53 : MethodName := ⟨RJ9, "min", "(II)I"⟩
def RJ0 : String := "java/lang/String"
def TJ0 : u_T := fun k => match k with
  | _ => ("", "", "", false)
def tyJ0 : Nat → FieldType := fun k => match k with
  | _ => .int
abbrev wsJ00 : List Cond := u_ws RJ0 TJ0 0
theorem nmJ0 : ∀ a, a < 0 → ∀ b, b < 0 → a ≠ b → (TJ0 a).2.1 ≠ (TJ0 b).2.1 := by decide +kernel
theorem tyJ0_ok : ∀ k, k < 0 → parseFieldDescriptor (TJ0 k).2.2.1 = some (tyJ0 k) := by decide +kernel
abbrev cJ0_length_8abf5 : ByteArray := prog_17_method_54_code
def yJ0_length_8abf5 : MethodName := ⟨RJ0, "length", "()I"⟩
abbrev cJ0_charAt_5068e : ByteArray := prog_17_method_56_code
def yJ0_charAt_5068e : MethodName := ⟨RJ0, "charAt", "(I)C"⟩
abbrev cJ0_coder_7d493 : ByteArray := prog_17_method_152_code
def yJ0_coder_7d493 : MethodName := ⟨RJ0, "coder", "()B"⟩
abbrev cJ0_isLatin1_aae02 : ByteArray := prog_17_method_154_code
def yJ0_isLatin1_aae02 : MethodName := ⟨RJ0, "isLatin1", "()Z"⟩
abbrev cJ0_checkIndex_df160 : ByteArray := prog_17_method_155_code
def yJ0_checkIndex_df160 : MethodName := ⟨RJ0, "checkIndex", "(II)V"⟩
def RJ1 : String := "java/lang/StringLatin1"
def TJ1 : u_T := fun k => match k with
  | _ => ("", "", "", false)
def tyJ1 : Nat → FieldType := fun k => match k with
  | _ => .int
abbrev wsJ10 : List Cond := u_ws RJ1 TJ1 0
theorem nmJ1 : ∀ a, a < 0 → ∀ b, b < 0 → a ≠ b → (TJ1 a).2.1 ≠ (TJ1 b).2.1 := by decide +kernel
theorem tyJ1_ok : ∀ k, k < 0 → parseFieldDescriptor (TJ1 k).2.2.1 = some (tyJ1 k) := by decide +kernel
abbrev cJ1_charAt_3b067 : ByteArray := prog_18_method_2_code
def yJ1_charAt_3b067 : MethodName := ⟨RJ1, "charAt", "([BI)C"⟩
def RJ2 : String := "java/lang/StringUTF16"
def TJ2 : u_T := fun k => match k with
  | _ => ("", "", "", false)
def tyJ2 : Nat → FieldType := fun k => match k with
  | _ => .int
abbrev wsJ20 : List Cond := u_ws RJ2 TJ2 0
theorem nmJ2 : ∀ a, a < 0 → ∀ b, b < 0 → a ≠ b → (TJ2 a).2.1 ≠ (TJ2 b).2.1 := by decide +kernel
theorem tyJ2_ok : ∀ k, k < 0 → parseFieldDescriptor (TJ2 k).2.2.1 = some (tyJ2 k) := by decide +kernel
abbrev cJ2_getChar_3b067 : ByteArray := prog_19_method_5_code
def yJ2_getChar_3b067 : MethodName := ⟨RJ2, "getChar", "([BI)C"⟩
abbrev cJ2_length_9d52b : ByteArray := prog_19_method_6_code
def yJ2_length_9d52b : MethodName := ⟨RJ2, "length", "([B)I"⟩
abbrev cJ2_charAt_3b067 : ByteArray := prog_19_method_83_code
def yJ2_charAt_3b067 : MethodName := ⟨RJ2, "charAt", "([BI)C"⟩
abbrev cJ2_checkIndex_2214a : ByteArray := prog_19_method_91_code
def yJ2_checkIndex_2214a : MethodName := ⟨RJ2, "checkIndex", "(I[B)V"⟩
def RJ10 : String := "java/lang/System"
def TJ10 : u_T := fun k => match k with
  | _ => ("", "", "", false)
def tyJ10 : Nat → FieldType := fun k => match k with
  | _ => .int
abbrev wsJ100 : List Cond := u_ws RJ10 TJ10 0
theorem nmJ10 : ∀ a, a < 0 → ∀ b, b < 0 → a ≠ b → (TJ10 a).2.1 ≠ (TJ10 b).2.1 := by decide +kernel
theorem tyJ10_ok : ∀ k, k < 0 → parseFieldDescriptor (TJ10 k).2.2.1 = some (tyJ10 k) := by decide +kernel
def RJ3 : String := "jdk/internal/util/Preconditions"
def TJ3 : u_T := fun k => match k with
  | _ => ("", "", "", false)
def tyJ3 : Nat → FieldType := fun k => match k with
  | _ => .int
abbrev wsJ30 : List Cond := u_ws RJ3 TJ3 0
theorem nmJ3 : ∀ a, a < 0 → ∀ b, b < 0 → a ≠ b → (TJ3 a).2.1 ≠ (TJ3 b).2.1 := by decide +kernel
theorem tyJ3_ok : ∀ k, k < 0 → parseFieldDescriptor (TJ3 k).2.2.1 = some (tyJ3 k) := by decide +kernel
abbrev cJ3_checkIndex_8e157 : ByteArray := prog_21_method_11_code
def yJ3_checkIndex_8e157 : MethodName := ⟨RJ3, "checkIndex", "(IILjava/util/function/BiFunction;)I"⟩
def RL : String := "MoleBoardLaw"
abbrev cL_law : ByteArray := code
abbrev vwCl : List vw_C := [(RX0, TX0, 1), (RX1, TX1, 4), (RX2, TX2, 15), (RX3, TX3, 5), (RX4, TX4, 7), (RX5, TX5, 2), (RX6, TX6, 5), (RX7, TX7, 9), (RX8, TX8, 3), (RX9, TX9, 9), (RX10, TX10, 2), (RX11, TX11, 11), (RX12, TX12, 47)]
/-- the classes of which rows are made -/
def x_ao : List String := ["MoleBoard$Board", "MoleBoard$Row"]
/-! ===== an interpreter of the bytecode over a small heap of numbered cells; its soundness stands in the next part ===== -/
abbrev xE : Type := (Nat × vp_A) ⊕ (Nat × List Value)
abbrev xH : Type := List xE
abbrev xL : Type := List (Nat × Value)
/-- pc, locals, stack, heap, cells made, slots made -/
abbrev xC : Type := Nat × xL × List Value × xH × Nat × Nat
/-- a row of a method: pc, instruction, length, what it is resolved to (two numbers), the place of its word -/
abbrev xR : Type := Nat × Instr × Nat × Nat × Nat × Nat
/-- a method: its class, its name, bytes, locals, what it returns, static, its class's number, its rows in pieces -/
abbrev xM : Type := String × MethodName × ByteArray × Nat × Option FieldType × Bool × Nat × List (Nat × List xR)
abbrev xO : Type := Option (xC ⊕ ((Nat × List Value × List Value) ⊕ Option Value))
abbrev xS : Type := Nat × (Nat → Int32)
def x_scr : Nat := 1000000
/-- the String constants lie from here on, what they hold from there on -/
def x_str : Nat := 2000000
def x_val : Nat := 3000000
def x_lit : List (String × Nat × String) := [("MoleBoard$Reader", 51, "board wide # high # ticks # pause # ;"), ("MoleBoard$Reader", 53, "stay # from # ;"), ("MoleBoard$Reader", 55, "shut # ;"), ("MoleBoard$Reader", 57, "good # ;"), ("MoleBoard$Reader", 59, "red # ;"), ("MoleBoard$Reader", 61, "twin # # ;"), ("MoleBoard$Reader", 63, "player pace # lag # tires # knows # waits # ;"), ("MoleBoard$Reader", 65, "tickets # each # ;"), ("MoleBoardModel", 170, "board"), ("MoleBoardModel", 172, "wide"), ("MoleBoardModel", 178, "high"), ("MoleBoardModel", 180, "ticks"), ("MoleBoardModel", 182, "pause"), ("MoleBoardModel", 211, "good"), ("MoleBoardModel", 212, "red"), ("MoleBoardModel", 214, "twin"), ("MoleBoardModel", 216, "stay"), ("MoleBoardModel", 218, "shut"), ("MoleBoardModel", 220, "player"), ("MoleBoardModel", 222, "tickets"), ("MoleBoardModel", 184, "from"), ("MoleBoardModel", 201, "pace"), ("MoleBoardModel", 203, "lag"), ("MoleBoardModel", 205, "tires"), ("MoleBoardModel", 207, "knows"), ("MoleBoardModel", 209, "waits"), ("MoleBoardModel", 237, "each")]
def x_sbyt : List (List Int32) := [[98, 111, 97, 114, 100, 32, 119, 105, 100, 101, 32, 35, 32, 104, 105, 103, 104, 32, 35, 32, 116, 105, 99, 107, 115, 32, 35, 32, 112, 97, 117, 115, 101, 32, 35, 32, 59],
  [115, 116, 97, 121, 32, 35, 32, 102, 114, 111, 109, 32, 35, 32, 59],
  [115, 104, 117, 116, 32, 35, 32, 59],
  [103, 111, 111, 100, 32, 35, 32, 59],
  [114, 101, 100, 32, 35, 32, 59],
  [116, 119, 105, 110, 32, 35, 32, 35, 32, 59],
  [112, 108, 97, 121, 101, 114, 32, 112, 97, 99, 101, 32, 35, 32, 108, 97, 103, 32, 35, 32, 116, 105, 114, 101, 115, 32, 35, 32, 107, 110, 111, 119, 115, 32, 35, 32, 119, 97, 105, 116, 115, 32, 35, 32, 59],
  [116, 105, 99, 107, 101, 116, 115, 32, 35, 32, 101, 97, 99, 104, 32, 35, 32, 59],
  [98, 111, 97, 114, 100],
  [119, 105, 100, 101],
  [104, 105, 103, 104],
  [116, 105, 99, 107, 115],
  [112, 97, 117, 115, 101],
  [103, 111, 111, 100],
  [114, 101, 100],
  [116, 119, 105, 110],
  [115, 116, 97, 121],
  [115, 104, 117, 116],
  [112, 108, 97, 121, 101, 114],
  [116, 105, 99, 107, 101, 116, 115],
  [102, 114, 111, 109],
  [112, 97, 99, 101],
  [108, 97, 103],
  [116, 105, 114, 101, 115],
  [107, 110, 111, 119, 115],
  [119, 97, 105, 116, 115],
  [101, 97, 99, 104]]
def x_off (j : Nat) : Nat := ([33, 74, 93, 105, 117, 128, 142, 191, 213, 222, 230, 238, 247, 256, 264, 271, 279, 287, 295, 305, 316, 324, 332, 339, 348, 357, 366] : List Nat).getD j 0
def x_find : List xR → Nat → Option xR
  | [], _ => none
  | r :: rs, pc => bif Nat.beq r.1 pc then some r else x_find rs pc
def x_row : List (Nat × List xR) → Nat → Option xR
  | [], _ => none
  | q :: more, pc => bif Nat.ble pc q.1 then x_find q.2 pc else x_row more pc
def x_ld : xL → Nat → Option Value
  | [], _ => none
  | q :: r, i => bif Nat.beq q.1 i then some q.2 else x_ld r i
def x_st1 (l : xL) (i : Nat) (v : Value) : xL := (i, v) :: l.filter (fun q => !(q.1 == i) && !(q.1 + 1 == i && q.2.category == 2))
def x_st2 (l : xL) (i : Nat) (v : Value) : xL := (i, v) :: l.filter (fun q => !(q.1 == i) && (!(q.1 == i + 1) && !(q.1 + 1 == i && q.2.category == 2)))
def x_cat : List Value → Nat
  | [] => 0
  | v :: r => v.category + x_cat r
def x_go (pc : Nat) (l : xL) (st : List Value) (h : xH) (k z : Nat) : xO := some (.inl (pc, l, st, h, k, z))
def x_i1 (st : List Value) (f : Int32 → List Value → xO) : xO := match st with
  | .int x :: r => f x r
  | _ => none
def x_i2 (st : List Value) (f : Int32 → Int32 → List Value → xO) : xO := match st with
  | .int y :: .int x :: r => f x y r
  | _ => none
def x_l1 (st : List Value) (f : Int64 → List Value → xO) : xO := match st with
  | .long x :: r => f x r
  | _ => none
def x_l2 (st : List Value) (f : Int64 → Int64 → List Value → xO) : xO := match st with
  | .long y :: .long x :: r => f x y r
  | _ => none
def x_li (st : List Value) (f : Int64 → Int32 → List Value → xO) : xO := match st with
  | .int y :: .long x :: r => f x y r
  | _ => none
def x_a1 (st : List Value) (f : Nat → List Value → xO) : xO := match st with
  | .ref a :: r => f a r
  | _ => none
def x_ai (st : List Value) (f : Nat → Int32 → List Value → xO) : xO := match st with
  | .int i :: .ref a :: r => f a i r
  | _ => none
def x_aii (st : List Value) (f : Nat → Int32 → Int32 → List Value → xO) : xO := match st with
  | .int x :: .int i :: .ref a :: r => f a i x r
  | _ => none
def x_ail (st : List Value) (f : Nat → Int32 → Int64 → List Value → xO) : xO := match st with
  | .long x :: .int i :: .ref a :: r => f a i x r
  | _ => none
def x_aiq (st : List Value) (f : Nat → Int32 → Nat → List Value → xO) : xO := match st with
  | .ref x :: .int i :: .ref a :: r => f a i x r
  | _ => none
def x_av (st : List Value) (f : Nat → Value → List Value → xO) : xO := match st with
  | v :: .ref a :: r => f a v r
  | _ => none
def x_v1 (st : List Value) (f : Value → List Value → xO) : xO := match st with
  | v :: r => f v r
  | _ => none
def x_v2 (st : List Value) (f : Value → Value → List Value → xO) : xO := match st with
  | v :: w :: r => f v w r
  | _ => none
def x_cp (st : List Value) (f : Nat → Int32 → Nat → Int32 → Int32 → List Value → xO) : xO := match st with
  | .int n :: .int dp :: .ref a :: .int sp :: .ref a0 :: r => f a0 sp a dp n r
  | _ => none
/-- where a branch goes -/
def x_br (pc : Nat) (off : Int) (f : Nat → xO) : xO := match (pc : Int) + off with
  | .ofNat t => f t
  | .negSucc _ => none
def x_ob (h : xH) (a : Nat) (f : Nat → List Value → xO) : xO := match h[a]? with
  | some (.inr (c, fs)) => f c fs
  | _ => none
def x_ari (t : Nat) (h : xH) (a : Nat) (f : Nat → (Nat → Int32) → xO) : xO := match h[a]? with
  | some (.inl (t', n, .inl g)) => bif Nat.beq t' t then f n g else none
  | _ => none
def x_arl (h : xH) (a : Nat) (f : Nat → (Nat → Int64) → xO) : xO := match h[a]? with
  | some (.inl (t', n, .inr (.inl g))) => bif Nat.beq t' 1 then f n g else none
  | _ => none
def x_arq (h : xH) (a : Nat) (f : Nat → Nat → (Nat → Option Nat) → xO) : xO := match h[a]? with
  | some (.inl (t', n, .inr (.inr (.inr (.inr g))))) => f t' n g
  | _ => none
def x_ar (h : xH) (a : Nat) (f : Nat → xO) : xO := match h[a]? with
  | some (.inl (_, n, _)) => f n
  | _ => none
def x_in (i : Int32) (n : Nat) (o : xO) : xO := if i < 0 ∨ n ≤ i.toNatClampNeg then none else o
/-- the class of an object's fields' types, its table, its number of fields -/
def x_cls (ci : Nat) : Option vw_C := (vwCl : List vw_C)[ci]?
def x_fty : Nat → Nat → FieldType := fun ci => match ci with
  | 0 => tyX0
  | 1 => tyX1
  | 2 => tyX2
  | 3 => tyX3
  | 4 => tyX4
  | 5 => tyX5
  | 6 => tyX6
  | 7 => tyX7
  | 8 => tyX8
  | 9 => tyX9
  | 10 => tyX10
  | 11 => tyX11
  | _ => tyX12
def x_fit : FieldType → Value → Bool
  | .int, .int _ => true
  | .long, .long _ => true
  | .boolean, .int x => x == 0 || x == 1
  | .object _, .ref _ => true
  | .array _, .ref _ => true
  | _, _ => false
def x_ret (ret : Option FieldType) (ins : Instr) (st : List Value) : Option (Option Value) := match ins with
  | .ireturn => match ret, st with
    | some .int, [.int v] => some (some (.int v))
    | some .boolean, [.int v] => bif v == 0 || v == 1 then some (some (.int v)) else none
    | _, _ => none
  | .lreturn => match ret, st with
    | some .long, [.long v] => some (some (.long v))
    | _, _ => none
  | .areturn => match ret, st with
    | some (.object _), [.ref v] => some (some (.ref v))
    | _, _ => none
  | .return_ => match ret, st with
    | none, [] => some none
    | _, _ => none
  | _ => none
def x_cond (op : ClassFile.Cond) (x y : Int32) (a b : xO) : xO := match op with
  | .eq => if x = y then a else b
  | .ne => if ¬ x = y then a else b
  | .lt => if x < y then a else b
  | .ge => if y ≤ x then a else b
  | .gt => if y < x then a else b
  | .le => if x ≤ y then a else b
/-- constants, locals, arithmetic, stack, branches -/
def x_ins1 (ins : Instr) (pc a : Nat) (l : xL) (st : List Value) (h : xH) (k z : Nat) : xO := match ins with
  | .iconst n => x_go (pc + 1) l (.int (Int32.ofInt n) :: st) h k z
  | .bipush n => x_go (pc + 2) l (.int (Int8.ofInt n).toInt32 :: st) h k z
  | .sipush n => x_go (pc + 3) l (.int (Int16.ofInt n).toInt32 :: st) h k z
  | .lconst n => x_go (pc + 1) l (.long (Int64.ofNat (n : Nat)) :: st) h k z
  | .ldc _ => bif Nat.ble 4294967296 a then x_go (pc + 2) l (.ref (x_str + (a - 4294967296)) :: st) h k z else x_go (pc + 2) l (.int (Int32.ofNat a) :: st) h k z
  | .ldc_w _ => x_go (pc + 3) l (.int (Int32.ofNat a) :: st) h k z
  | .ldc2_w _ => x_go (pc + 3) l (.long (Int64.ofNat a) :: st) h k z
  | .iload_n n => match x_ld l n with
    | some (.int x) => x_go (pc + 1) l (.int x :: st) h k z
    | _ => none
  | .iload n => match x_ld l n with
    | some (.int x) => x_go (pc + 2) l (.int x :: st) h k z
    | _ => none
  | .lload_n n => match x_ld l n with
    | some (.long x) => x_go (pc + 1) l (.long x :: st) h k z
    | _ => none
  | .lload n => match x_ld l n with
    | some (.long x) => x_go (pc + 2) l (.long x :: st) h k z
    | _ => none
  | .aload_n n => match x_ld l n with
    | some (.ref x) => x_go (pc + 1) l (.ref x :: st) h k z
    | _ => none
  | .aload n => match x_ld l n with
    | some (.ref x) => x_go (pc + 2) l (.ref x :: st) h k z
    | _ => none
  | .istore_n n => x_i1 st fun x r => x_go (pc + 1) (x_st1 l n (.int x)) r h k z
  | .istore n => x_i1 st fun x r => x_go (pc + 2) (x_st1 l n (.int x)) r h k z
  | .lstore_n n => x_l1 st fun x r => x_go (pc + 1) (x_st2 l n (.long x)) r h k z
  | .lstore n => x_l1 st fun x r => x_go (pc + 2) (x_st2 l n (.long x)) r h k z
  | .astore_n n => x_a1 st fun x r => x_go (pc + 1) (x_st1 l n (.ref x)) r h k z
  | .astore n => x_a1 st fun x r => x_go (pc + 2) (x_st1 l n (.ref x)) r h k z
  | .iinc i n => match x_ld l i with
    | some (.int x) => x_go (pc + 3) (x_st1 l i (.int (x + Int32.ofInt n))) st h k z
    | _ => none
  | .iadd => x_i2 st fun x y r => x_go (pc + 1) l (.int (x + y) :: r) h k z
  | .isub => x_i2 st fun x y r => x_go (pc + 1) l (.int (x - y) :: r) h k z
  | .imul => x_i2 st fun x y r => x_go (pc + 1) l (.int (x * y) :: r) h k z
  | .iand => x_i2 st fun x y r => x_go (pc + 1) l (.int (x &&& y) :: r) h k z
  | .ior => x_i2 st fun x y r => x_go (pc + 1) l (.int (x ||| y) :: r) h k z
  | .ixor => x_i2 st fun x y r => x_go (pc + 1) l (.int (x ^^^ y) :: r) h k z
  | .idiv => x_i2 st fun x y r => if y = 0 then none else x_go (pc + 1) l (.int (x / y) :: r) h k z
  | .irem => x_i2 st fun x y r => if y = 0 then none else x_go (pc + 1) l (.int (x - x / y * y) :: r) h k z
  | .ishl => x_i2 st fun x y r => x_go (pc + 1) l (.int (x <<< (y &&& 31)) :: r) h k z
  | .ishr => x_i2 st fun x y r => x_go (pc + 1) l (.int (x >>> (y &&& 31)) :: r) h k z
  | .iushr => x_i2 st fun x y r => x_go (pc + 1) l (.int (x.toUInt32 >>> (y.toUInt32 &&& Int32.toUInt32 31)).toInt32 :: r) h k z
  | .ladd => x_l2 st fun x y r => x_go (pc + 1) l (.long (x + y) :: r) h k z
  | .lmul => x_l2 st fun x y r => x_go (pc + 1) l (.long (x * y) :: r) h k z
  | .land => x_l2 st fun x y r => x_go (pc + 1) l (.long (x &&& y) :: r) h k z
  | .lor => x_l2 st fun x y r => x_go (pc + 1) l (.long (x ||| y) :: r) h k z
  | .ldiv => x_l2 st fun x y r => if y = 0 then none else x_go (pc + 1) l (.long (x / y) :: r) h k z
  | .lrem => x_l2 st fun x y r => if y = 0 then none else x_go (pc + 1) l (.long (x - x / y * y) :: r) h k z
  | .lshl => x_li st fun x y r => x_go (pc + 1) l (.long (x <<< (y.toInt64 &&& 63)) :: r) h k z
  | .lshr => x_li st fun x y r => x_go (pc + 1) l (.long (x >>> (y.toInt64 &&& 63)) :: r) h k z
  | .lcmp => x_l2 st fun x y r => x_go (pc + 1) l (.int (lg_cmp x y) :: r) h k z
  | .i2l => x_i1 st fun x r => x_go (pc + 1) l (.long x.toInt64 :: r) h k z
  | .l2i => x_l1 st fun x r => x_go (pc + 1) l (.int x.toInt32 :: r) h k z
  | .i2b => x_i1 st fun x r => x_go (pc + 1) l (.int x.toInt8.toInt32 :: r) h k z
  | .i2s => x_i1 st fun x r => x_go (pc + 1) l (.int x.toInt16.toInt32 :: r) h k z
  | .dup => x_v1 st fun v r => bif Nat.beq v.category 1 then x_go (pc + 1) l (v :: v :: r) h k z else none
  | .dup2 => x_v2 st fun v w r => bif Nat.beq v.category 1 && Nat.beq w.category 1 then x_go (pc + 1) l (v :: w :: v :: w :: r) h k z else none
  | .pop => x_v1 st fun v r => bif Nat.beq v.category 1 then x_go (pc + 1) l r h k z else none
  | .pop2 => x_v1 st fun v r => bif Nat.beq v.category 2 then x_go (pc + 1) l r h k z else none
  | .ifCond op off => x_i1 st fun x r => x_br pc off fun t => x_cond op x 0 (x_go t l r h k z) (x_go (pc + 3) l r h k z)
  | .if_icmp op off => x_i2 st fun x y r => x_br pc off fun t => x_cond op x y (x_go t l r h k z) (x_go (pc + 3) l r h k z)
  | .goto off => x_br pc off fun t => x_go t l st h k z
  | .tableswitch d lo hi offs => x_i1 st fun x r => if x.toInt < lo ∨ hi < x.toInt then x_br pc d fun t => x_go t l r h k z else match offs[(x.toInt - lo).toNat]? with
    | some off => x_br pc off fun t => x_go t l r h k z
    | none => none
  | .lookupswitch d ps => x_i1 st fun x r => if (ps.toList.zip (ps.toList.drop 1)).all (fun q => decide (q.1.1 < q.2.1)) = true then x_br pc (Op.lookupswitch.offset ps.toList d x.toInt) fun t => x_go t l r h k z else none
  | _ => none
/-- fields, arrays, new -/
def x_ins2 (S : Option xS) (ins : Instr) (pc a b : Nat) (l : xL) (st : List Value) (h : xH) (k z : Nat) : xO := match ins with
  | .getfield _ => x_a1 st fun q r => x_ob h q fun c fs => bif Nat.beq c a then (match fs[b]? with
    | some v => x_go (pc + 3) l (v :: r) h k z
    | none => none) else none
  | .putfield _ => x_av st fun q v r => x_ob h q fun c fs => bif Nat.beq c a && (x_fit (x_fty a b) v && Nat.blt b fs.length) then x_go (pc + 3) l r (h.set q (.inr (c, fs.set b v))) k z else none
  | .iaload => x_ai st fun q i r => bif Nat.beq q x_scr then (match S with
    | some (n, f) => x_in i n (x_go (pc + 1) l (.int (f i.toNatClampNeg) :: r) h k z)
    | none => none) else x_ari 0 h q fun n f => x_in i n (x_go (pc + 1) l (.int (f i.toNatClampNeg) :: r) h k z)
  | .iastore => x_aii st fun q i x r => x_ari 0 h q fun n f => x_in i n (x_go (pc + 1) l r (h.set q (.inl (0, n, .inl (upd f i.toNatClampNeg x)))) k z)
  | .baload => x_ai st fun q i r => match h[q]? with
    | some (.inl (2, n, .inl f)) => x_in i n (x_go (pc + 1) l (.int (f i.toNatClampNeg) :: r) h k z)
    | some (.inl (3, n, .inl f)) => x_in i n (x_go (pc + 1) l (.int (f i.toNatClampNeg) :: r) h k z)
    | _ => none
  | .bastore => x_aii st fun q i x r => match h[q]? with
    | some (.inl (2, n, .inl f)) => x_in i n (x_go (pc + 1) l r (h.set q (.inl (2, n, .inl (upd f i.toNatClampNeg (vp_nar .byte x))))) k z)
    | some (.inl (3, n, .inl f)) => x_in i n (x_go (pc + 1) l r (h.set q (.inl (3, n, .inl (upd f i.toNatClampNeg (vp_nar .boolean x))))) k z)
    | _ => none
  | .laload => x_ai st fun q i r => x_arl h q fun n f => x_in i n (x_go (pc + 1) l (.long (f i.toNatClampNeg) :: r) h k z)
  | .lastore => x_ail st fun q i x r => x_arl h q fun n f => x_in i n (x_go (pc + 1) l r (h.set q (.inl (1, n, .inr (.inl (vp_updL f i.toNatClampNeg x))))) k z)
  | .aaload => x_ai st fun q i r => x_arq h q fun t n f => bif Nat.ble 4 t then x_in i n (x_go (pc + 1) l (va_rf (f i.toNatClampNeg) :: r) h k z) else none
  | .aastore => x_aiq st fun q i x r => x_arq h q fun t n f => x_ob h x fun c _ => bif Nat.beq t (4 + c) then x_in i n (x_go (pc + 1) l r (h.set q (.inl (t, n, .inr (.inr (.inr (.inr (va_up f i.toNatClampNeg (some x)))))))) k z) else none
  | .arraylength => x_a1 st fun q r => bif Nat.beq q x_scr then (match S with
    | some (n, _) => x_go (pc + 1) l (.int (Int32.ofNat n) :: r) h k z
    | none => none) else x_ar h q fun n => x_go (pc + 1) l (.int (Int32.ofNat n) :: r) h k z
  | .newarray t => x_i1 st fun n r => if n < 0 ∨ 60000000 < n.toNatClampNeg ∨ x_scr ≤ h.length then none else match t with
    | .int => x_go (pc + 2) l (.ref h.length :: r) (h ++ [.inl (0, n.toNatClampNeg, .inl (fun _ => 0))]) (k + 1) (z + n.toNatClampNeg)
    | .long => x_go (pc + 2) l (.ref h.length :: r) (h ++ [.inl (1, n.toNatClampNeg, .inr (.inl (fun _ => 0)))]) (k + 1) (z + n.toNatClampNeg)
    | .byte => x_go (pc + 2) l (.ref h.length :: r) (h ++ [.inl (2, n.toNatClampNeg, .inl (fun _ => 0))]) (k + 1) (z + n.toNatClampNeg)
    | .boolean => x_go (pc + 2) l (.ref h.length :: r) (h ++ [.inl (3, n.toNatClampNeg, .inl (fun _ => 0))]) (k + 1) (z + n.toNatClampNeg)
    | _ => none
  | .anewarray _ => x_i1 st fun n r => if n < 0 ∨ 60000000 < n.toNatClampNeg ∨ x_scr ≤ h.length then none else x_go (pc + 3) l (.ref h.length :: r) (h ++ [.inl (4 + a, n.toNatClampNeg, .inr (.inr (.inr (.inr (fun _ => none)))))]) (k + 1) (z + n.toNatClampNeg)
  | .new _ => if x_scr ≤ h.length then none else x_go (pc + 3) l (.ref h.length :: st) (h ++ [.inr (a, (List.range b).map (fun j => defaultValue (x_fty a j)))]) (k + 1) (z + b)
  | _ => none
/-- a call with its arguments, the receiver (if any) ahead of them -/
def x_cal (static : Bool) (a n : Nat) (st : List Value) : xO := bif static then (bif Nat.ble n st.length && Nat.ble (x_cat (st.drop n)) 8 then some (.inr (.inl (a, (st.take n).reverse, st.drop n))) else none) else match st.drop n with
  | .ref q :: r => bif Nat.ble (x_cat r) 8 then some (.inr (.inl (a, .ref q :: (st.take n).reverse, r))) else none
  | _ => none
/-- calls -/
def x_ins3 (ins : Instr) (pc a b : Nat) (l : xL) (st : List Value) (h : xH) (k z : Nat) : xO := match ins with
  | .invokespecial _ => bif Nat.beq a 9000 then x_a1 st fun _ r => (bif Nat.ble (x_cat r) 8 then x_go (pc + 3) l r h k z else none) else x_cal false a b st
  | .invokevirtual _ => bif Nat.beq a 9006 then x_a1 st fun q r => (bif Nat.ble (x_cat r) 8 && Nat.ble x_str q then (match x_sbyt[q - x_str]? with
      | some bs => x_go (pc + 3) l (.int (Int32.ofNat bs.length) :: r) h k z
      | none => none) else none)
    else bif Nat.beq a 9007 then x_ai st fun q i r => (bif Nat.ble (x_cat r) 8 && Nat.ble x_str q then (match x_sbyt[q - x_str]? with
      | some bs => x_in i bs.length (x_go (pc + 3) l (.int (bs.getD i.toNatClampNeg 0) :: r) h k z)
      | none => none) else none)
    else x_cal false a b st
  | .invokestatic _ => bif Nat.beq a 9001 then x_i2 st fun x y r => (bif Nat.ble (x_cat r) 8 then x_go (pc + 3) l (.int (if x < y then y else x) :: r) h k z else none)
    else bif Nat.beq a 9002 then x_i2 st fun x y r => (bif Nat.ble (x_cat r) 8 then x_go (pc + 3) l (.int (if y < x then y else x) :: r) h k z else none)
    else bif Nat.beq a 9003 then x_i1 st fun x r => (bif Nat.ble (x_cat r) 8 then x_go (pc + 3) l (.int (if 0 ≤ x then x else 0 - x) :: r) h k z else none)
    else bif Nat.beq a 9004 then x_cp st fun a0 sp a1 dp n r => (bif Nat.ble (x_cat r) 8 then x_ari 0 h a0 fun n0 f => x_ari 0 h a1 fun n1 g => if sp < 0 ∨ dp < 0 ∨ n < 0 ∨ n0 < sp.toNatClampNeg + n.toNatClampNeg ∨ n1 < dp.toNatClampNeg + n.toNatClampNeg then none else x_go (pc + 3) l r (h.set a1 (.inl (0, n1, .inl (va_cpy f g sp.toNatClampNeg dp.toNatClampNeg n.toNatClampNeg)))) k z else none)
    else bif Nat.beq a 9005 then x_cp st fun a0 sp a1 dp n r => (bif Nat.ble (x_cat r) 8 then x_arl h a0 fun n0 f => x_arl h a1 fun n1 g => if sp < 0 ∨ dp < 0 ∨ n < 0 ∨ n0 < sp.toNatClampNeg + n.toNatClampNeg ∨ n1 < dp.toNatClampNeg + n.toNatClampNeg then none else x_go (pc + 3) l r (h.set a1 (.inl (1, n1, .inr (.inl (va_cpy f g sp.toNatClampNeg dp.toNatClampNeg n.toNatClampNeg))))) k z else none)
    else x_cal true a b st
  | _ => none
/-- of which group an instruction is -/
def x_grp : Instr → Nat
  | .getfield _ | .putfield _ | .iaload | .iastore | .baload | .bastore | .laload | .lastore | .aaload | .aastore | .arraylength | .newarray _ | .anewarray _ | .new _ => 2
  | .invokespecial _ | .invokevirtual _ | .invokestatic _ => 3
  | .ireturn | .lreturn | .areturn | .return_ => 4
  | _ => 1
def x_step (M : xM) (S : Option xS) (c : xC) : xO := match x_row M.2.2.2.2.2.2.2 c.1 with
  | none => none
  | some r => match x_grp r.2.1 with
    | 1 => x_ins1 r.2.1 c.1 r.2.2.2.1 c.2.1 c.2.2.1 c.2.2.2.1 c.2.2.2.2.1 c.2.2.2.2.2
    | 2 => x_ins2 S r.2.1 c.1 r.2.2.2.1 r.2.2.2.2.1 c.2.1 c.2.2.1 c.2.2.2.1 c.2.2.2.2.1 c.2.2.2.2.2
    | 3 => x_ins3 r.2.1 c.1 r.2.2.2.1 r.2.2.2.2.1 c.2.1 c.2.2.1 c.2.2.2.1 c.2.2.2.2.1 c.2.2.2.2.2
    | _ => match x_ret M.2.2.2.2.1 r.2.1 c.2.2.1 with
      | some v => some (.inr (.inr v))
      | none => none
/-- the receiver is an object of the method's own class -/
def x_rcv (M : xM) (vs : List Value) (h : xH) : Bool := M.2.2.2.2.2.1 || (match vs with
  | .ref q :: _ => (match h[q]? with
    | some (.inr (c, _)) => Nat.beq c M.2.2.2.2.2.2.1
    | _ => false)
  | _ => false)
/-- n steps at most, calls at most d deep below this one -/
def x_run (mt : List xM) (S : Option xS) : Nat → Nat → xM → xC → Option (Option Value × xH × Nat × Nat)
  | 0, _, _, _ => none
  | n + 1, d, M, c => match x_step M S c with
    | none => none
    | some (.inl c') => x_run mt S n d M c'
    | some (.inr (.inr v)) => some (v, c.2.2.2.1, c.2.2.2.2.1, c.2.2.2.2.2)
    | some (.inr (.inl q)) => match d, mt[q.1]? with
      | d' + 1, some M' => bif Nat.ble (x_cat q.2.1) M'.2.2.2.1 && x_rcv M' q.2.1 c.2.2.2.1 then (match x_run mt none n d' M' (0, lv_args 0 q.2.1, [], c.2.2.2.1, 0, 0) with
        | some r => x_run mt S n (d' + 1) M (c.1 + 3, c.2.1, r.1.toList ++ q.2.2, r.2.1, c.2.2.2.2.1 + r.2.2.1, c.2.2.2.2.2 + r.2.2.2)
        | none => none) else none
      | _, _ => none
/-! ===== the small heap beside the machine's ===== -/
abbrev x_own (M : xM) : String := M.1
abbrev x_nm (M : xM) : MethodName := M.2.1
abbrev x_cc (M : xM) : ByteArray := M.2.2.1
abbrev x_ml (M : xM) : Nat := M.2.2.2.1
abbrev x_rt (M : xM) : Option FieldType := M.2.2.2.2.1
abbrev x_sta (M : xM) : Bool := M.2.2.2.2.2.1
abbrev x_rws (M : xM) : List (Nat × List xR) := M.2.2.2.2.2.2.2
def x_bw : List Cond := lw_tbl.filter goodWord
theorem x_bw_in {w : Cond} (h : w ∈ lw_tbl) (g : goodWord w = true) : w ∈ x_bw := List.mem_filter.mpr ⟨h, g⟩
theorem x_bw_tbl {w : Cond} (h : w ∈ x_bw) : w ∈ lw_tbl := (List.mem_filter.mp h).1
theorem x_bw_good : ∀ w ∈ x_bw, goodWord w = true := fun _ h => (List.mem_filter.mp h).2
def x_cv (ad : Nat → Nat) : Value → Value
  | .ref k => .ref (ad k)
  | v => v
theorem x_cv_cat (ad : Nat → Nat) (v : Value) : (x_cv ad v).category = v.category := by cases v <;> rfl
theorem x_cv_rf (ad : Nat → Nat) (r : Option Nat) : x_cv ad (va_rf r) = va_rf (r.map ad) := by cases r <;> rfl
def x_ce (ad : Nat → Nat) (cA : ClassId) : xE → va_E
  | .inl (_, n, .inr (.inr (.inr (.inr f)))) => .inl (cA, n, .inr (.inr (.inr (.inr (fun j => (f j).map ad)))))
  | .inl (_, x) => .inl (cA, x)
  | .inr (ci, fs) => .inr (ci, fs.map (x_cv ad))
def x_cw (ad : Nat → Nat) (cs : Nat → ClassId) (h : xH) : va_W := h.mapIdx (fun k e => (ad k, x_ce ad (cs k) e))
theorem x_cw_get {ad : Nat → Nat} {cs : Nat → ClassId} {h : xH} {k : Nat} {e : xE} (hk : h[k]? = some e) : (x_cw ad cs h)[k]? = some (ad k, x_ce ad (cs k) e) := by
  unfold x_cw
  rw [List.getElem?_mapIdx, hk]
  rfl
theorem x_cw_of {ad : Nat → Nat} {cs : Nat → ClassId} {h : xH} {k : Nat} {q : Nat × va_E} (hk : (x_cw ad cs h)[k]? = some q) : ∃ e, h[k]? = some e ∧ q = (ad k, x_ce ad (cs k) e) := by
  unfold x_cw at hk
  rw [List.getElem?_mapIdx] at hk
  cases e : h[k]? with
  | none => rw [e] at hk; cases hk
  | some y => rw [e] at hk; exact ⟨y, rfl, (Option.some.inj hk).symm⟩
/-- the type of an array's entries by its tag -/
def x_ft : Nat → FieldType
  | 0 => .int
  | 1 => .long
  | 2 => .byte
  | 3 => .boolean
  | t + 4 => .object (match x_cls t with
    | some q => q.1
    | none => "")
def x_tg : xE → Option Nat
  | .inl (t, _) => some t
  | .inr _ => none
def x_W (ad : Nat → Nat) (base : Nat) (D : va_G) (h : xH) (U : State) (H : Heap) : Prop := (∀ k, k < x_scr → ad k = base + k) ∧ h.length ≤ x_scr ∧ H.size = base + h.length ∧ ∃ cs : Nat → ClassId, va_P D vwCl (x_cw ad cs h) H ∧ (∀ (k : Nat) (e : xE) (t : Nat), h[k]? = some e → x_tg e = some t → ArrOfT U (cs k) (x_ft t) ∧ va_RA U (cs k) (x_ft t)) ∧ ∀ C ∈ x_ao, va_AO C U
theorem x_W.moved {ad : Nat → Nat} {base : Nat} {D : va_G} {h : xH} {u U : State} {H : Heap} (hvm : u.vm.Alike U.vm) (w : x_W ad base D h u H) : x_W ad base D h U H := by
  obtain ⟨h1, h2, h3, cs, h4, h5, h6⟩ := w
  exact ⟨h1, h2, h3, cs, h4, fun k e t a b => ⟨arrOfT_moved hvm (h5 k e t a b).1, (h5 k e t a b).2.moved hvm⟩, fun C hC => va_AO.moved hvm (h6 C hC)⟩
theorem x_W.at {ad : Nat → Nat} {base : Nat} {D : va_G} {h : xH} {U : State} {H : Heap} (w : x_W ad base D h U H) {k : Nat} {e : xE} (hk : h[k]? = some e) : k < x_scr ∧ ad k = base + k ∧ k < h.length := by
  have hl := (List.getElem?_eq_some_iff.mp hk).1
  have := w.2.1
  exact ⟨by omega, w.1 k (by omega), hl⟩
theorem x_W.D {ad : Nat → Nat} {base : Nat} {D : va_G} {h : xH} {U : State} {H : Heap} (w : x_W ad base D h U H) (cs : Nat → ClassId) : va_D (fun q => base ≤ q) (x_cw ad cs h) := by
  refine ⟨fun i j p q hi hj e => ?_, fun k q hk => ?_⟩
  · obtain ⟨a, a1, rfl⟩ := x_cw_of hi
    obtain ⟨b, b1, rfl⟩ := x_cw_of hj
    have h1 := (w.at a1).2.1
    have h2 := (w.at b1).2.1
    have : ad i = ad j := e
    omega
  · obtain ⟨a, a1, rfl⟩ := x_cw_of hk
    have h1 := (w.at a1).2.1
    show base ≤ ad k
    omega
theorem x_W.set {ad : Nat → Nat} {base : Nat} {D : va_G} {h : xH} {U : State} {H H1 : Heap} {k : Nat} {e0 e : xE} (w : x_W ad base D h U H) (hk : h[k]? = some e0) (ht : x_tg e = x_tg e0)
    (hz : H1.size = H.size) (ho : ∀ q, q ≠ ad k → H1[q]? = H[q]?) (he : ∀ cA : ClassId, va_at D vwCl (ad k, x_ce ad cA e0) H → va_at D vwCl (ad k, x_ce ad cA e) H1) : x_W ad base D (h.set k e) U H1 := by
  obtain ⟨h1, h2, h3, cs, h4, h5, h6⟩ := id w
  have hl := (w.at hk).2.2
  refine ⟨h1, by rw [List.length_set]; exact h2, by rw [hz, List.length_set]; exact h3, cs, fun j q hj => ?_, fun j y t hj hy => ?_, h6⟩
  · obtain ⟨y, y1, rfl⟩ := x_cw_of hj
    by_cases hjk : j = k
    · subst hjk
      rw [List.getElem?_set_self hl] at y1
      cases y1
      exact he _ (h4 j _ (x_cw_get hk))
    · rw [List.getElem?_set_ne (Ne.symm hjk)] at y1
      refine (h4 j _ (x_cw_get y1)).kept (ho _ ?_)
      show ad j ≠ ad k
      have a1 := (w.at y1).2.1
      have a2 := (w.at hk).2.1
      omega
  · by_cases hjk : j = k
    · subst hjk
      rw [List.getElem?_set_self hl] at hj
      cases hj
      exact h5 j e0 t hk (ht ▸ hy)
    · rw [List.getElem?_set_ne (Ne.symm hjk)] at hj
      exact h5 j y t hj hy
theorem x_W.push {ad : Nat → Nat} {base : Nat} {D : va_G} {h : xH} {U : State} {H H1 : Heap} {e : xE} {cA : ClassId} (w : x_W ad base D h U H) (hl : ¬ x_scr ≤ h.length)
    (hz : H1.size = H.size + 1) (ho : ∀ q, q < H.size → H1[q]? = H[q]?) (he : va_at D vwCl (H.size, x_ce ad cA e) H1) (ht : ∀ t, x_tg e = some t → ArrOfT U cA (x_ft t) ∧ va_RA U cA (x_ft t)) : x_W ad base D (h ++ [e]) U H1 ∧ ad h.length = H.size := by
  obtain ⟨h1, h2, h3, cs, h4, h5, h6⟩ := id w
  have hadd : ad h.length = H.size := by rw [h1 _ (by omega), h3]
  have old : ∀ (j : Nat) (y : xE), (h ++ [e])[j]? = some y → (j < h.length ∧ h[j]? = some y) ∨ (j = h.length ∧ y = e) := by
    intro j y hj
    by_cases hjl : j < h.length
    · rw [List.getElem?_append_left hjl] at hj
      exact Or.inl ⟨hjl, hj⟩
    · rw [List.getElem?_append_right (by omega)] at hj
      have hz : j - h.length < 1 := (List.getElem?_eq_some_iff.mp hj).1
      have hj0 : j = h.length := by omega
      subst hj0
      rw [Nat.sub_self] at hj
      cases hj
      exact Or.inr ⟨rfl, rfl⟩
  refine ⟨⟨h1, by rw [List.length_append]; show h.length + 1 ≤ _; omega, by rw [hz, List.length_append, h3]; rfl, fun j => if j = h.length then cA else cs j, fun j q hj => ?_, fun j y t hj hy => ?_, h6⟩, hadd⟩
  · obtain ⟨y, y1, rfl⟩ := x_cw_of hj
    rcases old j y y1 with ⟨a, b⟩ | ⟨a, b⟩
    · rw [if_neg (Nat.ne_of_lt a)]
      have := h4 j _ (x_cw_get b)
      exact this.kept (ho _ this.lt)
    · subst a; subst b
      rw [if_pos rfl, hadd]
      exact he
  · rcases old j y hj with ⟨a, b⟩ | ⟨a, b⟩
    · dsimp only
      rw [if_neg (Nat.ne_of_lt a)]
      exact h5 j y t b hy
    · subst a; subst b
      dsimp only
      rw [if_pos rfl]
      exact ht t hy
/-! locals -/
def x_cl (ad : Nat → Nat) (l : xL) : xL := l.map (fun q => (q.1, x_cv ad q.2))
theorem x_ld_mem {l : xL} {i : Nat} {v : Value} (h : x_ld l i = some v) : (i, v) ∈ l := by
  induction l with
  | nil => cases h
  | cons q r ih =>
    unfold x_ld at h
    cases hb : Nat.beq q.1 i with
    | true =>
      rw [hb] at h
      have h1 : q.1 = i := Nat.eq_of_beq_eq_true hb
      have h2 : q.2 = v := Option.some.inj h
      have : q = (i, v) := by rw [← h1, ← h2]
      rw [this]
      exact List.mem_cons_self
    | false =>
      rw [hb] at h
      exact List.mem_cons_of_mem _ (ih h)
theorem x_lv {ad : Nat → Nat} {ls : Array Slot} {n i : Nat} {l : xL} {v : Value} (hl : lv_has ls n (x_cl ad l)) (h : x_ld l i = some v) : ls[i]? = some (.val (x_cv ad v)) :=
  hl.2.2 (i, x_cv ad v) (List.mem_map.mpr ⟨(i, v), x_ld_mem h, rfl⟩)
theorem x_cl_st1 (ad : Nat → Nat) (l : xL) (i : Nat) (v : Value) : (i, x_cv ad v) :: (x_cl ad l).filter (fun q => !(q.1 == i) && !(q.1 + 1 == i && q.2.category == 2)) = x_cl ad (x_st1 l i v) := by
  unfold x_st1 x_cl
  rw [List.map_cons, List.filter_map]
  congr 3
  funext q
  simp [Function.comp, x_cv_cat]
theorem x_cl_st2 (ad : Nat → Nat) (l : xL) (i : Nat) (v : Value) : (i, x_cv ad v) :: (x_cl ad l).filter (fun q => !(q.1 == i) && (!(q.1 == i + 1) && !(q.1 + 1 == i && q.2.category == 2))) = x_cl ad (x_st2 l i v) := by
  unfold x_st2 x_cl
  rw [List.map_cons, List.filter_map]
  congr 3
  funext q
  simp [Function.comp, x_cv_cat]
theorem x_cl_args (ad : Nat → Nat) : ∀ (vs : List Value) (i : Nat), lv_args i (vs.map (x_cv ad)) = x_cl ad (lv_args i vs) := by
  intro vs
  induction vs with
  | nil => intro i; rfl
  | cons v vs ih =>
    intro i
    show (i, x_cv ad v) :: lv_args (if (x_cv ad v).category = 2 then i + 2 else i + 1) (vs.map (x_cv ad)) = x_cl ad ((i, v) :: lv_args (if v.category = 2 then i + 2 else i + 1) vs)
    rw [x_cv_cat, ih]
    rfl
theorem x_cat_map (ad : Nat → Nat) (vs : List Value) : ((vs.map (x_cv ad)).map fun v => v.category).sum = x_cat vs := by
  induction vs with
  | nil => rfl
  | cons v vs ih => simp only [List.map_cons, List.sum_cons, x_cat, x_cv_cat, ih]
theorem x_lg_len (vs : List Value) : (lg_sl vs).length = x_cat vs := by
  induction vs with
  | nil => rfl
  | cons v vs ih =>
    have e : lg_sl (v :: vs) = (if v.category = 2 then [Slot.val v, Slot.second] else [Slot.val v]) ++ lg_sl vs := by simp [lg_sl]
    rw [e, List.length_append, ih]
    show _ = v.category + x_cat vs
    rcases lv_cat v with h | h
    · rw [h, if_neg (by decide)]; rfl
    · rw [h, if_pos rfl]; rfl
/-! what the helpers say of the stack -/
theorem x_i1_of {st : List Value} {f : Int32 → List Value → xO} {X} (h : x_i1 st f = some X) : ∃ x r, st = .int x :: r ∧ f x r = some X := by
  unfold x_i1 at h
  split at h
  · exact ⟨_, _, rfl, h⟩
  · cases h
theorem x_i2_of {st : List Value} {f : Int32 → Int32 → List Value → xO} {X} (h : x_i2 st f = some X) : ∃ x y r, st = .int y :: .int x :: r ∧ f x y r = some X := by
  unfold x_i2 at h
  split at h
  · exact ⟨_, _, _, rfl, h⟩
  · cases h
theorem x_l1_of {st : List Value} {f : Int64 → List Value → xO} {X} (h : x_l1 st f = some X) : ∃ x r, st = .long x :: r ∧ f x r = some X := by
  unfold x_l1 at h
  split at h
  · exact ⟨_, _, rfl, h⟩
  · cases h
theorem x_l2_of {st : List Value} {f : Int64 → Int64 → List Value → xO} {X} (h : x_l2 st f = some X) : ∃ x y r, st = .long y :: .long x :: r ∧ f x y r = some X := by
  unfold x_l2 at h
  split at h
  · exact ⟨_, _, _, rfl, h⟩
  · cases h
theorem x_li_of {st : List Value} {f : Int64 → Int32 → List Value → xO} {X} (h : x_li st f = some X) : ∃ x y r, st = .int y :: .long x :: r ∧ f x y r = some X := by
  unfold x_li at h
  split at h
  · exact ⟨_, _, _, rfl, h⟩
  · cases h
theorem x_a1_of {st : List Value} {f : Nat → List Value → xO} {X} (h : x_a1 st f = some X) : ∃ x r, st = .ref x :: r ∧ f x r = some X := by
  unfold x_a1 at h
  split at h
  · exact ⟨_, _, rfl, h⟩
  · cases h
theorem x_ai_of {st : List Value} {f : Nat → Int32 → List Value → xO} {X} (h : x_ai st f = some X) : ∃ a i r, st = .int i :: .ref a :: r ∧ f a i r = some X := by
  unfold x_ai at h
  split at h
  · exact ⟨_, _, _, rfl, h⟩
  · cases h
theorem x_aii_of {st : List Value} {f : Nat → Int32 → Int32 → List Value → xO} {X} (h : x_aii st f = some X) : ∃ a i x r, st = .int x :: .int i :: .ref a :: r ∧ f a i x r = some X := by
  unfold x_aii at h
  split at h
  · exact ⟨_, _, _, _, rfl, h⟩
  · cases h
theorem x_ail_of {st : List Value} {f : Nat → Int32 → Int64 → List Value → xO} {X} (h : x_ail st f = some X) : ∃ a i x r, st = .long x :: .int i :: .ref a :: r ∧ f a i x r = some X := by
  unfold x_ail at h
  split at h
  · exact ⟨_, _, _, _, rfl, h⟩
  · cases h
theorem x_aiq_of {st : List Value} {f : Nat → Int32 → Nat → List Value → xO} {X} (h : x_aiq st f = some X) : ∃ a i x r, st = .ref x :: .int i :: .ref a :: r ∧ f a i x r = some X := by
  unfold x_aiq at h
  split at h
  · exact ⟨_, _, _, _, rfl, h⟩
  · cases h
theorem x_av_of {st : List Value} {f : Nat → Value → List Value → xO} {X} (h : x_av st f = some X) : ∃ a v r, st = v :: .ref a :: r ∧ f a v r = some X := by
  unfold x_av at h
  split at h
  · exact ⟨_, _, _, rfl, h⟩
  · cases h
theorem x_v1_of {st : List Value} {f : Value → List Value → xO} {X} (h : x_v1 st f = some X) : ∃ v r, st = v :: r ∧ f v r = some X := by
  unfold x_v1 at h
  split at h
  · exact ⟨_, _, rfl, h⟩
  · cases h
theorem x_v2_of {st : List Value} {f : Value → Value → List Value → xO} {X} (h : x_v2 st f = some X) : ∃ v w r, st = v :: w :: r ∧ f v w r = some X := by
  unfold x_v2 at h
  split at h
  · exact ⟨_, _, _, rfl, h⟩
  · cases h
theorem x_cp_of {st : List Value} {f : Nat → Int32 → Nat → Int32 → Int32 → List Value → xO} {X} (h : x_cp st f = some X) : ∃ a0 sp a dp n r, st = .int n :: .int dp :: .ref a :: .int sp :: .ref a0 :: r ∧ f a0 sp a dp n r = some X := by
  unfold x_cp at h
  split at h
  · exact ⟨_, _, _, _, _, _, rfl, h⟩
  · cases h
theorem x_br_of {pc : Nat} {off : Int} {f : Nat → xO} {X} (h : x_br pc off f = some X) : ∃ t : Nat, (pc : Int) + off = (t : Int) ∧ f t = some X := by
  unfold x_br at h
  split at h
  · rename_i t e
    exact ⟨t, e, h⟩
  · cases h
theorem x_ob_of {h : xH} {a : Nat} {f : Nat → List Value → xO} {X} (e : x_ob h a f = some X) : ∃ c fs, h[a]? = some (.inr (c, fs)) ∧ f c fs = some X := by
  unfold x_ob at e
  split at e
  · rename_i c fs q
    exact ⟨c, fs, q, e⟩
  · cases e
theorem x_ari_of {t : Nat} {h : xH} {a : Nat} {f : Nat → (Nat → Int32) → xO} {X} (e : x_ari t h a f = some X) : ∃ n g, h[a]? = some (.inl (t, n, .inl g)) ∧ f n g = some X := by
  unfold x_ari at e
  split at e
  · rename_i t' n g q
    cases hb : Nat.beq t' t with
    | true =>
      rw [hb] at e
      have := Nat.eq_of_beq_eq_true hb
      subst this
      exact ⟨n, g, q, e⟩
    | false => rw [hb] at e; cases e
  · cases e
theorem x_arl_of {h : xH} {a : Nat} {f : Nat → (Nat → Int64) → xO} {X} (e : x_arl h a f = some X) : ∃ n g, h[a]? = some (.inl (1, n, .inr (.inl g))) ∧ f n g = some X := by
  unfold x_arl at e
  split at e
  · rename_i t' n g q
    cases hb : Nat.beq t' 1 with
    | true =>
      rw [hb] at e
      have := Nat.eq_of_beq_eq_true hb
      subst this
      exact ⟨n, g, q, e⟩
    | false => rw [hb] at e; cases e
  · cases e
theorem x_arq_of {h : xH} {a : Nat} {f : Nat → Nat → (Nat → Option Nat) → xO} {X} (e : x_arq h a f = some X) : ∃ t n g, h[a]? = some (.inl (t, n, .inr (.inr (.inr (.inr g))))) ∧ f t n g = some X := by
  unfold x_arq at e
  split at e
  · rename_i t' n g q
    exact ⟨t', n, g, q, e⟩
  · cases e
theorem x_ar_of {h : xH} {a : Nat} {f : Nat → xO} {X} (e : x_ar h a f = some X) : ∃ t n y, h[a]? = some (.inl (t, n, y)) ∧ f n = some X := by
  unfold x_ar at e
  split at e
  · rename_i t' n g q
    exact ⟨t', n, g, q, e⟩
  · cases e
theorem x_in_of {i : Int32} {n : Nat} {o : xO} {X} (e : x_in i n o = some X) : vp_in i n ∧ o = some X := by
  unfold x_in at e
  split at e
  · cases e
  · rename_i q
    exact ⟨q, e⟩
theorem x_bif {b : Bool} {o : xO} {X} (e : (bif b then o else none) = some X) : b = true ∧ o = some X := by
  cases b with
  | true => exact ⟨rfl, e⟩
  | false => cases e
theorem x_row_mem : ∀ {rs : List (Nat × List xR)} {pc : Nat} {r : xR}, x_row rs pc = some r → (∃ q ∈ rs, r ∈ q.2) ∧ r.1 = pc := by
  have fnd : ∀ {rs : List xR} {pc : Nat} {r : xR}, x_find rs pc = some r → r ∈ rs ∧ r.1 = pc := by
    intro rs
    induction rs with
    | nil => intro pc r h; cases h
    | cons q rs ih =>
      intro pc r h
      unfold x_find at h
      cases hb : Nat.beq q.1 pc with
      | true =>
        rw [hb] at h
        have : q = r := Option.some.inj h
        subst this
        exact ⟨List.mem_cons_self, Nat.eq_of_beq_eq_true hb⟩
      | false =>
        rw [hb] at h
        exact ⟨List.mem_cons_of_mem _ (ih h).1, (ih h).2⟩
  intro rs
  induction rs with
  | nil => intro pc r h; cases h
  | cons q rs ih =>
    intro pc r h
    unfold x_row at h
    cases hb : Nat.ble pc q.1 with
    | true =>
      rw [hb] at h
      exact ⟨⟨q, List.mem_cons_self, (fnd h).1⟩, (fnd h).2⟩
    | false =>
      rw [hb] at h
      obtain ⟨⟨y, y1, y2⟩, y3⟩ := ih h
      exact ⟨⟨y, List.mem_cons_of_mem _ y1, y2⟩, y3⟩
/-! ===== soundness, instruction by instruction ===== -/
def x_lok (ins : Instr) (len : Nat) : Prop := match ins with
  | .tableswitch _ _ _ _ => True
  | .lookupswitch _ _ => True
  | .bipush _ => len = 2
  | .ldc _ => len = 2
  | .iload _ => len = 2
  | .lload _ => len = 2
  | .aload _ => len = 2
  | .istore _ => len = 2
  | .lstore _ => len = 2
  | .astore _ => len = 2
  | .newarray _ => len = 2
  | .sipush _ => len = 3
  | .ldc_w _ => len = 3
  | .ldc2_w _ => len = 3
  | .iinc _ _ => len = 3
  | .ifCond _ _ => len = 3
  | .if_icmp _ _ => len = 3
  | .goto _ => len = 3
  | .getfield _ => len = 3
  | .putfield _ => len = 3
  | .new _ => len = 3
  | .anewarray _ => len = 3
  | .invokespecial _ => len = 3
  | .invokevirtual _ => len = 3
  | .invokestatic _ => len = 3
  | _ => len = 1
def x_ok1 (own : String) (nL : Nat) (ins : Instr) (a : Nat) : Prop := match ins with
  | .ldc i => (4294967296 ≤ a ∧ ∃ tx, x_lit[a - 4294967296]? = some (own, i, tx)) ∨ (a < 4294967296 ∧ Cond.constant own i (Int32.ofNat a) ∈ x_bw)
  | .ldc_w i => Cond.constant own i (Int32.ofNat a) ∈ x_bw
  | .ldc2_w i => Cond.constantLong own i (Int64.ofNat a) ∈ x_bw
  | .istore_n n => (n : Nat) < nL
  | .istore n => n < nL
  | .astore_n n => (n : Nat) < nL
  | .astore n => n < nL
  | .lstore_n n => (n : Nat) + 1 < nL
  | .lstore n => n + 1 < nL
  | .iinc n _ => n < nL
  | _ => True
section XS
variable {p : Program} {l : Launch} {e : Env} {R : Room} {s : State} {m : MethodId} {args : Array Value} {below : List Frame} {meth : Method} {c : Code} {H : Heap} {locs : List Loc} {cells slots : Nat} {Q : State → Prop}
variable {cc : ByteArray} {pc : Nat} {ls : Array Slot} {own : String} {ad : Nat → Nat} {nL : Nat} {L : xL} {st : List Value} {h : xH} {k z : Nat} {ins : Instr} {len a b : Nat}
/-- what one plain step leaves to be shown -/
def x_Nx (p : Program) (l : Launch) (e : Env) (R : Room) (s : State) (m : MethodId) (args : Array Value) (below : List Frame) (meth : Method) (c : Code) (H : Heap) (locs : List Loc) (cells slots : Nat) (Q : State → Prop) (ls : Array Slot) (ad : Nat → Nat) (nL : Nat) (h : xH) (k z : Nat) (st : List Value) (pc : Nat) (o : xC ⊕ ((Nat × List Value × List Value) ⊕ Option Value)) : Prop :=
  ∃ (pc' : Nat) (L' : xL) (st' : List Value), o = .inl (pc', L', st', h, k, z) ∧ ((∀ ls' : Array Slot, lv_has ls' nL (x_cl ad L') → W p l e R s m args below meth c H locs cells slots Q (F0 m pc' ls' (st'.map (x_cv ad)))) → W p l e R s m args below meth c H locs cells slots Q (F0 m pc ls (st.map (x_cv ad))))
theorem x_go_of {pc' : Nat} {L' : xL} {st' : List Value} {o} (hi : x_go pc' L' st' h k z = some o) : o = .inl (pc', L', st', h, k, z) := (Option.some.inj hi).symm
set_option maxHeartbeats 4000000 in
theorem x_s1 (hx : p.tables.exec = Jvm.exec) (hb : c.code = cc) (hown : s.vm.findClass own = some m.cls) (hts : ∀ w ∈ x_bw, w.before args s = true) (hd : decode cc pc = .ok (ins, len)) (hlen : x_lok ins len) (hw : x_ok1 own nL ins a) (hV : ∀ (j : Nat) (own' : String) (k' : Nat) (tx : String), x_lit[j]? = some (own', k', tx) → vk_R own' k' tx (ad (x_str + j)) s) {o} (hi : x_ins1 ins pc a L st h k z = some o) (hl : lv_has ls nL (x_cl ad L)) : x_Nx p l e R s m args below meth c H locs cells slots Q ls ad nL h k z st pc o := by
  unfold x_ins1 at hi
  split at hi
  -- constants
  · cases hlen; exact ⟨_, _, _, x_go_of hi, fun k => lv_iconst hx hb hd rfl (k ls hl)⟩
  · cases hlen; exact ⟨_, _, _, x_go_of hi, fun k => lv_bipush hx hb hd rfl (k ls hl)⟩
  · cases hlen; exact ⟨_, _, _, x_go_of hi, fun k => lv_sipush hx hb hd rfl (k ls hl)⟩
  · cases hlen; exact ⟨_, _, _, x_go_of hi, fun k => lv_lconst hx hb hd rfl (k ls hl)⟩
  · cases hlen
    rcases hw with ⟨h1, tx, h2⟩ | ⟨h1, h2⟩
    · rw [show Nat.ble 4294967296 a = true from Nat.ble_eq_true_of_le h1] at hi
      exact ⟨_, _, _, x_go_of hi, fun k => va_ldcS hx hb hown (hV _ _ _ _ h2) hd (k ls hl)⟩
    · have hb0 : Nat.ble 4294967296 a = false := by
        cases hq : Nat.ble 4294967296 a with
        | false => rfl
        | true => exact absurd (Nat.le_of_ble_eq_true hq) (by omega)
      rw [hb0] at hi
      exact ⟨_, _, _, x_go_of hi, fun k => lv_ldc hx hb hown (hts _ h2) hd (k ls hl)⟩
  · cases hlen; exact ⟨_, _, _, x_go_of hi, fun k => lv_ldcw hx hb hown (hts _ hw) hd (k ls hl)⟩
  · cases hlen; exact ⟨_, _, _, x_go_of hi, fun k => lv_ldc2 hx hb hown (hts _ hw) hd (k ls hl)⟩
  -- loads
  · cases hlen; split at hi
    · rename_i q; exact ⟨_, _, _, x_go_of hi, fun k => lv_iload_n hx hb hd rfl (x_lv hl q) (k ls hl)⟩
    · cases hi
  · cases hlen; split at hi
    · rename_i q; exact ⟨_, _, _, x_go_of hi, fun k => lv_iload hx hb hd (x_lv hl q) (k ls hl)⟩
    · cases hi
  · cases hlen; split at hi
    · rename_i q; exact ⟨_, _, _, x_go_of hi, fun k => lv_lload_n hx hb hd rfl (x_lv hl q) (k ls hl)⟩
    · cases hi
  · cases hlen; split at hi
    · rename_i q; exact ⟨_, _, _, x_go_of hi, fun k => lv_lload hx hb hd (x_lv hl q) (k ls hl)⟩
    · cases hi
  · cases hlen; split at hi
    · rename_i q; exact ⟨_, _, _, x_go_of hi, fun k => lv_aload_n hx hb hd rfl (x_lv hl q) (k ls hl)⟩
    · cases hi
  · cases hlen; split at hi
    · rename_i q; exact ⟨_, _, _, x_go_of hi, fun k => lv_aload hx hb hd (x_lv hl q) (k ls hl)⟩
    · cases hi
  -- stores
  · cases hlen; obtain ⟨x, r, rfl, hj⟩ := x_i1_of hi; exact ⟨_, _, _, x_go_of hj, fun k => lv_istore_n hx hb hd rfl hl hw (x_cl_st1 ad L _ (.int x)) k⟩
  · cases hlen; obtain ⟨x, r, rfl, hj⟩ := x_i1_of hi; exact ⟨_, _, _, x_go_of hj, fun k => lv_istore hx hb hd hl hw (x_cl_st1 ad L _ (.int x)) k⟩
  · cases hlen; obtain ⟨x, r, rfl, hj⟩ := x_l1_of hi; exact ⟨_, _, _, x_go_of hj, fun k => lv_lstore_n hx hb hd rfl hl hw (x_cl_st2 ad L _ (.long x)) k⟩
  · cases hlen; obtain ⟨x, r, rfl, hj⟩ := x_l1_of hi; exact ⟨_, _, _, x_go_of hj, fun k => lv_lstore hx hb hd hl hw (x_cl_st2 ad L _ (.long x)) k⟩
  · cases hlen; obtain ⟨x, r, rfl, hj⟩ := x_a1_of hi; exact ⟨_, _, _, x_go_of hj, fun k => lv_astore_n hx hb hd rfl hl hw (x_cl_st1 ad L _ (.ref x)) k⟩
  · cases hlen; obtain ⟨x, r, rfl, hj⟩ := x_a1_of hi; exact ⟨_, _, _, x_go_of hj, fun k => lv_astore hx hb hd hl hw (x_cl_st1 ad L _ (.ref x)) k⟩
  · cases hlen; split at hi
    · rename_i i n _ x q
      obtain ⟨kk, hkk⟩ := List.getElem?_of_mem (x_ld_mem q)
      refine ⟨_, _, _, x_go_of hi, fun k => lv_iinc (k := kk) (x := x) (v := x + Int32.ofInt n) hx hb hd hl ?_ rfl hw (x_cl_st1 ad L _ (.int (x + Int32.ofInt n))) k⟩
      unfold x_cl
      rw [List.getElem?_map, hkk]
      rfl
    · cases hi
  -- arithmetic
  · cases hlen; obtain ⟨x, y, r, rfl, hj⟩ := x_i2_of hi; exact ⟨_, _, _, x_go_of hj, fun k => lv_iadd hx hb hd (k ls hl)⟩
  · cases hlen; obtain ⟨x, y, r, rfl, hj⟩ := x_i2_of hi; exact ⟨_, _, _, x_go_of hj, fun k => lv_isub hx hb hd (k ls hl)⟩
  · cases hlen; obtain ⟨x, y, r, rfl, hj⟩ := x_i2_of hi; exact ⟨_, _, _, x_go_of hj, fun k => lv_imul hx hb hd (k ls hl)⟩
  · cases hlen; obtain ⟨x, y, r, rfl, hj⟩ := x_i2_of hi; exact ⟨_, _, _, x_go_of hj, fun k => lv_iand hx hb hd (k ls hl)⟩
  · cases hlen; obtain ⟨x, y, r, rfl, hj⟩ := x_i2_of hi; exact ⟨_, _, _, x_go_of hj, fun k => lv_ior hx hb hd (k ls hl)⟩
  · cases hlen; obtain ⟨x, y, r, rfl, hj⟩ := x_i2_of hi; exact ⟨_, _, _, x_go_of hj, fun k => lv_ixor hx hb hd (k ls hl)⟩
  · cases hlen; obtain ⟨x, y, r, rfl, hj⟩ := x_i2_of hi; split at hj
    · cases hj
    · rename_i q; exact ⟨_, _, _, x_go_of hj, fun k => lv_idiv hx hb hd q (k ls hl)⟩
  · cases hlen; obtain ⟨x, y, r, rfl, hj⟩ := x_i2_of hi; split at hj
    · cases hj
    · rename_i q; exact ⟨_, _, _, x_go_of hj, fun k => lv_irem hx hb hd q (k ls hl)⟩
  · cases hlen; obtain ⟨x, y, r, rfl, hj⟩ := x_i2_of hi; exact ⟨_, _, _, x_go_of hj, fun k => lv_ishl hx hb hd (k ls hl)⟩
  · cases hlen; obtain ⟨x, y, r, rfl, hj⟩ := x_i2_of hi; exact ⟨_, _, _, x_go_of hj, fun k => lv_ishr hx hb hd (k ls hl)⟩
  · cases hlen; obtain ⟨x, y, r, rfl, hj⟩ := x_i2_of hi; exact ⟨_, _, _, x_go_of hj, fun k => lv_iushr hx hb hd rfl (k ls hl)⟩
  · cases hlen; obtain ⟨x, y, r, rfl, hj⟩ := x_l2_of hi; exact ⟨_, _, _, x_go_of hj, fun k => lv_ladd hx hb hd (k ls hl)⟩
  · cases hlen; obtain ⟨x, y, r, rfl, hj⟩ := x_l2_of hi; exact ⟨_, _, _, x_go_of hj, fun k => lv_lmul hx hb hd (k ls hl)⟩
  · cases hlen; obtain ⟨x, y, r, rfl, hj⟩ := x_l2_of hi; exact ⟨_, _, _, x_go_of hj, fun k => lv_land hx hb hd (k ls hl)⟩
  · cases hlen; obtain ⟨x, y, r, rfl, hj⟩ := x_l2_of hi; exact ⟨_, _, _, x_go_of hj, fun k => lv_lor hx hb hd (k ls hl)⟩
  · cases hlen; obtain ⟨x, y, r, rfl, hj⟩ := x_l2_of hi; split at hj
    · cases hj
    · rename_i q; exact ⟨_, _, _, x_go_of hj, fun k => lv_ldiv hx hb hd q (k ls hl)⟩
  · cases hlen; obtain ⟨x, y, r, rfl, hj⟩ := x_l2_of hi; split at hj
    · cases hj
    · rename_i q; exact ⟨_, _, _, x_go_of hj, fun k => lv_lrem hx hb hd q (k ls hl)⟩
  · cases hlen; obtain ⟨x, y, r, rfl, hj⟩ := x_li_of hi; exact ⟨_, _, _, x_go_of hj, fun k => lv_lshl hx hb hd rfl (k ls hl)⟩
  · cases hlen; obtain ⟨x, y, r, rfl, hj⟩ := x_li_of hi; exact ⟨_, _, _, x_go_of hj, fun k => lv_lshr hx hb hd rfl (k ls hl)⟩
  · cases hlen; obtain ⟨x, y, r, rfl, hj⟩ := x_l2_of hi; exact ⟨_, _, _, x_go_of hj, fun k => W.lcmp hx hb hd (k ls hl)⟩
  · cases hlen; obtain ⟨x, r, rfl, hj⟩ := x_i1_of hi; exact ⟨_, _, _, x_go_of hj, fun k => lv_i2l hx hb hd rfl (k ls hl)⟩
  · cases hlen; obtain ⟨x, r, rfl, hj⟩ := x_l1_of hi; exact ⟨_, _, _, x_go_of hj, fun k => lv_l2i hx hb hd rfl (k ls hl)⟩
  · cases hlen; obtain ⟨x, r, rfl, hj⟩ := x_i1_of hi; exact ⟨_, _, _, x_go_of hj, fun k => lv_i2b hx hb hd rfl (k ls hl)⟩
  · cases hlen; obtain ⟨x, r, rfl, hj⟩ := x_i1_of hi; exact ⟨_, _, _, x_go_of hj, fun k => lv_i2s hx hb hd rfl (k ls hl)⟩
  -- stack
  · cases hlen; obtain ⟨v, r, rfl, hj⟩ := x_v1_of hi
    obtain ⟨q, hj⟩ := x_bif hj
    exact ⟨_, _, _, x_go_of hj, fun k => lv_dup hx hb hd (by rw [x_cv_cat]; exact Nat.eq_of_beq_eq_true q) (k ls hl)⟩
  · cases hlen; obtain ⟨v, w, r, rfl, hj⟩ := x_v2_of hi
    obtain ⟨q, hj⟩ := x_bif hj
    have q := Bool.and_eq_true_iff.mp q
    exact ⟨_, _, _, x_go_of hj, fun k => lv_dup2_11 hx hb hd (by rw [x_cv_cat]; exact Nat.eq_of_beq_eq_true q.1) (by rw [x_cv_cat]; exact Nat.eq_of_beq_eq_true q.2) (k ls hl)⟩
  · cases hlen; obtain ⟨v, r, rfl, hj⟩ := x_v1_of hi
    obtain ⟨q, hj⟩ := x_bif hj
    exact ⟨_, _, _, x_go_of hj, fun k => lv_pop hx hb hd (by rw [x_cv_cat]; exact Nat.eq_of_beq_eq_true q) (k ls hl)⟩
  · cases hlen; obtain ⟨v, r, rfl, hj⟩ := x_v1_of hi
    obtain ⟨q, hj⟩ := x_bif hj
    exact ⟨_, _, _, x_go_of hj, fun k => lv_pop2_2 hx hb hd (by rw [x_cv_cat]; exact Nat.eq_of_beq_eq_true q) (k ls hl)⟩
  -- branches
  · cases hlen; obtain ⟨x, r, rfl, hj⟩ := x_i1_of hi; obtain ⟨t, ht, hj⟩ := x_br_of hj
    unfold x_cond at hj
    split at hj <;> split at hj <;> rename_i q
    · exact ⟨_, _, _, x_go_of hj, fun k => lv_if_eq hx hb hd ht (fun _ => k ls hl) (fun q' => absurd q q')⟩
    · exact ⟨_, _, _, x_go_of hj, fun k => lv_if_eq hx hb hd ht (fun q' => absurd q' q) (fun _ => k ls hl)⟩
    · exact ⟨_, _, _, x_go_of hj, fun k => lv_if_ne hx hb hd ht (fun _ => k ls hl) (fun q' => absurd q' q)⟩
    · exact ⟨_, _, _, x_go_of hj, fun k => lv_if_ne hx hb hd ht (fun q' => absurd q' q) (fun _ => k ls hl)⟩
    · exact ⟨_, _, _, x_go_of hj, fun k => lv_if_lt hx hb hd ht (fun _ => k ls hl) (fun q' => absurd q q')⟩
    · exact ⟨_, _, _, x_go_of hj, fun k => lv_if_lt hx hb hd ht (fun q' => absurd q' q) (fun _ => k ls hl)⟩
    · exact ⟨_, _, _, x_go_of hj, fun k => lv_if_ge hx hb hd ht (fun _ => k ls hl) (fun q' => absurd q q')⟩
    · exact ⟨_, _, _, x_go_of hj, fun k => lv_if_ge hx hb hd ht (fun q' => absurd q' q) (fun _ => k ls hl)⟩
    · exact ⟨_, _, _, x_go_of hj, fun k => lv_if_gt hx hb hd ht (fun _ => k ls hl) (fun q' => absurd q q')⟩
    · exact ⟨_, _, _, x_go_of hj, fun k => lv_if_gt hx hb hd ht (fun q' => absurd q' q) (fun _ => k ls hl)⟩
    · exact ⟨_, _, _, x_go_of hj, fun k => lv_if_le hx hb hd ht (fun _ => k ls hl) (fun q' => absurd q q')⟩
    · exact ⟨_, _, _, x_go_of hj, fun k => lv_if_le hx hb hd ht (fun q' => absurd q' q) (fun _ => k ls hl)⟩
  · cases hlen; obtain ⟨x, y, r, rfl, hj⟩ := x_i2_of hi; obtain ⟨t, ht, hj⟩ := x_br_of hj
    unfold x_cond at hj
    split at hj <;> split at hj <;> rename_i q
    · exact ⟨_, _, _, x_go_of hj, fun k => lv_icmp_eq hx hb hd ht (fun _ => k ls hl) (fun q' => absurd q q')⟩
    · exact ⟨_, _, _, x_go_of hj, fun k => lv_icmp_eq hx hb hd ht (fun q' => absurd q' q) (fun _ => k ls hl)⟩
    · exact ⟨_, _, _, x_go_of hj, fun k => lv_icmp_ne hx hb hd ht (fun _ => k ls hl) (fun q' => absurd q' q)⟩
    · exact ⟨_, _, _, x_go_of hj, fun k => lv_icmp_ne hx hb hd ht (fun q' => absurd q' q) (fun _ => k ls hl)⟩
    · exact ⟨_, _, _, x_go_of hj, fun k => lv_icmp_lt hx hb hd ht (fun _ => k ls hl) (fun q' => absurd q q')⟩
    · exact ⟨_, _, _, x_go_of hj, fun k => lv_icmp_lt hx hb hd ht (fun q' => absurd q' q) (fun _ => k ls hl)⟩
    · exact ⟨_, _, _, x_go_of hj, fun k => lv_icmp_ge hx hb hd ht (fun _ => k ls hl) (fun q' => absurd q q')⟩
    · exact ⟨_, _, _, x_go_of hj, fun k => lv_icmp_ge hx hb hd ht (fun q' => absurd q' q) (fun _ => k ls hl)⟩
    · exact ⟨_, _, _, x_go_of hj, fun k => lv_icmp_gt hx hb hd ht (fun _ => k ls hl) (fun q' => absurd q q')⟩
    · exact ⟨_, _, _, x_go_of hj, fun k => lv_icmp_gt hx hb hd ht (fun q' => absurd q' q) (fun _ => k ls hl)⟩
    · exact ⟨_, _, _, x_go_of hj, fun k => lv_icmp_le hx hb hd ht (fun _ => k ls hl) (fun q' => absurd q q')⟩
    · exact ⟨_, _, _, x_go_of hj, fun k => lv_icmp_le hx hb hd ht (fun q' => absurd q' q) (fun _ => k ls hl)⟩
  · cases hlen; obtain ⟨t, ht, hi⟩ := x_br_of hi
    exact ⟨_, _, _, x_go_of hi, fun k => lv_goto hx hb hd ht (k ls hl)⟩
  · obtain ⟨x, r, rfl, hj⟩ := x_i1_of hi
    split at hj
    · rename_i q; obtain ⟨t, ht, hj⟩ := x_br_of hj
      exact ⟨_, _, _, x_go_of hj, fun k => lv_tableOut hx hb hd q ht (k ls hl)⟩
    · rename_i q
      split at hj
      · rename_i off ho; obtain ⟨t, ht, hj⟩ := x_br_of hj
        exact ⟨_, _, _, x_go_of hj, fun k => lv_tableIn hx hb hd (fun z => q (Or.inl z)) (fun z => q (Or.inr z)) ho ht (k ls hl)⟩
      · cases hj
  · obtain ⟨x, r, rfl, hj⟩ := x_i1_of hi
    split at hj
    · rename_i q; obtain ⟨t, ht, hj⟩ := x_br_of hj
      exact ⟨_, _, _, x_go_of hj, fun k => lv_lookup hx hb hd q rfl ht (k ls hl)⟩
    · cases hj
  · cases hi
end XS
/-! ===== soundness: fields, arrays, new ===== -/
def x_okC : Prop := ∀ (ci : Nat) (C : String) (T : u_T) (N : Nat), (vwCl : List vw_C)[ci]? = some (C, T, N) → (∀ w ∈ u_ws C T N, w ∈ x_bw) ∧ (∀ k, k < N → parseFieldDescriptor (T k).2.2.1 = some (x_fty ci k)) ∧ (∀ a, a < N → ∀ b, b < N → a ≠ b → (T a).2.1 ≠ (T b).2.1) ∧ Cond.instantiable C N ∈ x_bw ∧ Cond.initialized C ∈ x_bw
def x_ok2 (own : String) (y : MethodName) (ins : Instr) (a b : Nat) : Prop := match ins with
  | .getfield i => ∃ (C : String) (T : u_T) (N : Nat), (vwCl : List vw_C)[a]? = some (C, T, N) ∧ b < N ∧ Cond.fieldLink own i (T b).1 (T b).2.1 (T b).2.2.1 ∈ x_bw
  | .putfield i => ∃ (C : String) (T : u_T) (N : Nat), (vwCl : List vw_C)[a]? = some (C, T, N) ∧ b < N ∧ Cond.fieldLink own i (T b).1 (T b).2.1 (T b).2.2.1 ∈ x_bw ∧ ((T b).2.2.2 = true → y.name = "<init>" ∧ (T b).1 = own)
  | .newarray t => Cond.arrayClass (newarray.typeOf t) ∈ x_bw
  | .anewarray i => ∃ (C : String) (T : u_T) (N : Nat), (vwCl : List vw_C)[a]? = some (C, T, N) ∧ Cond.classLink own i C ∈ x_bw ∧ C ∈ x_ao
  | .new i => ∃ (C : String) (T : u_T), (vwCl : List vw_C)[a]? = some (C, T, b) ∧ Cond.classLink own i C ∈ x_bw
  | _ => True
theorem x_K1 {D : va_G} {s : State} {cA : ClassId} {ty : FieldType} (hK : va_K D vwCl [] s) (h : ArrOfT s cA ty ∧ va_RA s cA ty) : va_K D vwCl [(cA, ty)] s := by
  refine ⟨hK.1, fun k q hq => ?_⟩
  have hz : k < 1 := (List.getElem?_eq_some_iff.mp hq).1
  rw [show k = 0 by omega] at hq
  cases hq
  exact h
theorem x_K2 {D : va_G} {s : State} {cA cB : ClassId} {ty : FieldType} (hK : va_K D vwCl [] s) (h : ArrOfT s cA ty ∧ va_RA s cA ty) (h2 : ArrOfT s cB ty ∧ va_RA s cB ty) : va_K D vwCl [(cA, ty), (cB, ty)] s := (x_K1 hK h).app (x_K1 hK h2)
theorem x_fit_of {ty : FieldType} {v : Value} (h : x_fit ty v = true) (ad : Nat → Nat) : narrow ty (x_cv ad v) = x_cv ad v ∧ fits ty (x_cv ad v) = true := by
  unfold x_fit at h
  split at h
  · exact ⟨rfl, rfl⟩
  · exact ⟨rfl, rfl⟩
  · rename_i x
    have h' : x = 0 ∨ x = 1 := by simpa using h
    rcases h' with rfl | rfl
    · show narrow .boolean (.int 0) = .int 0 ∧ fits .boolean (.int 0) = true
      exact ⟨by decide, by decide⟩
    · show narrow .boolean (.int 1) = .int 1 ∧ fits .boolean (.int 1) = true
      exact ⟨by decide, by decide⟩
  · exact ⟨rfl, rfl⟩
  · exact ⟨rfl, rfl⟩
  · cases h
theorem x_ft4 {c : Nat} {r : vw_C} (h : (vwCl : List vw_C)[c]? = some r) : x_ft (4 + c) = .object r.1 := by
  rw [Nat.add_comm]
  show FieldType.object _ = _
  unfold x_cls
  rw [h]
theorem x_ft4' {t : Nat} (h : 4 ≤ t) : ∃ C, x_ft t = .object C := by
  obtain ⟨c, rfl⟩ := Nat.exists_eq_add_of_le h
  rw [Nat.add_comm]
  exact ⟨_, rfl⟩
section XS2
variable {p : Program} {l : Launch} {e : Env} {R : Room} {s : State} {m : MethodId} {args : Array Value} {below : List Frame} {meth : Method} {c : Code} {H : Heap} {locs : List Loc} {cells slots : Nat} {Q : State → Prop}
variable {cc : ByteArray} {pc : Nat} {ls : Array Slot} {own : String} {y : MethodName} {ad : Nat → Nat} {nL : Nat} {L : xL} {st rest : List Value} {h : xH} {k z : Nat} {ins : Instr} {len a b base : Nat} {D : va_G}
/-- what is known where a step begins -/
def x_At (s : State) (m : MethodId) (args : Array Value) (own : String) (D : va_G) (base : Nat) (ad : Nat → Nat) (h : xH) (H : Heap) (locs : List Loc) : Prop :=
  s.vm.findClass own = some m.cls ∧ (∀ w ∈ x_bw, w.before args s = true) ∧ va_K D vwCl [] s ∧ base ≤ s.heap.size ∧ x_W ad base D h s H ∧ va_S (fun q => base ≤ q) s.heap H locs
/-- a field is written -/
theorem x_put (hC : x_okC) (hx : p.tables.exec = Jvm.exec) (hb : c.code = cc) (hmn : y.name = "<init>" → meth.name = "<init>") (X : x_At s m args own D base ad h H locs) {i q : Nat} {fs : List Value} {v : Value} {C : String} {T : u_T} {N : Nat} (hq : h[q]? = some (.inr (a, fs))) (hc : (vwCl : List vw_C)[a]? = some (C, T, N)) (hbN : b < N) (hlink : Cond.fieldLink own i (T b).1 (T b).2.1 (T b).2.2.1 ∈ x_bw) (hfin : (T b).2.2.2 = true → y.name = "<init>" ∧ (T b).1 = own) (hf : x_fit (x_fty a b) v = true) (hlt : b < fs.length)
    (hdg : decode cc pc = .ok (.putfield i, 3)) (kk : ∀ (H1 : Heap) (locs1 : List Loc), x_At s m args own D base ad (h.set q (.inr (a, fs.set b v))) H1 locs1 → W p l e R s m args below meth c H1 locs1 cells slots Q (F0 m (pc + 3) ls rest)) : W p l e R s m args below meth c H locs cells slots Q (F0 m pc ls (x_cv ad v :: .ref (ad q) :: rest)) := by
  obtain ⟨hown, hts, hK, hbase, w, hS⟩ := X
  obtain ⟨hin, hty, hnm, -, -⟩ := hC a C T N hc
  obtain ⟨-, -, -, cs, hP, -⟩ := id w
  obtain ⟨hn, hft⟩ := x_fit_of hf ad
  have he := x_cw_get (ad := ad) (cs := cs) hq
  have hap := va_apart (own := own) hts hin (x_fty a) hty hnm hK hc
  obtain ⟨r, h1, cell, q1, q2, q3, q4⟩ := hP q _ he
  have hr : r = (C, T, N) := Option.some.inj (h1.symm.trans hc)
  subst hr
  obtain ⟨hSl, hfc, kC, hkC, hkind⟩ := hK.1 a _ hc
  obtain ⟨cf, kf, fi, f, hi, hsl⟩ := hSl b hbN
  have hst := (u_facts hfc hkC (u_lays hts hin hbN) hi).1
  have hd := hty b hbN
  have fin : ∀ (H' : Heap), H'[ad q]? = some (cell.setSlot f.slot (x_cv ad v)) → H'.size = H.size → (∀ x, x ≠ ad q → H'[x]? = H[x]?) → W p l e R s m args below meth c H' (locs ++ [⟨ad q, f.slot⟩]) cells slots Q (F0 m (pc + 3) ls rest) := by
    intro H' e1 e2 e3
    refine kk H' _ ⟨hown, hts, hK, hbase, w.set hq rfl e2 e3 (fun cA _ => ?_), hS.put e2 e3 ?_⟩
    · rw [hsl] at e1
      refine ⟨_, hc, t_OB.to (V := updV (vp_V (fs.map (x_cv ad))) b (x_cv ad v)) ⟨_, e1, q2, q3, t_set q4 hap hbN (x_cv ad v)⟩ (fun j _ => ?_)⟩
      rw [vp_updV_set (by rw [List.length_map]; exact hlt), List.map_set]
    · have := (w.at hq).2.1
      show base ≤ ad q
      omega
  cases hfe : (T b).2.2.2 with
  | false =>
    have hlay := hts _ (hin _ (u_in_lay hbN))
    unfold u_lay at hlay
    rw [if_neg (by rw [hfe]; decide)] at hlay
    have h6 := u_store hfc hkC hkind hlay hi hd hn hft
    exact W.putK hx hb (f := f) ⟨hown, hts _ hlink, ⟨_, _, _, hi⟩, hst⟩ (by rw [q2]; exact h6) q1 q3 (by rw [hsl]; exact k2_hasslot (q4 b hbN)) rfl rfl hdg fin
  | true =>
    obtain ⟨hy, hdecl⟩ := hfin hfe
    have hlay := hts _ (hin _ (u_in_lay hbN))
    unfold u_lay at hlay
    rw [if_pos hfe] at hlay
    have hcf : m.cls = cf := by
      obtain ⟨_, _, c', _, _, _, -, -, hf', -, -, -, hown2, -⟩ := Cond.laysFinal_spec hlay
      have e1 : c' = cf := by have := hi.symm.trans hf'; simp at this; exact this.1.symm
      rw [hdecl] at hown2
      rw [← e1]; exact Option.some.inj (hown.symm.trans hown2)
    have h6 := u_fits hfc hkC hkind (Or.inr hlay) hi hd hn hft
    exact W.putFinK hx hb hown (hts _ hlink) hi hst hcf (hmn hy) (by rw [q2]; exact h6) q1 q3 (by rw [hsl]; exact k2_hasslot (q4 b hbN)) rfl rfl hdg fin
theorem x_base_of (X : x_At s m args own D base ad h H locs) {q : Nat} {e0 : xE} (hq : h[q]? = some e0) : base ≤ ad q := by
  have := (X.2.2.2.2.1.at hq).2.1
  omega
/-- a cell that is an array is written anew -/
theorem x_arr (X : x_At s m args own D base ad h H locs) {q j : Nat} {e0 e1 : xE} (hq : h[q]? = some e0) (ht : x_tg e1 = x_tg e0) {H1 : Heap} (z1 : H1.size = H.size) (o1 : ∀ x, x ≠ ad q → H1[x]? = H[x]?) (he : ∀ cA : ClassId, va_at D vwCl (ad q, x_ce ad cA e0) H → va_at D vwCl (ad q, x_ce ad cA e1) H1) : x_At s m args own D base ad (h.set q e1) H1 (locs ++ [⟨ad q, j⟩]) := by
  have hbq := x_base_of X hq
  obtain ⟨hown, hts, hK, hbase, w, hS⟩ := X
  exact ⟨hown, hts, hK, hbase, w.set hq ht z1 o1 he, hS.put z1 o1 hbq⟩
theorem x_upd_i (cA : ClassId) (n i : Nat) (f : Nat → Int32) (x : Int32) : (vp_cell cA (n, .inl f)).setSlot i (.int x) = vp_cell cA (n, .inl (upd f i x)) := by
  rw [vp_cell_i, vp_cell_i, arrV_store]
  congr 2
  funext q
  by_cases hq : q = i
  · subst hq; simp [updV, upd]
  · simp [updV, upd, hq]
theorem x_upd_l (cA : ClassId) (n i : Nat) (f : Nat → Int64) (x : Int64) : (vp_cell cA (n, .inr (.inl f))).setSlot i (.long x) = vp_cell cA (n, .inr (.inl (vp_updL f i x))) := by
  rw [vp_cell_l, vp_cell_l, arrV_store]
  congr 2
  funext q
  by_cases hq : q = i
  · subst hq; simp [updV, vp_updL]
  · simp [updV, vp_updL, hq]
theorem x_upd_q (cA : ClassId) (n i : Nat) (f : Nat → Option Nat) (x : Nat) : (vp_cell cA (n, .inr (.inr (.inr (.inr f))))).setSlot i (.ref x) = vp_cell cA (n, .inr (.inr (.inr (.inr (va_up f i (some x)))))) := by
  rw [vp_cell_q, vp_cell_q, arrV_store]
  congr 2
  funext q
  by_cases hq : q = i
  · subst hq; simp [updV, va_up, va_rf]
  · simp [updV, va_up, hq]
/-- what a step of this kind leaves to be shown -/
def x_N2 (p : Program) (l : Launch) (e : Env) (R : Room) (s : State) (m : MethodId) (args : Array Value) (below : List Frame) (meth : Method) (c : Code) (H : Heap) (locs : List Loc) (k z : Nat) (Q : State → Prop) (ls : Array Slot) (own : String) (D : va_G) (base : Nat) (ad : Nat → Nat) (L : xL) (st : List Value) (pc : Nat) (o : xC ⊕ ((Nat × List Value × List Value) ⊕ Option Value)) : Prop :=
  ∃ (pc' : Nat) (st' : List Value) (h' : xH) (k' z' : Nat), o = .inl (pc', L, st', h', k', z') ∧ k ≤ k' ∧ z ≤ z' ∧ (k' ≤ R.cells → z' ≤ R.slots → (∀ (H1 : Heap) (locs1 : List Loc), x_At s m args own D base ad h' H1 locs1 → W p l e R s m args below meth c H1 locs1 k' z' Q (F0 m pc' ls (st'.map (x_cv ad)))) → W p l e R s m args below meth c H locs k z Q (F0 m pc ls (st.map (x_cv ad))))
theorem x_N2.go {pc' : Nat} {st' : List Value} {h' : xH} {k' z' : Nat} {o} (hi : x_go pc' L st' h' k' z' = some o) (h1 : k ≤ k') (h2 : z ≤ z') (kk : k' ≤ R.cells → z' ≤ R.slots → (∀ (H1 : Heap) (locs1 : List Loc), x_At s m args own D base ad h' H1 locs1 → W p l e R s m args below meth c H1 locs1 k' z' Q (F0 m pc' ls (st'.map (x_cv ad)))) → W p l e R s m args below meth c H locs k z Q (F0 m pc ls (st.map (x_cv ad)))) : x_N2 p l e R s m args below meth c H locs k z Q ls own D base ad L st pc o :=
  ⟨pc', st', h', k', z', (Option.some.inj hi).symm, h1, h2, kk⟩
/-- the String constants -/
def x_St (s : State) (base : Nat) (ad : Nat → Nat) : Prop :=
  (∀ j : Nat, j < x_sbyt.length → va_O "java/lang/String" (ad (x_str + j)) (fun q => base ≤ q) s s.heap ∧ va_OF "java/lang/String" "coder" "B" (.int 0) (ad (x_str + j)) (fun q => base ≤ q) s s.heap ∧ va_OF "java/lang/String" "value" "[B" (.ref (ad (x_val + j))) (ad (x_str + j)) (fun q => base ≤ q) s s.heap ∧ va_T .byte (ad (x_val + j)) (x_sbyt.getD j []).length (fun i => .int ((x_sbyt.getD j []).getD i 0)) (fun q => base ≤ q) s s.heap) ∧
  va_Z "java/lang/String" "COMPACT_STRINGS" "Z" (.int 1) (fun q => base ≤ q) s s.heap ∧ va_Zq "jdk/internal/util/Preconditions" "SIOOBE_FORMATTER" "Ljava/util/function/BiFunction;" (fun q => base ≤ q) s s.heap ∧
  ∀ (j : Nat) (own : String) (k : Nat) (tx : String), x_lit[j]? = some (own, k, tx) → vk_R own k tx (ad (x_str + j)) s
theorem x_St.next {U : State} (hT : x_St s base ad) (hU : U.heap = H) (hW : s.WarmedH U.vm) (hS : va_S (fun q => base ≤ q) s.heap H locs) : x_St U base ad := by
  have hk := hS.2.1
  obtain ⟨h1, h2, h3, h4⟩ := hT
  unfold x_St
  rw [hU]
  refine ⟨fun j hj => ?_, va_Z.moved hW.alike (h2.kept hk), va_Zq.moved hW.alike (h3.kept hk), fun j own k tx e => vk_R.warm hW (h4 j own k tx e)⟩
  obtain ⟨a, b, c, d⟩ := h1 j hj
  exact ⟨va_O.moved hW.alike (a.kept hk), va_OF.moved hW.alike (b.kept hk), va_OF.moved hW.alike (c.kept hk), va_T.moved hW.alike (d.kept hk)⟩
theorem x_St.same {U : State} (hU : U.heap = s.heap) (hv : U.vm = s.vm) (hT : x_St s base ad) : x_St U base ad := by
  have ha : s.vm.Alike U.vm := by rw [hv]; exact Vm.Alike.refl s.vm
  obtain ⟨h1, h2, h3, h4⟩ := hT
  unfold x_St
  rw [hU]
  refine ⟨fun j hj => ?_, va_Z.moved ha h2, va_Zq.moved ha h3, fun j own k tx e => vk_R.same hv (h4 j own k tx e)⟩
  obtain ⟨a, b, c, d⟩ := h1 j hj
  exact ⟨va_O.moved ha a, va_OF.moved ha b, va_OF.moved ha c, va_T.moved ha d⟩
/-- the script, and the String constants -/
def x_Sc (S : Option xS) (s : State) (base : Nat) (ad : Nat → Nat) : Prop := (∀ (n : Nat) (f : Nat → Int32), S = some (n, f) → va_X (ad x_scr) n f s s.heap ∧ ad x_scr < s.heap.size ∧ ¬ base ≤ ad x_scr) ∧ x_St s base ad
theorem x_pushAt (X : x_At s m args own D base ad h H locs) {e1 : xE} {cA : ClassId} {H1 : Heap} (hl : ¬ x_scr ≤ h.length) (z1 : H1.size = H.size + 1) (o1 : ∀ q, q < H.size → H1[q]? = H[q]?) (he : va_at D vwCl (H.size, x_ce ad cA e1) H1) (ht : ∀ t, x_tg e1 = some t → ArrOfT s cA (x_ft t) ∧ va_RA s cA (x_ft t)) : x_At s m args own D base ad (h ++ [e1]) H1 locs ∧ ad h.length = H.size := by
  obtain ⟨hown, hts, hK, hbase, w, hS⟩ := X
  obtain ⟨w', ha⟩ := w.push hl z1 o1 he ht
  exact ⟨⟨hown, hts, hK, hbase, w', ⟨Nat.le_trans hS.1 (by omega), fun x h1 h2 => (o1 x (Nat.lt_of_lt_of_le h1 hS.1)).trans (hS.2.1 x h1 h2), hS.2.2⟩⟩, ha⟩
/-- new rows of numbers -/
theorem x_newa (hx : p.tables.exec = Jvm.exec) (hb : c.code = cc) (X : x_At s m args own D base ad h H locs) {atype : ArrayType} {n : Int32} {a0 : vp_A} {t : Nat} (harr : Cond.arrayClass (newarray.typeOf atype) ∈ x_bw) (hnq : ¬ (n < 0 ∨ 60000000 < n.toNatClampNeg ∨ x_scr ≤ h.length)) (hcb : componentBytes (newarray.typeOf atype) ≤ 8) (hft : x_ft t = newarray.typeOf atype)
    (ha : ∀ cA : ClassId, va_at D vwCl (H.size, x_ce ad cA (.inl (t, a0))) = fun H1 => H1[H.size]? = some (arrV cA n.toNatClampNeg (fun _ => defaultValue (newarray.typeOf atype)))) (hdg : decode cc pc = .ok (.newarray atype, 2)) (hc1 : k + 1 ≤ R.cells) (hs1 : z + n.toNatClampNeg ≤ R.slots)
    (kk : ∀ (H1 : Heap) (locs1 : List Loc), x_At s m args own D base ad (h ++ [.inl (t, a0)]) H1 locs1 → W p l e R s m args below meth c H1 locs1 (k + 1) (z + n.toNatClampNeg) Q (F0 m (pc + 2) ls (.ref (ad h.length) :: rest))) : W p l e R s m args below meth c H locs k z Q (F0 m pc ls (.int n :: rest)) := by
  obtain ⟨hown, hts, hK, hbase, w, hS⟩ := id X
  have g1 : ¬ n < 0 := fun q => hnq (Or.inl q)
  have g2 : ¬ 60000000 < n.toNatClampNeg := fun q => hnq (Or.inr (Or.inl q))
  have g3 : ¬ x_scr ≤ h.length := fun q => hnq (Or.inr (Or.inr q))
  refine va_newaK hx hb (hts _ harr) rfl hdg rfl g1 rfl (Nat.le_trans (Nat.mul_le_mul_left _ hcb) (by omega)) hc1 hs1 rfl fun H1 cA e1 z1 o1 hAr hNm => ?_
  obtain ⟨X', hadd⟩ := x_pushAt (e1 := .inl (t, a0)) (cA := cA) X g3 z1 o1 (by rw [ha]; exact e1) (fun t' ht' => by
    cases ht'
    rw [hft]
    exact ⟨hAr, by cases atype <;> exact hNm⟩)
  have := kk H1 locs X'
  rw [hadd] at this
  exact this
/-- a new row of references -/
theorem x_newq (hx : p.tables.exec = Jvm.exec) (hb : c.code = cc) (X : x_At s m args own D base ad h H locs) {n : Int32} {i : Nat} {C : String} {T : u_T} {N : Nat} (hc : (vwCl : List vw_C)[a]? = some (C, T, N)) (hcl : Cond.classLink own i C ∈ x_bw) (hov : C ∈ x_ao) (hnq : ¬ (n < 0 ∨ 60000000 < n.toNatClampNeg ∨ x_scr ≤ h.length)) (hdg : decode cc pc = .ok (.anewarray i, 3)) (hc1 : k + 1 ≤ R.cells) (hs1 : z + n.toNatClampNeg ≤ R.slots)
    (kk : ∀ (H1 : Heap) (locs1 : List Loc), x_At s m args own D base ad (h ++ [.inl (4 + a, n.toNatClampNeg, .inr (.inr (.inr (.inr (fun _ => none)))))]) H1 locs1 → W p l e R s m args below meth c H1 locs1 (k + 1) (z + n.toNatClampNeg) Q (F0 m (pc + 3) ls (.ref (ad h.length) :: rest))) : W p l e R s m args below meth c H locs k z Q (F0 m pc ls (.int n :: rest)) := by
  obtain ⟨hown, hts, hK, hbase, w, hS⟩ := id X
  have g1 : ¬ n < 0 := fun q => hnq (Or.inl q)
  have g2 : ¬ 60000000 < n.toNatClampNeg := fun q => hnq (Or.inr (Or.inl q))
  have g3 : ¬ x_scr ≤ h.length := fun q => hnq (Or.inr (Or.inr q))
  obtain ⟨-, -, -, -, -, -, hao⟩ := id w
  refine W.anew hx hb hown (hts _ hcl) (va_AO.use (hao _ hov)) rfl hdg rfl g1 (by omega) hc1 hs1 fun cA kA comp f1 f2 f3 f4 => ?_
  generalize hH1 : H.push ({ cls := cA, slots := Array.replicate n.toNatClampNeg .null, vm := .none } : Cell) = H1
  have z1 : H1.size = H.size + 1 := by rw [← hH1, Array.size_push]
  have e1 : H1[H.size]? = some (arrV cA n.toNatClampNeg (fun _ => .null)) := by rw [← hH1, Array.getElem?_push_size, ← arrV_new]
  have o1 : ∀ q : Nat, q < H.size → H1[q]? = H[q]? := fun q hq => by rw [← hH1, Array.getElem?_push, if_neg (Nat.ne_of_lt hq)]
  have hAr : ArrOfT s cA (.object C) := fun N z => ⟨(fun k h => by cases h), kA, f2, comp, f3⟩
  obtain ⟨X', hadd⟩ := x_pushAt (e1 := .inl (4 + a, n.toNatClampNeg, .inr (.inr (.inr (.inr (fun _ => none)))))) (cA := cA) X g3 z1 o1 (by
    show H1[H.size]? = some (vp_cell _ _)
    rw [vp_cell_q]
    exact e1) (fun t' ht' => by
    cases ht'
    rw [x_ft4 hc]
    exact ⟨hAr, kA, comp, f2, f3, f4, f1⟩)
  have := kk H1 locs X'
  rw [hadd] at this
  exact this
/-- a new object -/
theorem x_new (hC : x_okC) (hx : p.tables.exec = Jvm.exec) (hb : c.code = cc) (X : x_At s m args own D base ad h H locs) {i : Nat} {C : String} {T : u_T} (hc : (vwCl : List vw_C)[a]? = some (C, T, b)) (hcl : Cond.classLink own i C ∈ x_bw) (g3 : ¬ x_scr ≤ h.length) (hdg : decode cc pc = .ok (.new i, 3)) (hc1 : k + 1 ≤ R.cells) (hs1 : z + b ≤ R.slots)
    (kk : ∀ (H1 : Heap) (locs1 : List Loc), x_At s m args own D base ad (h ++ [.inr (a, (List.range b).map (fun j => defaultValue (x_fty a j)))]) H1 locs1 → W p l e R s m args below meth c H1 locs1 (k + 1) (z + b) Q (F0 m (pc + 3) ls (.ref (ad h.length) :: rest))) : W p l e R s m args below meth c H locs k z Q (F0 m pc ls rest) := by
  obtain ⟨hown, hts, hK, hbase, w, hS⟩ := id X
  obtain ⟨hin, hty, hnm, hins, hini⟩ := hC a C T b hc
  have hKn := hK.1 a _ hc
  refine W.newcK hx hb hown (hts _ hcl) (hts _ hins) (hts _ hini) rfl hdg hc1 hs1 hKn.2.1 rfl fun H1 kC hkC e1 z1 o1 => ?_
  obtain ⟨X', hadd⟩ := x_pushAt (e1 := .inr (a, (List.range b).map (fun j => defaultValue (x_fty a j)))) (cA := 0) X g3 z1 o1 (by
    refine ⟨_, hc, (u_born (x_fty a) hts hin hKn hkC e1 hty).to (fun j hj => ?_)⟩
    show defaultValue (x_fty a j) = vp_V (((List.range b).map (fun j => defaultValue (x_fty a j))).map (x_cv ad)) j
    unfold vp_V
    rw [List.getD_eq_getElem?_getD, List.getElem?_map, List.getElem?_map, List.getElem?_range hj]
    show defaultValue (x_fty a j) = x_cv ad (defaultValue (x_fty a j))
    cases x_fty a j <;> rfl) (fun t' ht' => by cases ht')
  have := kk H1 locs X'
  rw [hadd] at this
  exact this
end XS2
/-! ===== soundness of the second group, as one row ===== -/
section XS4
variable {p : Program} {l : Launch} {e : Env} {R : Room} {s : State} {m : MethodId} {args : Array Value} {below : List Frame} {meth : Method} {c : Code} {H : Heap} {locs : List Loc} {cells slots : Nat} {Q : State → Prop}
variable {cc : ByteArray} {pc : Nat} {ls : Array Slot} {own : String} {y : MethodName} {ad : Nat → Nat} {nL : Nat} {L : xL} {st rest : List Value} {h : xH} {k z : Nat} {ins : Instr} {len a b base : Nat} {D : va_G}
theorem x_cellOf (X : x_At s m args own D base ad h H locs) {q t : Nat} {x : vp_A} (hq : h[q]? = some (.inl (t, x))) : ∃ (cA : ClassId), va_at D vwCl (ad q, x_ce ad cA (.inl (t, x))) H ∧ ArrOfT s cA (x_ft t) ∧ va_RA s cA (x_ft t) := by
  obtain ⟨hown, hts, hK, hbase, w, hS⟩ := X
  obtain ⟨-, -, -, cs, hP, h5, -⟩ := w
  exact ⟨cs q, hP q _ (x_cw_get hq), h5 q _ t hq rfl⟩
theorem x_cellI (X : x_At s m args own D base ad h H locs) {q t n : Nat} {f : Nat → Int32} (hq : h[q]? = some (.inl (t, n, .inl f))) : ∃ (cA : ClassId), H[ad q]? = some (vp_cell cA (n, .inl f)) ∧ ArrOfT s cA (x_ft t) ∧ va_RA s cA (x_ft t) := x_cellOf X hq
theorem x_cellL (X : x_At s m args own D base ad h H locs) {q t n : Nat} {f : Nat → Int64} (hq : h[q]? = some (.inl (t, n, .inr (.inl f)))) : ∃ (cA : ClassId), H[ad q]? = some (vp_cell cA (n, .inr (.inl f))) ∧ ArrOfT s cA (x_ft t) ∧ va_RA s cA (x_ft t) := x_cellOf X hq
theorem x_cellF (X : x_At s m args own D base ad h H locs) {q t n : Nat} {f : Nat → UInt32} (hq : h[q]? = some (.inl (t, n, .inr (.inr (.inl f))))) : ∃ (cA : ClassId), H[ad q]? = some (vp_cell cA (n, .inr (.inr (.inl f)))) ∧ ArrOfT s cA (x_ft t) ∧ va_RA s cA (x_ft t) := x_cellOf X hq
theorem x_cellD (X : x_At s m args own D base ad h H locs) {q t n : Nat} {f : Nat → UInt64} (hq : h[q]? = some (.inl (t, n, .inr (.inr (.inr (.inl f)))))) : ∃ (cA : ClassId), H[ad q]? = some (vp_cell cA (n, .inr (.inr (.inr (.inl f))))) ∧ ArrOfT s cA (x_ft t) ∧ va_RA s cA (x_ft t) := x_cellOf X hq
theorem x_cellQ (X : x_At s m args own D base ad h H locs) {q t n : Nat} {f : Nat → Option Nat} (hq : h[q]? = some (.inl (t, n, .inr (.inr (.inr (.inr f)))))) : ∃ (cA : ClassId), H[ad q]? = some (vp_cell cA (n, .inr (.inr (.inr (.inr (fun j => (f j).map ad)))))) ∧ ArrOfT s cA (x_ft t) ∧ va_RA s cA (x_ft t) := x_cellOf X hq
theorem x_wrI (X : x_At s m args own D base ad h H locs) {q t n i : Nat} {f : Nat → Int32} {cA : ClassId} {x : Int32} (hq : h[q]? = some (.inl (t, n, .inl f))) (hat : H[ad q]? = some (vp_cell cA (n, .inl f))) {H1 : Heap} (e1 : H1[ad q]? = some ((vp_cell cA (n, .inl f)).setSlot i (.int x))) (z1 : H1.size = H.size) (o1 : ∀ y, y ≠ ad q → H1[y]? = H[y]?) : x_At s m args own D base ad (h.set q (.inl (t, n, .inl (upd f i x)))) H1 (locs ++ [⟨ad q, i⟩]) := by
  refine x_arr (e1 := (.inl (t, n, .inl (upd f i x)))) X hq rfl z1 o1 (fun cB hB => ?_)
  have hcc : vp_cell cB (n, .inl f) = vp_cell cA (n, .inl f) := Option.some.inj ((show H[ad q]? = some (vp_cell cB (n, .inl f)) from hB).symm.trans hat)
  show H1[ad q]? = some (vp_cell cB (n, .inl (upd f i x)))
  rw [e1, ← x_upd_i, hcc]
theorem x_wrL (X : x_At s m args own D base ad h H locs) {q t n i : Nat} {f : Nat → Int64} {cA : ClassId} {x : Int64} (hq : h[q]? = some (.inl (t, n, .inr (.inl f)))) (hat : H[ad q]? = some (vp_cell cA (n, .inr (.inl f)))) {H1 : Heap} (e1 : H1[ad q]? = some ((vp_cell cA (n, .inr (.inl f))).setSlot i (.long x))) (z1 : H1.size = H.size) (o1 : ∀ y, y ≠ ad q → H1[y]? = H[y]?) : x_At s m args own D base ad (h.set q (.inl (t, n, .inr (.inl (vp_updL f i x))))) H1 (locs ++ [⟨ad q, i⟩]) := by
  refine x_arr (e1 := (.inl (t, n, .inr (.inl (vp_updL f i x))))) X hq rfl z1 o1 (fun cB hB => ?_)
  have hcc : vp_cell cB (n, .inr (.inl f)) = vp_cell cA (n, .inr (.inl f)) := Option.some.inj ((show H[ad q]? = some (vp_cell cB (n, .inr (.inl f))) from hB).symm.trans hat)
  show H1[ad q]? = some (vp_cell cB (n, .inr (.inl (vp_updL f i x))))
  rw [e1, ← x_upd_l, hcc]
theorem x_wrQ (X : x_At s m args own D base ad h H locs) {q t n i x : Nat} {f : Nat → Option Nat} {cA : ClassId} (hq : h[q]? = some (.inl (t, n, .inr (.inr (.inr (.inr f)))))) (hat : H[ad q]? = some (vp_cell cA (n, .inr (.inr (.inr (.inr (fun j => (f j).map ad))))))) {H1 : Heap} (e1 : H1[ad q]? = some ((vp_cell cA (n, .inr (.inr (.inr (.inr (fun j => (f j).map ad)))))).setSlot i (.ref (ad x)))) (z1 : H1.size = H.size) (o1 : ∀ y, y ≠ ad q → H1[y]? = H[y]?) : x_At s m args own D base ad (h.set q (.inl (t, n, .inr (.inr (.inr (.inr (va_up f i (some x)))))))) H1 (locs ++ [⟨ad q, i⟩]) := by
  refine x_arr (e1 := (.inl (t, n, .inr (.inr (.inr (.inr (va_up f i (some x)))))))) X hq rfl z1 o1 (fun cB hB => ?_)
  have hcc : vp_cell cB (n, .inr (.inr (.inr (.inr (fun j => (f j).map ad))))) = vp_cell cA (n, .inr (.inr (.inr (.inr (fun j => (f j).map ad))))) := Option.some.inj ((show H[ad q]? = some (vp_cell cB (n, .inr (.inr (.inr (.inr (fun j => (f j).map ad)))))) from hB).symm.trans hat)
  have e2 : (fun j => (va_up f i (some x) j).map ad) = va_up (fun j => (f j).map ad) i (some (ad x)) := by
    funext j
    unfold va_up
    split <;> rfl
  show H1[ad q]? = some (vp_cell cB (n, .inr (.inr (.inr (.inr (fun j => (va_up f i (some x) j).map ad))))))
  rw [e1, e2, ← x_upd_q, hcc]
theorem x_in_arr {i : Int32} {n : Nat} {cA : ClassId} {f : Nat → Value} (hin : vp_in i n) : ¬ (i < 0 ∨ (arrV cA n f).slots.size ≤ i.toNatClampNeg) := by
  rw [arrV_size]
  exact hin
set_option maxHeartbeats 4000000 in
theorem x_s2 (hC : x_okC) (hx : p.tables.exec = Jvm.exec) (hb : c.code = cc) (hmn : y.name = "<init>" → meth.name = "<init>") (X : x_At s m args own D base ad h H locs) {S : Option xS} (hSc : x_Sc S s base ad) (hd : decode cc pc = .ok (ins, len)) (hlen : x_lok ins len) (hw : x_ok2 own y ins a b) {o} (hi : x_ins2 S ins pc a b L st h k z = some o) : x_N2 p l e R s m args below meth c H locs k z Q ls own D base ad L st pc o := by
  unfold x_ins2 at hi
  split at hi
  -- getfield
  · cases hlen
    obtain ⟨q, r, rfl, hj⟩ := x_a1_of hi
    obtain ⟨ci, fs, hq, hj⟩ := x_ob_of hj
    obtain ⟨hcb, hj2⟩ := x_bif hj
    have hci := Nat.eq_of_beq_eq_true hcb
    subst hci
    split at hj2
    · rename_i v hv
      obtain ⟨C, T, N, hc, hbN, hlink⟩ := hw
      refine x_N2.go hj2 (Nat.le_refl _) (Nat.le_refl _) fun _ _ kk => ?_
      obtain ⟨hown, hts, hK, hbase, w, hS⟩ := id X
      obtain ⟨-, -, -, cs, hP, -⟩ := w
      exact va_get hx hb hts (hC _ C T N hc).1 hown hK hP q (x_cw_get hq) hc b hbN (hts _ hlink) (fun _ h9 => h9) (by rw [List.getElem?_map, hv]; rfl) hd (kk H locs X)
    · cases hj2
  -- putfield
  · cases hlen
    obtain ⟨q, v, r, rfl, hj⟩ := x_av_of hi
    obtain ⟨ci, fs, hq, hj⟩ := x_ob_of hj
    obtain ⟨hcb, hj2⟩ := x_bif hj
    have hcb := Bool.and_eq_true_iff.mp hcb
    have hfb := Bool.and_eq_true_iff.mp hcb.2
    have hci := Nat.eq_of_beq_eq_true hcb.1
    subst hci
    obtain ⟨C, T, N, hc, hbN, hlink, hfin⟩ := hw
    refine x_N2.go hj2 (Nat.le_refl _) (Nat.le_refl _) fun _ _ kk => ?_
    exact x_put hC hx hb hmn X hq hc hbN hlink hfin hfb.1 (by simpa using hfb.2) hd kk
  -- iaload
  · cases hlen
    obtain ⟨q, i, r, rfl, hj⟩ := x_ai_of hi
    cases hb1 : Nat.beq q x_scr with
    | true =>
      rw [hb1] at hj
      have hqs := Nat.eq_of_beq_eq_true hb1
      subst hqs
      dsimp only [cond] at hj
      split at hj
      · rename_i n f
        obtain ⟨hin, hj⟩ := x_in_of hj
        obtain ⟨s1, s2, s3⟩ := hSc.1 n f rfl
        exact x_N2.go hj (Nat.le_refl _) (Nat.le_refl _) fun _ _ kk => va_sld hx hb s1 s2 s3 X.2.2.2.2.2 hin hd (kk H locs X)
      · cases hj
    | false =>
      rw [hb1] at hj
      obtain ⟨n, f, hq, hj⟩ := x_ari_of hj
      obtain ⟨hin, hj⟩ := x_in_of hj
      obtain ⟨cA, hat, ho⟩ := x_cellI X hq
      exact x_N2.go hj (Nat.le_refl _) (Nat.le_refl _) fun _ _ kk => W.iald (v := .int (f i.toNatClampNeg)) hx hb hat (ho.1 n (fun j => .int (f j))) (fun q => by cases q) (x_in_arr hin) (by show (arrV _ _ _).slots[_]? = _; rw [arrV_read _ _ (Nat.not_le.mp fun q => hin (Or.inr q))]) rfl rfl hd (kk H locs X)
  -- iastore
  · cases hlen
    obtain ⟨q, i, x, r, rfl, hj⟩ := x_aii_of hi
    obtain ⟨n, f, hq, hj⟩ := x_ari_of hj
    obtain ⟨hin, hj⟩ := x_in_of hj
    obtain ⟨cA, hat, ho⟩ := x_cellI X hq
    exact x_N2.go hj (Nat.le_refl _) (Nat.le_refl _) fun _ _ kk => W.iast hx hb hat (ho.1 n (fun j => .int (f j))) (fun q => by cases q) (x_in_arr hin) rfl rfl hd fun H1 e1 z1 o1 => kk H1 _ (x_wrI X hq hat e1 z1 o1)
  -- baload
  · cases hlen
    obtain ⟨q, i, r, rfl, hj⟩ := x_ai_of hi
    split at hj
    · rename_i n f hq
      obtain ⟨hin, hj⟩ := x_in_of hj
      obtain ⟨cA, hat, ho⟩ := x_cellI X hq
      exact x_N2.go hj (Nat.le_refl _) (Nat.le_refl _) fun _ _ kk => W.bald (v := .int (f i.toNatClampNeg)) hx hb hat (ho.1 n (fun j => .int (f j))) (fun q => by cases q) (x_in_arr hin) (by show (arrV _ _ _).slots[_]? = _; rw [arrV_read _ _ (Nat.not_le.mp fun q => hin (Or.inr q))]) rfl rfl hd (kk H locs X)
    · rename_i n f hq
      obtain ⟨hin, hj⟩ := x_in_of hj
      obtain ⟨cA, hat, ho⟩ := x_cellI X hq
      exact x_N2.go hj (Nat.le_refl _) (Nat.le_refl _) fun _ _ kk => W.zald (v := .int (f i.toNatClampNeg)) hx hb hat (ho.1 n (fun j => .int (f j))) (fun q => by cases q) (x_in_arr hin) (by show (arrV _ _ _).slots[_]? = _; rw [arrV_read _ _ (Nat.not_le.mp fun q => hin (Or.inr q))]) rfl rfl hd (kk H locs X)
    · cases hj
  -- bastore
  · cases hlen
    obtain ⟨q, i, x, r, rfl, hj⟩ := x_aii_of hi
    split at hj
    · rename_i n f hq
      obtain ⟨hin, hj⟩ := x_in_of hj
      obtain ⟨cA, hat, ho⟩ := x_cellI X hq
      exact x_N2.go hj (Nat.le_refl _) (Nat.le_refl _) fun _ _ kk => W.bast hx hb hat (ho.1 n (fun j => .int (f j))) (fun q => by cases q) (x_in_arr hin) rfl rfl hd fun H1 e1 z1 o1 => kk H1 _ (x_wrI X hq hat e1 z1 o1)
    · rename_i n f hq
      obtain ⟨hin, hj⟩ := x_in_of hj
      obtain ⟨cA, hat, ho⟩ := x_cellI X hq
      exact x_N2.go hj (Nat.le_refl _) (Nat.le_refl _) fun _ _ kk => W.zast hx hb hat (ho.1 n (fun j => .int (f j))) (fun q => by cases q) (x_in_arr hin) rfl rfl hd fun H1 e1 z1 o1 => kk H1 _ (x_wrI X hq hat e1 z1 o1)
    · cases hj
  -- laload
  · cases hlen
    obtain ⟨q, i, r, rfl, hj⟩ := x_ai_of hi
    obtain ⟨n, f, hq, hj⟩ := x_arl_of hj
    obtain ⟨hin, hj⟩ := x_in_of hj
    obtain ⟨cA, hat, ho⟩ := x_cellL X hq
    exact x_N2.go hj (Nat.le_refl _) (Nat.le_refl _) fun _ _ kk => W.lald (v := .long (f i.toNatClampNeg)) hx hb hat (ho.1 n (fun j => .long (f j))) (fun q => by cases q) (x_in_arr hin) (by show (arrV _ _ _).slots[_]? = _; rw [arrV_read _ _ (Nat.not_le.mp fun q => hin (Or.inr q))]) rfl rfl hd (kk H locs X)
  -- lastore
  · cases hlen
    obtain ⟨q, i, x, r, rfl, hj⟩ := x_ail_of hi
    obtain ⟨n, f, hq, hj⟩ := x_arl_of hj
    obtain ⟨hin, hj⟩ := x_in_of hj
    obtain ⟨cA, hat, ho⟩ := x_cellL X hq
    exact x_N2.go hj (Nat.le_refl _) (Nat.le_refl _) fun _ _ kk => W.last hx hb hat (ho.1 n (fun j => .long (f j))) (fun q => by cases q) (x_in_arr hin) rfl rfl hd fun H1 e1 z1 o1 => kk H1 _ (x_wrL X hq hat e1 z1 o1)
  -- aaload
  · cases hlen
    obtain ⟨q, i, r, rfl, hj⟩ := x_ai_of hi
    obtain ⟨t, n, f, hq, hj⟩ := x_arq_of hj
    obtain ⟨ht, hj⟩ := x_bif hj
    obtain ⟨hin, hj⟩ := x_in_of hj
    obtain ⟨cA, hat, ho⟩ := x_cellQ X hq
    obtain ⟨C, hC4⟩ := x_ft4' (Nat.le_of_ble_eq_true ht)
    rw [hC4] at ho
    refine x_N2.go hj (Nat.le_refl _) (Nat.le_refl _) fun _ _ kk => ?_
    have := kk H locs X
    rw [List.map_cons, x_cv_rf] at this
    exact W.aald (v := va_rf ((f i.toNatClampNeg).map ad)) (ty := .object C) hx hb hat (ho.1 n (fun j => va_rf ((f j).map ad))) rfl (fun q => by cases q) (x_in_arr hin) (by show (arrV _ _ _).slots[_]? = _; rw [arrV_read _ _ (Nat.not_le.mp fun q => hin (Or.inr q))]) rfl rfl hd this
  -- aastore
  · cases hlen
    obtain ⟨q, i, x, r, rfl, hj⟩ := x_aiq_of hi
    obtain ⟨t, n, f, hq, hj⟩ := x_arq_of hj
    obtain ⟨ci, fs, hv, hj⟩ := x_ob_of hj
    obtain ⟨ht, hj⟩ := x_bif hj
    have ht := Nat.eq_of_beq_eq_true ht
    subst ht
    obtain ⟨hin, hj⟩ := x_in_of hj
    obtain ⟨cA, hat, ho⟩ := x_cellQ X hq
    refine x_N2.go hj (Nat.le_refl _) (Nat.le_refl _) fun _ _ kk => ?_
    obtain ⟨hown, hts, hK, hbase, w, hS⟩ := id X
    obtain ⟨-, -, -, cs, hP, -⟩ := w
    obtain ⟨rc, hrc, cellV, g1, g2, g3, -⟩ := hP x _ (x_cw_get hv)
    rw [x_ft4 hrc] at ho
    have hcls := (hK.1 ci rc hrc).2
    obtain ⟨kA, comp, k1, k2, k3, -⟩ := ho.2
    have hcomp : comp = D.1 ci := Option.some.inj (k3.symm.trans hcls.1)
    subst hcomp
    obtain ⟨kC, hkC, -⟩ := hcls.2
    refine W.aast hx hb hat (fun q h => by cases h) (fun h => by cases h) k1 k2 rfl hkC ⟨fun q => hin (Or.inl q), by show _ < (arrV _ _ _).slots.size; rw [arrV_size]; exact Nat.not_le.mp fun q => hin (Or.inr q)⟩ g1 (fun q h => by rw [g3] at h; cases h) (by rw [g2]; exact hkC) (by rw [g2]; exact va_assign hcls) rfl rfl hd fun H1 e1 z1 o1 => kk H1 _ (x_wrQ X hq hat e1 z1 o1)
  -- arraylength
  · cases hlen
    obtain ⟨q, r, rfl, hj⟩ := x_a1_of hi
    cases hb1 : Nat.beq q x_scr with
    | true =>
      rw [hb1] at hj
      have hqs := Nat.eq_of_beq_eq_true hb1
      subst hqs
      dsimp only [cond] at hj
      split at hj
      · rename_i n f
        obtain ⟨s1, s2, s3⟩ := hSc.1 n f rfl
        exact x_N2.go hj (Nat.le_refl _) (Nat.le_refl _) fun _ _ kk => va_slen hx hb s1 s2 s3 X.2.2.2.2.2 hd (kk H locs X)
      · cases hj
    | false =>
      rw [hb1] at hj
      obtain ⟨t, n, y, hq, hj⟩ := x_ar_of hj
      refine x_N2.go hj (Nat.le_refl _) (Nat.le_refl _) fun _ _ kk => ?_
      obtain f | f | f | f | f := y
      · obtain ⟨cA, hat, ho⟩ := x_cellI X hq
        exact W.alen (n := Int32.ofNat n) hx hb hat (ho.1 n (fun j => .int (f j))) (by show (arrV _ _ _).slots.size.toInt32 = _; rw [arrV_size]) rfl rfl hd (kk H locs X)
      · obtain ⟨cA, hat, ho⟩ := x_cellL X hq
        exact W.alen (n := Int32.ofNat n) hx hb hat (ho.1 n (fun j => .long (f j))) (by show (arrV _ _ _).slots.size.toInt32 = _; rw [arrV_size]) rfl rfl hd (kk H locs X)
      · obtain ⟨cA, hat, ho⟩ := x_cellF X hq
        exact W.alen (n := Int32.ofNat n) hx hb hat (ho.1 n (fun j => .float (f j))) (by show (arrV _ _ _).slots.size.toInt32 = _; rw [arrV_size]) rfl rfl hd (kk H locs X)
      · obtain ⟨cA, hat, ho⟩ := x_cellD X hq
        exact W.alen (n := Int32.ofNat n) hx hb hat (ho.1 n (fun j => .double (f j))) (by show (arrV _ _ _).slots.size.toInt32 = _; rw [arrV_size]) rfl rfl hd (kk H locs X)
      · obtain ⟨cA, hat, ho⟩ := x_cellQ X hq
        exact W.alen (n := Int32.ofNat n) hx hb hat (ho.1 n (fun j => va_rf ((f j).map ad))) (by show (arrV _ _ _).slots.size.toInt32 = _; rw [arrV_size]) rfl rfl hd (kk H locs X)
  -- newarray
  · cases hlen
    obtain ⟨n, r, rfl, hj⟩ := x_i1_of hi
    split at hj
    · cases hj
    · rename_i hnq
      split at hj
      · exact x_N2.go hj (by omega) (by omega) fun h1 h2 kk => x_newa hx hb X hw hnq (by decide) rfl (fun cA => rfl) hd h1 h2 kk
      · exact x_N2.go hj (by omega) (by omega) fun h1 h2 kk => x_newa hx hb X hw hnq (by decide) rfl (fun cA => rfl) hd h1 h2 kk
      · exact x_N2.go hj (by omega) (by omega) fun h1 h2 kk => x_newa hx hb X hw hnq (by decide) rfl (fun cA => rfl) hd h1 h2 kk
      · exact x_N2.go hj (by omega) (by omega) fun h1 h2 kk => x_newa hx hb X hw hnq (by decide) rfl (fun cA => rfl) hd h1 h2 kk
      · cases hj
  -- anewarray
  · cases hlen
    obtain ⟨n, r, rfl, hj⟩ := x_i1_of hi
    split at hj
    · cases hj
    · rename_i hnq
      obtain ⟨C, T, N, hc, hcl, hov⟩ := hw
      exact x_N2.go hj (by omega) (by omega) fun h1 h2 kk => x_newq hx hb X hc hcl hov hnq hd h1 h2 kk
  -- new
  · cases hlen
    split at hi
    · cases hi
    · rename_i hnq
      obtain ⟨C, T, hc, hcl⟩ := hw
      exact x_N2.go hi (by omega) (by omega) fun h1 h2 kk => x_new hC hx hb X hc hcl hnq hd h1 h2 kk
  · cases hi
end XS4
/-! ===== calls: what a method's world is, and String's own methods on constants ===== -/
def x_Rm (R : Room) (d : Nat) : Prop := d + 5 ≤ R.frames ∧ 37 * (d + 5) ≤ R.locals
def x_room (d k z : Nat) : Room := { frames := d + 5, cells := k, slots := z, locals := 37 * (d + 5) }
def x_Pv (base : Nat) (ad : Nat → Nat) (D : va_G) (av : List Value) (h : xH) : Array Value → State → Prop := va_Pc av (fun U => x_W ad base D h U U.heap ∧ va_K D vwCl [] U ∧ x_St U base ad)
def x_Pc (base : Nat) (ad : Nat → Nat) (D : va_G) (vs : List Value) (h : xH) : Array Value → State → Prop := x_Pv base ad D (vs.map (x_cv ad)) h
def x_Qc (base : Nat) (ad : Nat → Nat) (D : va_G) (v : Option Value) (h' : xH) : Array Value → State → Outcome → State → Prop := fun _ st oc t => oc = .returned (v.map (x_cv ad)) ∧ x_W ad base D h' t t.heap ∧ va_F (fun q => base ≤ q) st t
theorem x_Pv_blind {base : Nat} {ad : Nat → Nat} {D : va_G} {av : List Value} {h : xH} : FrameBlind (x_Pv base ad D av h) := by
  intro a U g mk q
  exact ⟨q.1, x_W.moved (u := U) (U := U.calling g mk a) (Vm.Alike.refl U.vm) q.2.1, va_K.moved (u := U) (U := U.calling g mk a) (Vm.Alike.refl U.vm) q.2.2.1, x_St.same (U := U.calling g mk a) rfl rfl q.2.2.2⟩
theorem x_Pc_blind {base : Nat} {ad : Nat → Nat} {D : va_G} {vs : List Value} {h : xH} : FrameBlind (x_Pc base ad D vs h) := x_Pv_blind
section XS6a
variable {p : Program} {l : Launch} {e : Env} {R : Room} {s : State} {m : MethodId} {args : Array Value} {below : List Frame} {meth : Method} {c : Code} {H : Heap} {locs : List Loc} {cells slots : Nat} {Q : State → Prop}
variable {cc : ByteArray} {pc : Nat} {ls : Array Slot} {own : String} {y : MethodName} {ad : Nat → Nat} {nL : Nat} {L : xL} {st rest : List Value} {h : xH} {k z : Nat} {ins : Instr} {len a b base d : Nat} {D : va_G}
/-- behind a call -/
theorem x_cont (X : x_At s m args own D base ad h H locs) {v : Option Value} {h2 : xH} {mc ms : Nat} {a0 : Array Value} {st0 rest0 : List Value} (hr : va_Run p l e R s m args below meth c H locs k z mc ms (F0 m pc ls st0) rest0 (x_Qc base ad D v h2 a0) (fun q => base ≤ q))
    (kk : ∀ (H1 : Heap) (locs1 : List Loc), x_At s m args own D base ad h2 H1 locs1 → W p l e R s m args below meth c H1 locs1 (k + mc) (z + ms) Q (F0 m (pc + 3) ls ((v.map (x_cv ad)).toList ++ rest0))) : W p l e R s m args below meth c H locs k z Q (F0 m pc ls st0) := by
  obtain ⟨hown, hts, hK, hbase, w, hS⟩ := X
  intro T hT X
  obtain ⟨v', st₀, t, T', LL, h0, X', hL, e1, e2, ⟨hv, hw, hz, hk⟩, stp⟩ := hr T hT X
  have hv' : v' = v.map (x_cv ad) := Outcome.returned.inj hv
  subst hv'
  rw [h0] at hz hk
  have hal : s.vm.Alike t.vm := by rw [← e2]; exact X'.warmed.alike
  obtain ⟨t2, a1, b1⟩ := kk T'.heap (locs ++ LL) ⟨hown, hts, hK, hbase, by rw [e1]; exact x_W.moved hal.symm hw, ⟨Nat.le_trans hS.1 (by rw [e1]; exact hz), fun q h1 h2 => by rw [e1, hk q (Nat.lt_of_lt_of_le h1 hS.1) h2]; exact hS.2.1 q h1 h2, fun q hq => by
      rcases List.mem_append.mp hq with h | h
      · exact hS.2.2 q h
      · exact hL q h⟩⟩ T' rfl X'
  exact ⟨t2, stp t2 a1, b1⟩
/-- a contract out of a walk, where no row of the machine's own stands for the method (whatever its class) -/
theorem x_ofW {ws ws' : List Cond} {rm : Room} {Pc : Array Value → State → Prop} {Qc : Array Value → State → Outcome → State → Prop} {mc ms : Nat} {free : Addr → Prop} {maxL : Nat} {ret : Option FieldType} (hy : plainFor y = true) (hw : ws = Cond.code y cc maxL ret :: ws')
    (walk : ∀ (p : Program) (e : Env) (s : State) (m : MethodId) (args : Array Value) (below : List Frame) (meth : Method) (c : Code) (s₁ : State), BodyLoose p l y (headSpec ws rm) cc maxL ret e s m args below meth c s₁ → c.maxLocals = maxL → Pc args s → W p l e (headSpec ws rm).room s m args below meth c s.heap [] 0 0 (MQ below Qc args s mc ms free) (entryFrame m args maxL)) : Met l y ws rm Pc Qc mc ms free := by
  refine MetFree.of_bodySF (code := cc) (maxLocals := maxL) (ret := ret) hy (fun args s m h hn => ?_) (fun p e s m args below meth c s₁ B hml hP _ => ?_)
  · have hin : Cond.code y cc maxL ret ∈ ws := by rw [hw]; exact List.mem_cons_self
    obtain ⟨meth, c, q1, q2, q3, q4, q5, q6, -⟩ := Cond.code_spec hn (atoms_spec (ws := ws) h _ hin)
    exact ⟨meth, c, q1, q2, q3, q4, q5, q6⟩
  · have heq : s₁.heap = s.heap := by rw [B.state]; rfl
    obtain ⟨t, a1, o, b1, b2, b3⟩ := walk p e s m args below meth c s₁ B hml hP s₁ heq (Stand.of_body B)
    exact ⟨t, o, a1, b1, b2, b3.1, b3.2⟩
theorem x_jG {bytes : ByteArray} {maxL : Nat} {ret : Option FieldType} (hM : Cond.code y bytes maxL ret ∈ x_bw) : GoodIn x_bw (Cond.code y bytes maxL ret :: x_bw) := by
  intro w hw
  have h : w ∈ x_bw := by
    rcases List.mem_cons.mp hw with rfl | h
    · exact hM
    · exact h
  exact ⟨h, good_of_word (x_bw_good w h)⟩
def x_jr (f : Nat) : Room := { frames := f, cells := 0, slots := 0, locals := 37 * f }
theorem x_jpre {av : List Value} (X : x_At s m args own D base ad h H locs) (hT : x_St s base ad) : ∀ U : State, U.heap = H → s.WarmedH U.vm → x_Pv base ad D av h av.toArray U := by
  obtain ⟨hown, hts, hK, hbase, w, hS⟩ := X
  exact fun U hU hW => ⟨rfl, by rw [hU]; exact x_W.moved hW.alike w, va_K.moved hW.alike hK, hT.next hU hW hS⟩
/-- a call of a static method of the JDK -/
theorem x_jcS {i n f maxL : Nat} {bytes : ByteArray} {ret : Option FieldType} {av : List Value} {v : Option Value} (X : x_At s m args own D base ad h H locs) (hT : x_St s base ad) (hx : p.tables.exec = Jvm.exec) (hb : c.code = cc) (hml : c.maxLocals = nL) (hsz : ls.size = nL)
    (met : Met l y (Cond.code y bytes maxL ret :: x_bw) (x_jr f) (x_Pv base ad D av h) (x_Qc base ad D v h) 0 0 (fun q => base ≤ q)) (hcode : Cond.code y bytes maxL ret ∈ x_bw) (hini : Cond.initialized y.cls ∈ x_bw) (hlink : Cond.methodLink own i y ∈ x_bw) (hstat : Cond.static y ∈ x_bw)
    (hd3 : y.cls ≠ "java/lang/invoke/MethodHandle" ∧ y.cls ≠ "java/lang/invoke/VarHandle" ∧ (parseMethodDescriptor y.desc).map (fun d => d.parameters.length) = some n) (hroom : f + 1 ≤ R.frames ∧ 8 + (maxL + 11) + 37 * f ≤ R.locals) (hcells : k ≤ R.cells ∧ z ≤ R.slots) (hn : av.length = n) (h8 : (rest.map fun v => v.category).sum ≤ 8) (hdi : decode cc pc = .ok (.invokestatic i, 3))
    (kk : ∀ (H1 : Heap) (locs1 : List Loc), x_At s m args own D base ad h H1 locs1 → W p l e R s m args below meth c H1 locs1 k z Q (F0 m (pc + 3) ls ((v.map (x_cv ad)).toList ++ rest))) : W p l e R s m args below meth c H locs k z Q (F0 m pc ls (av.reverse ++ rest)) := by
  have hts := X.2.1
  have cb := callB_of (R := R) (s := s) (args := args) (own := own) (index := i) (y := y) (bytes := bytes) (maxL := maxL) (ret := ret) (ws := Cond.code y bytes maxL ret :: x_bw) (rm := x_jr f) (mc := 0) (ms := 0) n hts (x_jG hcode) rfl rfl rfl (hts _ hini) (hts _ hlink) hd3 hroom
  exact x_cont X (va_runS (As := av) (rest := rest) ⟨hx, hb, hml, X.1, hts⟩ met ⟨cb, hts _ hstat⟩ ⟨x_Pv_blind, x_jpre X hT⟩ rfl hn hsz rfl (lv_room h8) hdi hcells) kk
/-- a call of a method of String on a constant -/
theorem x_jcV {i n f maxL q : Nat} {bytes : ByteArray} {ret : Option FieldType} {av : List Value} {v : Option Value} (X : x_At s m args own D base ad h H locs) (hT : x_St s base ad) (hx : p.tables.exec = Jvm.exec) (hb : c.code = cc) (hml : c.maxLocals = nL) (hsz : ls.size = nL) (hq : ∃ cell : Cell, H[q]? = some cell ∧ cell.vm.isStatics = false ∧ s.vm.findClass y.cls = some cell.cls)
    (met : Met l y (Cond.code y bytes maxL ret :: x_bw) (x_jr f) (x_Pv base ad D (.ref q :: av) h) (x_Qc base ad D v h) 0 0 (fun q => base ≤ q)) (hcode : Cond.code y bytes maxL ret ∈ x_bw) (hini : Cond.initialized y.cls ∈ x_bw) (hlink : Cond.methodLink own i y ∈ x_bw) (hinst : Cond.instanceMethod y ∈ x_bw) (hsel : Cond.selects y.cls y y ∈ x_bw)
    (hd3 : y.cls ≠ "java/lang/invoke/MethodHandle" ∧ y.cls ≠ "java/lang/invoke/VarHandle" ∧ (parseMethodDescriptor y.desc).map (fun d => d.parameters.length) = some n) (hroom : f + 1 ≤ R.frames ∧ 8 + (maxL + 11) + 37 * f ≤ R.locals) (hcells : k ≤ R.cells ∧ z ≤ R.slots) (hn : av.length = n) (h8 : (rest.map fun v => v.category).sum ≤ 8) (hdi : decode cc pc = .ok (.invokevirtual i, 3))
    (kk : ∀ (H1 : Heap) (locs1 : List Loc), x_At s m args own D base ad h H1 locs1 → W p l e R s m args below meth c H1 locs1 k z Q (F0 m (pc + 3) ls ((v.map (x_cv ad)).toList ++ rest))) : W p l e R s m args below meth c H locs k z Q (F0 m pc ls (av.reverse ++ .ref q :: rest)) := by
  have hts := X.2.1
  have cb := callB_of (R := R) (s := s) (args := args) (own := own) (index := i) (y := y) (bytes := bytes) (maxL := maxL) (ret := ret) (ws := Cond.code y bytes maxL ret :: x_bw) (rm := x_jr f) (mc := 0) (ms := 0) n hts (x_jG hcode) rfl rfl rfl (hts _ hini) (hts _ hlink) hd3 hroom
  exact x_cont X (va_runV (As := av) (rest := rest) ⟨hx, hb, hml, X.1, hts⟩ met ⟨cb, hts _ hinst, hts _ hsel⟩ ⟨x_Pv_blind, hq, x_jpre X hT⟩ rfl hn hsz rfl (lv_room h8) hdi hcells) kk
/-- the beginning of a method of the JDK -/
theorem x_jb {f maxL : Nat} {bytes : ByteArray} {ret : Option FieldType} {av : List Value} {v : Option Value} (hy : plainFor y = true) (hcat : (lg_sl av).length ≤ maxL)
    (walk : ∀ (p : Program) (e : Env) (s : State) (m : MethodId) (args : Array Value) (below : List Frame) (meth : Method) (c : Code) (ls : Array Slot), p.tables.exec = Jvm.exec → c.code = bytes → c.maxLocals = maxL → meth.sig.returnType = ret → meth.locks = false → x_At s m args y.cls D base ad h s.heap [] → x_St s base ad → lv_has ls maxL (lv_args 0 av) → W p l e (x_jr f) s m args below meth c s.heap [] 0 0 (MQ below (x_Qc base ad D v h) args s 0 0 (fun q => base ≤ q)) (F0 m 0 ls [])) : Met l y (Cond.code y bytes maxL ret :: x_bw) (x_jr f) (x_Pv base ad D av h) (x_Qc base ad D v h) 0 0 (fun q => base ≤ q) := by
  refine x_ofW hy rfl ?_
  intro p e s m args below meth c s₁ B hml hv
  obtain ⟨rfl, hW, hK, hT⟩ := hv
  have hts := atoms_spec (ws := Cond.code y bytes maxL ret :: x_bw) B.pre
  have hl := lv_entry av (n := maxL) hcat
  rw [lg_entry_eq]
  generalize (lg_sl av ++ List.replicate (maxL - (lg_sl av).length) Slot.unset).toArray = ls at hl ⊢
  have hbase : base ≤ s.heap.size := by have := hW.2.2.1; omega
  exact walk p e s m _ below meth c ls B.exec B.bytes hml B.returns B.notSynchronized ⟨findClass_of_methodNamed B.named, fun w hw => hts w (List.mem_cons_of_mem _ hw), hK, hbase, hW, va_S.rf⟩ hT hl
theorem x_jfin {v : Option Value} (X : x_At s m args own D base ad h H locs) : ∀ t : State, t.heap = H → s.WarmedH t.vm → x_Qc base ad D v h args s (.returned (v.map (x_cv ad))) t := by
  obtain ⟨hown, hts, hK, hbase, w, hS⟩ := X
  exact fun t ht hW => ⟨rfl, by rw [ht]; exact x_W.moved hW.alike w, hS.F ht⟩
def x_jl : List Cond := [
  .code yJ0_coder_7d493 cJ0_coder_7d493 1 (some .byte), .instanceMethod yJ0_coder_7d493, .selects RJ0 yJ0_coder_7d493 yJ0_coder_7d493, .methodLink RJ0 335 yJ0_coder_7d493,
  .code yJ0_isLatin1_aae02 cJ0_isLatin1_aae02 1 (some .boolean), .instanceMethod yJ0_isLatin1_aae02, .selects RJ0 yJ0_isLatin1_aae02 yJ0_isLatin1_aae02, .methodLink RJ0 492 yJ0_isLatin1_aae02,
  .code yJ0_length_8abf5 cJ0_length_8abf5 1 (some .int), .instanceMethod yJ0_length_8abf5, .selects RJ0 yJ0_length_8abf5 yJ0_length_8abf5,
  .code yJ0_charAt_5068e cJ0_charAt_5068e 2 (some .char), .instanceMethod yJ0_charAt_5068e, .selects RJ0 yJ0_charAt_5068e yJ0_charAt_5068e,
  .code yJ0_checkIndex_df160 cJ0_checkIndex_df160 2 none, .static yJ0_checkIndex_df160, .methodLink RJ1 9 yJ0_checkIndex_df160,
  .code yJ1_charAt_3b067 cJ1_charAt_3b067 2 (some .char), .static yJ1_charAt_3b067, .methodLink RJ0 495 yJ1_charAt_3b067,
  .code yJ3_checkIndex_8e157 cJ3_checkIndex_8e157 3 (some .int), .static yJ3_checkIndex_8e157, .methodLink RJ0 1059 yJ3_checkIndex_8e157,
  .initialized RJ0, .initialized RJ1, .initialized RJ3,
  .fieldLink RJ0 9 "java/lang/String" "value" "[B", .fieldLink RJ0 15 "java/lang/String" "coder" "B", .fieldLink RJ0 38 "java/lang/String" "COMPACT_STRINGS" "Z", .fieldLink RJ0 1053 "jdk/internal/util/Preconditions" "SIOOBE_FORMATTER" "Ljava/util/function/BiFunction;"]
def x_JW : Prop := ∀ w ∈ x_jl, w ∈ x_bw
theorem x_jw (hJ : x_JW) {w : Cond} (j : Nat) (e : x_jl[j]? = some w) : w ∈ x_bw := hJ w (List.mem_of_getElem? e)
theorem x_jmem {l : List Int32} {k : Nat} (h : k < l.length) : l.getD k 0 ∈ l := by
  rw [List.getD_eq_getElem?_getD, List.getElem?_eq_getElem h]
  exact List.getElem_mem h
theorem x_jsh : ∀ j : Nat, j < x_sbyt.length → (Int32.ofNat (x_sbyt.getD j []).length) >>> ((0 : Int32) &&& 31) = Int32.ofNat (x_sbyt.getD j []).length := by decide +kernel
theorem x_jlen : ∀ j : Nat, j < x_sbyt.length → (x_sbyt.getD j []).length < 2 ^ 31 := by decide +kernel
theorem x_jch : ∀ j : Nat, j < x_sbyt.length → ∀ b ∈ x_sbyt.getD j [], ((b &&& (255 : Int32)).toUInt32 % 65536).toInt32 = b ∧ narrow .char (.int b) = .int b := by decide +kernel
set_option maxHeartbeats 4000000 in
theorem x_jcoder (hJ : x_JW) {j : Nat} (hj : j < x_sbyt.length) : Met l yJ0_coder_7d493 (Cond.code yJ0_coder_7d493 cJ0_coder_7d493 1 (some .byte) :: x_bw) (x_jr 0) (x_Pv base ad D [.ref (ad (x_str + j))] h) (x_Qc base ad D (some (.int 0)) h) 0 0 (fun q => base ≤ q) := by
  refine x_jb (by decide +kernel) (Nat.le_of_ble_eq_true rfl) ?_
  intro p e s m args below meth c ls hx hb hml hr hlk X hT hl
  obtain ⟨hown, hts, hK, hbase, w, hS⟩ := id X
  obtain ⟨hV, hZ, hq, -⟩ := id hT
  obtain ⟨o1, o2, o3, o4⟩ := hV j hj
  refine va_gets hx hb hZ hS hown (hts _ (x_jw hJ 28 rfl)) (fun _ h => h) (show decode cJ0_coder_7d493 0 = .ok (.getstatic 38, 3) by decide +kernel) ?_
  refine lv_if_eq hx hb (tgt := 13) (show decode cJ0_coder_7d493 3 = .ok (.ifCond .eq 10, 3) by decide +kernel) rfl (fun h => absurd h (by decide)) (fun _ => ?_)
  refine lv_aload_n hx hb (show decode cJ0_coder_7d493 6 = .ok (.aload_n 0, 1) by decide +kernel) rfl (lv_at hl 0 rfl) ?_
  refine vk_getf hx hb o2 hS hown (hts _ (x_jw hJ 27 rfl)) (fun _ h => h) (show decode cJ0_coder_7d493 7 = .ok (.getfield 15, 3) by decide +kernel) ?_
  refine lv_goto hx hb (tgt := 14) (show decode cJ0_coder_7d493 10 = .ok (.goto 4, 3) by decide +kernel) rfl ?_
  exact W.zret hx hb hr (ty := .byte) (by decide) (x_jfin (v := some (.int 0)) X) hS.2.2 (show decode cJ0_coder_7d493 14 = .ok (.ireturn, 1) by decide +kernel) hlk
set_option maxHeartbeats 4000000 in
theorem x_jlatin (hJ : x_JW) {j : Nat} (hj : j < x_sbyt.length) : Met l yJ0_isLatin1_aae02 (Cond.code yJ0_isLatin1_aae02 cJ0_isLatin1_aae02 1 (some .boolean) :: x_bw) (x_jr 0) (x_Pv base ad D [.ref (ad (x_str + j))] h) (x_Qc base ad D (some (.int 1)) h) 0 0 (fun q => base ≤ q) := by
  refine x_jb (by decide +kernel) (Nat.le_of_ble_eq_true rfl) ?_
  intro p e s m args below meth c ls hx hb hml hr hlk X hT hl
  obtain ⟨hown, hts, hK, hbase, w, hS⟩ := id X
  obtain ⟨hV, hZ, hq, -⟩ := id hT
  obtain ⟨o1, o2, o3, o4⟩ := hV j hj
  refine va_gets hx hb hZ hS hown (hts _ (x_jw hJ 28 rfl)) (fun _ h => h) (show decode cJ0_isLatin1_aae02 0 = .ok (.getstatic 38, 3) by decide +kernel) ?_
  refine lv_if_eq hx hb (tgt := 17) (show decode cJ0_isLatin1_aae02 3 = .ok (.ifCond .eq 14, 3) by decide +kernel) rfl (fun h => absurd h (by decide)) (fun _ => ?_)
  refine lv_aload_n hx hb (show decode cJ0_isLatin1_aae02 6 = .ok (.aload_n 0, 1) by decide +kernel) rfl (lv_at hl 0 rfl) ?_
  refine vk_getf hx hb o2 hS hown (hts _ (x_jw hJ 27 rfl)) (fun _ h => h) (show decode cJ0_isLatin1_aae02 7 = .ok (.getfield 15, 3) by decide +kernel) ?_
  refine lv_if_ne hx hb (tgt := 17) (show decode cJ0_isLatin1_aae02 10 = .ok (.ifCond .ne 7, 3) by decide +kernel) rfl (fun h => absurd rfl h) (fun _ => ?_)
  refine lv_iconst (v := 1) hx hb (show decode cJ0_isLatin1_aae02 13 = .ok (.iconst 1, 1) by decide +kernel) (by decide) ?_
  refine lv_goto hx hb (tgt := 18) (show decode cJ0_isLatin1_aae02 14 = .ok (.goto 4, 3) by decide +kernel) rfl ?_
  exact W.zret hx hb hr (ty := .boolean) (by decide) (x_jfin (v := some (.int 1)) X) hS.2.2 (show decode cJ0_isLatin1_aae02 18 = .ok (.ireturn, 1) by decide +kernel) hlk
theorem x_jrecv (X : x_At s m args own D base ad h H locs) (hT : x_St s base ad) {j : Nat} (hj : j < x_sbyt.length) : ∃ cell : Cell, H[ad (x_str + j)]? = some cell ∧ cell.vm.isStatics = false ∧ s.vm.findClass "java/lang/String" = some cell.cls := by
  obtain ⟨cell, h1, h2, h3, -⟩ := (hT.1 j hj).1.kept X.2.2.2.2.2.2.1
  exact ⟨cell, h1, h2, h3⟩
set_option maxHeartbeats 4000000 in
theorem x_jlength (hJ : x_JW) {j : Nat} (hj : j < x_sbyt.length) : Met l yJ0_length_8abf5 (Cond.code yJ0_length_8abf5 cJ0_length_8abf5 1 (some .int) :: x_bw) (x_jr 1) (x_Pv base ad D [.ref (ad (x_str + j))] h) (x_Qc base ad D (some (.int (Int32.ofNat (x_sbyt.getD j []).length))) h) 0 0 (fun q => base ≤ q) := by
  refine x_jb (by decide +kernel) (Nat.le_of_ble_eq_true rfl) ?_
  intro p e s m args below meth c ls hx hb hml hr hlk X hT hl
  obtain ⟨hown, hts, hK, hbase, w, hS⟩ := id X
  obtain ⟨hV, hZ, hq, -⟩ := id hT
  obtain ⟨o1, o2, o3, o4⟩ := hV j hj
  refine lv_aload_n hx hb (show decode cJ0_length_8abf5 0 = .ok (.aload_n 0, 1) by decide +kernel) rfl (lv_at hl 0 rfl) ?_
  refine vk_getf hx hb o3 hS hown (hts _ (x_jw hJ 26 rfl)) (fun _ h => h) (show decode cJ0_length_8abf5 1 = .ok (.getfield 9, 3) by decide +kernel) ?_
  refine va_tlen hx hb o4 hS (v := Int32.ofNat (x_sbyt.getD j []).length) rfl (show decode cJ0_length_8abf5 4 = .ok (.arraylength, 1) by decide +kernel) ?_
  refine lv_aload_n hx hb (show decode cJ0_length_8abf5 5 = .ok (.aload_n 0, 1) by decide +kernel) rfl (lv_at hl 0 rfl) ?_
  refine x_jcV (n := 0) (i := 335) (y := yJ0_coder_7d493) (av := []) (v := some (.int 0)) X hT hx hb hml hl.1 (x_jrecv X hT hj) (x_jcoder hJ hj) (x_jw hJ 0 rfl) (x_jw hJ 23 rfl) (x_jw hJ 3 rfl) (x_jw hJ 1 rfl) (x_jw hJ 2 rfl) ⟨by decide +kernel, by decide +kernel, by decide +kernel⟩ ⟨Nat.le_refl _, by decide⟩ ⟨Nat.le_refl _, Nat.le_refl _⟩ rfl (by show 1 ≤ 8; decide) (show decode cJ0_length_8abf5 6 = .ok (.invokevirtual 335, 3) by decide +kernel) (fun H1 locs1 X1 => ?_)
  refine lv_ishr hx hb (x := Int32.ofNat (x_sbyt.getD j []).length) (y := 0) (show decode cJ0_length_8abf5 9 = .ok (.ishr, 1) by decide +kernel) ?_
  rw [x_jsh j hj]
  exact W.iret hx hb hr (x_jfin (v := some (.int (Int32.ofNat (x_sbyt.getD j []).length))) X1) X1.2.2.2.2.2.2.2 (show decode cJ0_length_8abf5 10 = .ok (.ireturn, 1) by decide +kernel) hlk
set_option maxHeartbeats 4000000 in
theorem x_jpcheck (hJ : x_JW) {i n : Int32} (h0 : ¬ i < 0) (hn : i < n) {u : Value} (hu : u.category = 1) : Met l yJ3_checkIndex_8e157 (Cond.code yJ3_checkIndex_8e157 cJ3_checkIndex_8e157 3 (some .int) :: x_bw) (x_jr 0) (x_Pv base ad D [.int i, .int n, u] h) (x_Qc base ad D (some (.int i)) h) 0 0 (fun q => base ≤ q) := by
  refine x_jb (by decide +kernel) (by simp [lg_sl, hu, show ∀ q : Int32, (Value.int q).category = 1 from fun _ => rfl]) ?_
  intro p e s m args below meth c ls hx hb hml hr hlk X hT hl
  obtain ⟨hown, hts, hK, hbase, w, hS⟩ := id X
  have l0 : ls[0]? = some (.val (.int i)) := lv_at hl 0 rfl
  have l1 : ls[1]? = some (.val (.int n)) := lv_at hl 1 rfl
  refine lv_iload_n hx hb (show decode cJ3_checkIndex_8e157 0 = .ok (.iload_n 0, 1) by decide +kernel) rfl l0 ?_
  refine lv_if_lt hx hb (tgt := 9) (show decode cJ3_checkIndex_8e157 1 = .ok (.ifCond .lt 8, 3) by decide +kernel) rfl (fun h => absurd h h0) (fun _ => ?_)
  refine lv_iload_n hx hb (show decode cJ3_checkIndex_8e157 4 = .ok (.iload_n 0, 1) by decide +kernel) rfl l0 ?_
  refine lv_iload_n hx hb (show decode cJ3_checkIndex_8e157 5 = .ok (.iload_n 1, 1) by decide +kernel) rfl l1 ?_
  refine lv_icmp_lt hx hb (tgt := 16) (show decode cJ3_checkIndex_8e157 6 = .ok (.if_icmp .lt 10, 3) by decide +kernel) rfl (fun _ => ?_) (fun h => absurd hn h)
  refine lv_iload_n hx hb (show decode cJ3_checkIndex_8e157 16 = .ok (.iload_n 0, 1) by decide +kernel) rfl l0 ?_
  exact W.iret hx hb hr (x_jfin (v := some (.int i)) X) hS.2.2 (show decode cJ3_checkIndex_8e157 17 = .ok (.ireturn, 1) by decide +kernel) hlk
set_option maxHeartbeats 4000000 in
theorem x_jscheck (hJ : x_JW) {i n : Int32} (h0 : ¬ i < 0) (hn : i < n) : Met l yJ0_checkIndex_df160 (Cond.code yJ0_checkIndex_df160 cJ0_checkIndex_df160 2 none :: x_bw) (x_jr 1) (x_Pv base ad D [.int i, .int n] h) (x_Qc base ad D none h) 0 0 (fun q => base ≤ q) := by
  refine x_jb (by decide +kernel) (Nat.le_of_ble_eq_true rfl) ?_
  intro p e s m args below meth c ls hx hb hml hr hlk X hT hl
  obtain ⟨hown, hts, hK, hbase, w, hS⟩ := id X
  obtain ⟨hV, hZ, hq, -⟩ := id hT
  refine lv_iload_n hx hb (show decode cJ0_checkIndex_df160 0 = .ok (.iload_n 0, 1) by decide +kernel) rfl (lv_at hl 0 rfl) ?_
  refine lv_iload_n hx hb (show decode cJ0_checkIndex_df160 1 = .ok (.iload_n 1, 1) by decide +kernel) rfl (lv_at hl 1 rfl) ?_
  have go : ∀ u : Value, u.category = 1 → W p l e (x_jr 1) s m args below meth c s.heap [] 0 0 (MQ below (x_Qc base ad D none h) args s 0 0 (fun q => base ≤ q)) (F0 m 5 ls [u, .int n, .int i]) := by
    intro u hu
    refine x_jcS (n := 3) (i := 1059) (y := yJ3_checkIndex_8e157) (av := [.int i, .int n, u]) (rest := []) (v := some (.int i)) X hT hx hb hml hl.1 (x_jpcheck hJ h0 hn hu) (x_jw hJ 20 rfl) (x_jw hJ 25 rfl) (x_jw hJ 22 rfl) (x_jw hJ 21 rfl) ⟨by decide +kernel, by decide +kernel, by decide +kernel⟩ ⟨Nat.le_refl _, by decide⟩ ⟨Nat.le_refl _, Nat.le_refl _⟩ rfl (by decide) (show decode cJ0_checkIndex_df160 5 = .ok (.invokestatic 1059, 3) by decide +kernel) (fun H1 locs1 X1 => ?_)
    refine lv_pop hx hb (va := .int i) (show decode cJ0_checkIndex_df160 8 = .ok (.pop, 1) by decide +kernel) rfl ?_
    exact W.vret hx hb hr (x_jfin (v := none) X1) X1.2.2.2.2.2.2.2 (show decode cJ0_checkIndex_df160 9 = .ok (.return_, 1) by decide +kernel) hlk
  rcases hq with hz | ⟨t, hz⟩
  · exact va_gets hx hb hz hS hown (hts _ (x_jw hJ 29 rfl)) (fun _ h => h) (show decode cJ0_checkIndex_df160 2 = .ok (.getstatic 1053, 3) by decide +kernel) (go _ rfl)
  · exact va_gets hx hb hz hS hown (hts _ (x_jw hJ 29 rfl)) (fun _ h => h) (show decode cJ0_checkIndex_df160 2 = .ok (.getstatic 1053, 3) by decide +kernel) (go _ rfl)
set_option maxHeartbeats 4000000 in
theorem x_jlchar (hJ : x_JW) {j : Nat} (hj : j < x_sbyt.length) {i : Int32} (hi : vp_in i (x_sbyt.getD j []).length) : Met l yJ1_charAt_3b067 (Cond.code yJ1_charAt_3b067 cJ1_charAt_3b067 2 (some .char) :: x_bw) (x_jr 2) (x_Pv base ad D [.ref (ad (x_val + j)), .int i] h) (x_Qc base ad D (some (.int ((x_sbyt.getD j []).getD i.toNatClampNeg 0))) h) 0 0 (fun q => base ≤ q) := by
  refine x_jb (by decide +kernel) (Nat.le_of_ble_eq_true rfl) ?_
  intro p e s m args below meth c ls hx hb hml hr hlk X hT hl
  obtain ⟨hown, hts, hK, hbase, w, hS⟩ := id X
  obtain ⟨hV, hZ, hq, -⟩ := id hT
  obtain ⟨o1, o2, o3, o4⟩ := hV j hj
  have hlen := x_jlen j hj
  obtain ⟨q, hq1, hq2⟩ := vp_in_of hi hlen
  have h0 : ¬ i < 0 := fun z => hi (Or.inl z)
  have hlt : i < Int32.ofNat (x_sbyt.getD j []).length := by rw [hq2]; exact nI_lt hq1 hlen
  refine lv_iload_n hx hb (show decode cJ1_charAt_3b067 0 = .ok (.iload_n 1, 1) by decide +kernel) rfl (lv_at hl 1 rfl) ?_
  refine lv_aload_n hx hb (show decode cJ1_charAt_3b067 1 = .ok (.aload_n 0, 1) by decide +kernel) rfl (lv_at hl 0 rfl) ?_
  refine va_tlen hx hb o4 hS (v := Int32.ofNat (x_sbyt.getD j []).length) rfl (show decode cJ1_charAt_3b067 2 = .ok (.arraylength, 1) by decide +kernel) ?_
  refine x_jcS (n := 2) (i := 9) (y := yJ0_checkIndex_df160) (av := [.int i, .int (Int32.ofNat (x_sbyt.getD j []).length)]) (rest := []) (v := none) X hT hx hb hml hl.1 (x_jscheck hJ h0 hlt) (x_jw hJ 14 rfl) (x_jw hJ 23 rfl) (x_jw hJ 16 rfl) (x_jw hJ 15 rfl) ⟨by decide +kernel, by decide +kernel, by decide +kernel⟩ ⟨Nat.le_refl _, by decide⟩ ⟨Nat.le_refl _, Nat.le_refl _⟩ rfl (by decide) (show decode cJ1_charAt_3b067 3 = .ok (.invokestatic 9, 3) by decide +kernel) (fun H1 locs1 X1 => ?_)
  have hS1 := X1.2.2.2.2.2
  refine lv_aload_n hx hb (show decode cJ1_charAt_3b067 6 = .ok (.aload_n 0, 1) by decide +kernel) rfl (lv_at hl 0 rfl) ?_
  refine lv_iload_n hx hb (show decode cJ1_charAt_3b067 7 = .ok (.iload_n 1, 1) by decide +kernel) rfl (lv_at hl 1 rfl) ?_
  refine va_tb hx hb o4 hS1 hi (v := .int ((x_sbyt.getD j []).getD i.toNatClampNeg 0)) rfl (show decode cJ1_charAt_3b067 8 = .ok (.baload, 1) by decide +kernel) ?_
  refine lv_sipush (v := 255) hx hb (show decode cJ1_charAt_3b067 9 = .ok (.sipush 255, 3) by decide +kernel) (by decide) ?_
  refine lv_iand hx hb (show decode cJ1_charAt_3b067 12 = .ok (.iand, 1) by decide +kernel) ?_
  have hmem : (x_sbyt.getD j []).getD i.toNatClampNeg 0 ∈ x_sbyt.getD j [] := by
    have hz : i.toNatClampNeg < (x_sbyt.getD j []).length := by rw [hq2, nI_clamp (by omega)]; exact hq1
    exact x_jmem hz
  obtain ⟨g1, g2⟩ := x_jch j hj _ hmem
  refine lv_i2c hx hb (v := (x_sbyt.getD j []).getD i.toNatClampNeg 0) (show decode cJ1_charAt_3b067 13 = .ok (.i2c, 1) by decide +kernel) g1 ?_
  exact W.zret hx hb hr (ty := .char) g2 (x_jfin (v := some (.int ((x_sbyt.getD j []).getD i.toNatClampNeg 0))) X1) hS1.2.2 (show decode cJ1_charAt_3b067 14 = .ok (.ireturn, 1) by decide +kernel) hlk
set_option maxHeartbeats 4000000 in
theorem x_jcharAt (hJ : x_JW) {j : Nat} (hj : j < x_sbyt.length) {i : Int32} (hi : vp_in i (x_sbyt.getD j []).length) : Met l yJ0_charAt_5068e (Cond.code yJ0_charAt_5068e cJ0_charAt_5068e 2 (some .char) :: x_bw) (x_jr 3) (x_Pv base ad D [.ref (ad (x_str + j)), .int i] h) (x_Qc base ad D (some (.int ((x_sbyt.getD j []).getD i.toNatClampNeg 0))) h) 0 0 (fun q => base ≤ q) := by
  refine x_jb (by decide +kernel) (Nat.le_of_ble_eq_true rfl) ?_
  intro p e s m args below meth c ls hx hb hml hr hlk X hT hl
  obtain ⟨hown, hts, hK, hbase, w, hS⟩ := id X
  obtain ⟨hV, hZ, hq, -⟩ := id hT
  obtain ⟨o1, o2, o3, o4⟩ := hV j hj
  refine lv_aload_n hx hb (show decode cJ0_charAt_5068e 0 = .ok (.aload_n 0, 1) by decide +kernel) rfl (lv_at hl 0 rfl) ?_
  refine x_jcV (n := 0) (i := 492) (y := yJ0_isLatin1_aae02) (av := []) (rest := []) (v := some (.int 1)) X hT hx hb hml hl.1 (x_jrecv X hT hj) (x_jlatin hJ hj) (x_jw hJ 4 rfl) (x_jw hJ 23 rfl) (x_jw hJ 7 rfl) (x_jw hJ 5 rfl) (x_jw hJ 6 rfl) ⟨by decide +kernel, by decide +kernel, by decide +kernel⟩ ⟨by decide, by decide⟩ ⟨Nat.le_refl _, Nat.le_refl _⟩ rfl (by decide) (show decode cJ0_charAt_5068e 1 = .ok (.invokevirtual 492, 3) by decide +kernel) (fun H1 locs1 X1 => ?_)
  have hS1 := X1.2.2.2.2.2
  refine lv_if_eq hx hb (x := 1) (tgt := 16) (show decode cJ0_charAt_5068e 4 = .ok (.ifCond .eq 12, 3) by decide +kernel) rfl (fun h => absurd h (by decide)) (fun _ => ?_)
  refine lv_aload_n hx hb (show decode cJ0_charAt_5068e 7 = .ok (.aload_n 0, 1) by decide +kernel) rfl (lv_at hl 0 rfl) ?_
  refine vk_getf hx hb o3 hS1 hown (hts _ (x_jw hJ 26 rfl)) (fun _ h => h) (show decode cJ0_charAt_5068e 8 = .ok (.getfield 9, 3) by decide +kernel) ?_
  refine lv_iload_n hx hb (show decode cJ0_charAt_5068e 11 = .ok (.iload_n 1, 1) by decide +kernel) rfl (lv_at hl 1 rfl) ?_
  refine x_jcS (n := 2) (i := 495) (y := yJ1_charAt_3b067) (av := [.ref (ad (x_val + j)), .int i]) (rest := []) (v := some (.int ((x_sbyt.getD j []).getD i.toNatClampNeg 0))) X1 hT hx hb hml hl.1 (x_jlchar hJ hj hi) (x_jw hJ 17 rfl) (x_jw hJ 24 rfl) (x_jw hJ 19 rfl) (x_jw hJ 18 rfl) ⟨by decide +kernel, by decide +kernel, by decide +kernel⟩ ⟨by decide, by decide⟩ ⟨Nat.le_refl _, Nat.le_refl _⟩ rfl (by decide) (show decode cJ0_charAt_5068e 12 = .ok (.invokestatic 495, 3) by decide +kernel) (fun H2 locs2 X2 => ?_)
  obtain ⟨b, hb1, g2⟩ : ∃ b : Int32, (x_sbyt.getD j []).getD i.toNatClampNeg 0 = b ∧ narrow .char (.int b) = .int b := by
    have hlen := x_jlen j hj
    obtain ⟨q, hq1, hq2⟩ := vp_in_of hi hlen
    have hz : i.toNatClampNeg < (x_sbyt.getD j []).length := by rw [hq2, nI_clamp (by omega)]; exact hq1
    refine ⟨_, rfl, (x_jch j hj _ ?_).2⟩
    exact x_jmem hz
  exact W.zret hx hb hr (ty := .char) (by rw [hb1]; exact g2) (x_jfin (v := some (.int ((x_sbyt.getD j []).getD i.toNatClampNeg 0))) X2) X2.2.2.2.2.2.2.2 (show decode cJ0_charAt_5068e 15 = .ok (.ireturn, 1) by decide +kernel) hlk
end XS6a
/-! ===== soundness: calls, and the walk of a whole method ===== -/
def x_okK (own : String) (i a b : Nat) (mt : List xM) (sp : Bool) (st : Bool) : Prop := ∃ M : xM, mt[a]? = some M ∧ Cond.methodLink own i (x_nm M) ∈ x_bw ∧ x_sta M = st ∧ (sp = true → (x_nm M).name = "<init>" ∧ x_rt M = none) ∧ (sp = false → (x_nm M).name ≠ "<init>") ∧ (parseMethodDescriptor (x_nm M).desc).map (fun d => d.parameters.length) = some b
def x_ok3 (own : String) (mt : List xM) (ins : Instr) (a b : Nat) : Prop := match ins with
  | .invokespecial i => (a = 9000 ∧ Cond.methodLink own i Lib.objectInit ∈ x_bw ∧ Cond.instanceMethod Lib.objectInit ∈ x_bw ∧ Cond.code Lib.objectInit ⟨#[0xb1]⟩ 1 none ∈ x_bw) ∨ (a < 9000 ∧ x_okK own i a b mt true false)
  | .invokevirtual i => (a = 9006 ∧ x_JW ∧ Cond.methodLink own i yJ0_length_8abf5 ∈ x_bw) ∨ (a = 9007 ∧ x_JW ∧ Cond.methodLink own i yJ0_charAt_5068e ∈ x_bw) ∨ (a < 9000 ∧ x_okK own i a b mt false false)
  | .invokestatic i => (a = 9001 ∧ Cond.methodLink own i Lib.Math.max.name ∈ x_bw ∧ Cond.static Lib.Math.max.name ∈ x_bw ∧ Cond.initialized "java/lang/Math" ∈ x_bw ∧ Cond.code Lib.Math.max.name Lib.Math.max.code 2 (some .int) ∈ x_bw)
      ∨ (a = 9002 ∧ Cond.methodLink own i Lib.Math.min.name ∈ x_bw ∧ Cond.static Lib.Math.min.name ∈ x_bw ∧ Cond.initialized "java/lang/Math" ∈ x_bw ∧ Cond.code Lib.Math.min.name Lib.Math.min.code 2 (some .int) ∈ x_bw)
      ∨ (a = 9003 ∧ Cond.methodLink own i Lib.Math.abs.name ∈ x_bw ∧ Cond.static Lib.Math.abs.name ∈ x_bw ∧ Cond.initialized "java/lang/Math" ∈ x_bw ∧ Cond.code Lib.Math.abs.name Lib.Math.abs.code 1 (some .int) ∈ x_bw)
      ∨ ((a = 9004 ∨ a = 9005) ∧ Cond.methodLink own i arraycopyName ∈ x_bw ∧ Cond.native arraycopyName ∈ x_bw ∧ Cond.static arraycopyName ∈ x_bw ∧ Cond.initialized "java/lang/System" ∈ x_bw)
      ∨ (a < 9000 ∧ x_okK own i a b mt false true)
  | _ => True
section XS5
variable {p : Program} {l : Launch} {e : Env} {R : Room} {s : State} {m : MethodId} {args : Array Value} {below : List Frame} {meth : Method} {c : Code} {H : Heap} {locs : List Loc} {cells slots : Nat} {Q : State → Prop}
variable {cc : ByteArray} {pc : Nat} {ls : Array Slot} {own : String} {y : MethodName} {ad : Nat → Nat} {nL : Nat} {L : xL} {st rest : List Value} {h : xH} {k z : Nat} {ins : Instr} {len a b base d : Nat} {D : va_G}
theorem x_nn {q : Int32} (hq : ¬ q < 0) : q.toInt = (q.toNatClampNeg : Int) := by
  have hz0 : (0 : Int) ≤ q.toInt := by
    have := Int32.not_lt.mp hq
    simpa using Int32.le_iff_toInt_le.mp this
  show q.toInt = ((q.toInt.toNat : Nat) : Int)
  omega
/-- System.arraycopy of numbers, told of any kind of row -/
theorem x_copy (hx : p.tables.exec = Jvm.exec) (hb : c.code = cc) (hml : c.maxLocals = ls.size) (X : x_At s m args own D base ad h H locs) (hR : x_Rm R d) {i : Nat} (hlink : Cond.methodLink own i arraycopyName ∈ x_bw) (hnat : Cond.native arraycopyName ∈ x_bw) (hstat : Cond.static arraycopyName ∈ x_bw) (hini : Cond.initialized "java/lang/System" ∈ x_bw)
    {α : Type} (inj : α → Value) (mk : (Nat → α) → xE) {q0 q1 n0 n1 t : Nat} {c0 c1 : ClassId} {f g : Nat → α} (h0 : H[ad q0]? = some (arrV c0 n0 (fun j => inj (f j)))) (hq1 : h[q1]? = some (mk g)) (h1 : H[ad q1]? = some (arrV c1 n1 (fun j => inj (g j)))) (htg : ∀ u, x_tg (mk u) = some t) (hmk : ∀ (cA : ClassId) (u : Nat → α) (H1 : Heap), va_at D vwCl (ad q1, x_ce ad cA (mk u)) H1 = (H1[ad q1]? = some (arrV cA n1 (fun j => inj (u j)))))
    {ty : FieldType} (ho0 : ArrOfT s c0 ty) (ho1 : ArrOfT s c1 ty) (hprim : refKind ty = false) (hfit : ∀ u : α, fits ty (inj u) = true) (hv : ∀ u : α, (∃ x, inj u = .int x) ∨ ∃ x, inj u = .long x)
    {sp dp n : Int32} (hno : ¬ (sp < 0 ∨ dp < 0 ∨ n < 0 ∨ n0 < sp.toNatClampNeg + n.toNatClampNeg ∨ n1 < dp.toNatClampNeg + n.toNatClampNeg)) (hcat : x_cat rest ≤ 8)
    (cop : copied (arrV c0 n0 (fun j => inj (f j))) (arrV c1 n1 (fun j => inj (g j))) sp dp n = arrV c1 n1 (fun j => inj (va_cpy f g sp.toNatClampNeg dp.toNatClampNeg n.toNatClampNeg j)))
    (hdg : decode cc pc = .ok (.invokestatic i, 3))
    (kk : ∀ (H1 : Heap) (locs1 : List Loc), x_At s m args own D base ad (h.set q1 (mk (va_cpy f g sp.toNatClampNeg dp.toNatClampNeg n.toNatClampNeg))) H1 locs1 → W p l e R s m args below meth c H1 locs1 k z Q (F0 m (pc + 3) ls (rest.map (x_cv ad)))) : W p l e R s m args below meth c H locs k z Q (F0 m pc ls (.int n :: .int dp :: .ref (ad q1) :: .int sp :: .ref (ad q0) :: rest.map (x_cv ad))) := by
  have g1 : ¬ sp < 0 := fun q => hno (Or.inl q)
  have g2 : ¬ dp < 0 := fun q => hno (Or.inr (Or.inl q))
  have g3 : ¬ n < 0 := fun q => hno (Or.inr (Or.inr (Or.inl q)))
  have g4 : ¬ n0 < sp.toNatClampNeg + n.toNatClampNeg := fun q => hno (Or.inr (Or.inr (Or.inr (Or.inl q))))
  have g5 : ¬ n1 < dp.toNatClampNeg + n.toNatClampNeg := fun q => hno (Or.inr (Or.inr (Or.inr (Or.inr q))))
  obtain ⟨hown, hts, hK, hbase, w, hS⟩ := id X
  intro T hT XX
  obtain ⟨-, k0, hk0, cm0, hkk0⟩ := ho0 n0 (fun j => inj (f j))
  obtain ⟨-, k1, hk1, cm1, hkk1⟩ := ho1 n1 (fun j => inj (g j))
  obtain ⟨vm', X', step⟩ := XX.arraycopy hx hown (hts _ hlink) (hts _ hnat) (hts _ hstat) (hts _ hini) (src := ad q0) (dst := ad q1) (cs := arrV c0 n0 (fun j => inj (f j))) (cd := arrV c1 n1 (fun j => inj (g j))) (srcPos := sp) (destPos := dp) (n := n) (by rw [hT]; exact h0) (by rw [hT]; exact h1)
    (fun _ h => by cases h) (fun _ h => by cases h) (fun h => by cases h) (fun h => by cases h) hk0 hk1 hkk0 hkk1 (by simp [hprim]) g1 g2 g3
    (by rw [x_nn g1, x_nn g3, arrV_size]; omega)
    (by rw [x_nn g2, x_nn g3, arrV_size]; omega)
    (fun vm₁ _ i hi => by
      have e : (arrV c0 n0 (fun j => inj (f j))).slots.getD (sp.toNatClampNeg + i) .null = inj (f (sp.toNatClampNeg + i)) := by
        rw [Array.getD_eq_getD_getElem?, arrV_read _ _ (by omega)]
        rfl
      refine ⟨?_, ?_⟩
      · rw [e]
        exact hfit _
      · rw [e]
        rcases hv (f (sp.toNatClampNeg + i)) with ⟨x, hx⟩ | ⟨x, hx⟩ <;> (rw [hx]; exact trivial))
    (g := F0 m pc ls (.int n :: .int dp :: .ref (ad q1) :: .int sp :: .ref (ad q0) :: rest.map (x_cv ad))) rfl (by rw [hml]) (rest := rest.map (x_cv ad)) rfl (by rw [hb]; exact hdg) (by have := hR.1; omega) (by
      rw [x_cat_map]
      have h2 := hR.2
      have : nativeFrameWords "java/lang/System" "arraycopy" 5 + 11 ≤ 29 := by decide
      show 2 * 0 + _ + _ ≤ _
      omega)
  rw [cop] at X' step
  have hl : ad q1 < H.size := (Array.getElem?_eq_some_iff.mp h1).1
  generalize hnew : arrV c1 n1 (fun j => inj (va_cpy f g sp.toNatClampNeg dp.toNatClampNeg n.toNatClampNeg j)) = new at X' step
  have hheap : ((T.setVm vm').setCell (ad q1) new).heap = H.setIfInBounds (ad q1) new := by rw [← hT]; rfl
  have oq : ∀ q : Nat, q ≠ ad q1 → (H.setIfInBounds (ad q1) new)[q]? = H[q]? := fun q hq => by simp [Array.getElem?_setIfInBounds, Ne.symm hq]
  have z1 : (H.setIfInBounds (ad q1) new).size = H.size := by simp
  have e1 : (H.setIfInBounds (ad q1) new)[ad q1]? = some new := by simp [Array.getElem?_setIfInBounds, hl]
  have hbq := x_base_of X hq1
  have w' := w.set (e := mk (va_cpy f g sp.toNatClampNeg dp.toNatClampNeg n.toNatClampNeg)) hq1 (by rw [htg, htg]) z1 oq (fun cB hB => by
    rw [hmk] at hB ⊢
    have hcc : arrV cB n1 (fun j => inj (g j)) = arrV c1 n1 (fun j => inj (g j)) := Option.some.inj (hB.symm.trans h1)
    have hcl : cB = c1 := congrArg Cell.cls hcc
    rw [e1, ← hnew, hcl])
  obtain ⟨t, a1, b1⟩ := kk _ _ ⟨hown, hts, hK, hbase, w', ⟨by rw [z1]; exact hS.1, fun q g1 g2 => by
      rw [oq q (fun e => g2 (by rw [e]; exact hbq))]
      exact hS.2.1 q g1 g2, fun q hq => by
      rcases List.mem_append.mp hq with h | h
      · exact hS.2.2 q h
      · obtain ⟨z, -, hz⟩ := List.mem_map.mp h
        rw [← hz]
        exact hbq⟩⟩ _ hheap X'
  exact ⟨t, step t a1, b1⟩
theorem x_cal_of {static : Bool} {a n : Nat} {st : List Value} {o} (hi : x_cal static a n st = some o) : ∃ (vs rest : List Value), x_cat rest ≤ 8 ∧ vs.length = n ∧ ((static = true ∧ o = .inr (.inl (a, vs, rest)) ∧ st = vs.reverse ++ rest) ∨ (static = false ∧ ∃ q, o = .inr (.inl (a, .ref q :: vs, rest)) ∧ st = vs.reverse ++ .ref q :: rest)) := by
  unfold x_cal at hi
  cases static with
  | true =>
    dsimp only [cond] at hi
    cases hb : (Nat.ble n st.length && Nat.ble (x_cat (st.drop n)) 8) with
    | false => rw [hb] at hi; cases hi
    | true =>
      rw [hb] at hi
      have q := Bool.and_eq_true_iff.mp hb
      have h1 := Nat.le_of_ble_eq_true q.1
      refine ⟨(st.take n).reverse, st.drop n, Nat.le_of_ble_eq_true q.2, by simp [h1], Or.inl ⟨rfl, (Option.some.inj hi).symm, ?_⟩⟩
      rw [List.reverse_reverse, List.take_append_drop]
  | false =>
    dsimp only [cond] at hi
    split at hi
    · rename_i q r hdr
      cases hb : Nat.ble (x_cat r) 8 with
      | false => rw [hb] at hi; cases hi
      | true =>
        rw [hb] at hi
        have hlen : n < st.length := by
          rcases Nat.lt_or_ge n st.length with h | h
          · exact h
          · rw [List.drop_eq_nil_of_le h] at hdr; cases hdr
        refine ⟨(st.take n).reverse, r, Nat.le_of_ble_eq_true hb, by simp; omega, Or.inr ⟨rfl, q, (Option.some.inj hi).symm, ?_⟩⟩
        rw [List.reverse_reverse, ← hdr, List.take_append_drop]
    · cases hi
/-- the third group: what the kit's own rows do, or a call -/
def x_N3 (p : Program) (l : Launch) (e : Env) (R : Room) (s : State) (m : MethodId) (args : Array Value) (below : List Frame) (meth : Method) (c : Code) (H : Heap) (locs : List Loc) (k z : Nat) (Q : State → Prop) (ls : Array Slot) (own : String) (D : va_G) (base : Nat) (ad : Nat → Nat) (L : xL) (st : List Value) (pc : Nat) (cc : ByteArray) (mt : List xM) (a b : Nat) (o : xC ⊕ ((Nat × List Value × List Value) ⊕ Option Value)) : Prop :=
  x_N2 p l e R s m args below meth c H locs k z Q ls own D base ad L st pc o ∨ ∃ (i : Nat) (vs rest : List Value), x_cat rest ≤ 8 ∧ vs.length = b ∧
    ((decode cc pc = .ok (.invokestatic i, 3) ∧ x_okK own i a b mt false true ∧ o = .inr (.inl (a, vs, rest)) ∧ st = vs.reverse ++ rest) ∨ (∃ q sp, ((sp = false ∧ decode cc pc = .ok (.invokevirtual i, 3)) ∨ (sp = true ∧ decode cc pc = .ok (.invokespecial i, 3))) ∧ x_okK own i a b mt sp false ∧ o = .inr (.inl (a, .ref q :: vs, rest)) ∧ st = vs.reverse ++ .ref q :: rest))
theorem x_beqF {a b : Nat} (h : a ≠ b) : Nat.beq a b = false := by
  cases e : Nat.beq a b with
  | false => rfl
  | true => exact absurd (Nat.eq_of_beq_eq_true e) h
set_option maxHeartbeats 4000000 in
theorem x_s3 (hx : p.tables.exec = Jvm.exec) (hb : c.code = cc) (hml : c.maxLocals = ls.size) (X : x_At s m args own D base ad h H locs) (hT : x_St s base ad) (hR : x_Rm R d) {mt : List xM} (hd : decode cc pc = .ok (ins, len)) (hlen : x_lok ins len) (hw : x_ok3 own mt ins a b) {o} (hi : x_ins3 ins pc a b L st h k z = some o) (hk : k ≤ R.cells) (hz : z ≤ R.slots) : x_N3 p l e R s m args below meth c H locs k z Q ls own D base ad L st pc cc mt a b o := by
  have hown := X.1
  have hts := X.2.1
  have hR1 := hR.1
  have hR2 := hR.2
  unfold x_ins3 at hi
  split at hi
  · cases hlen
    rcases hw with ⟨rfl, w1, w2, w3⟩ | ⟨w0, w1⟩
    · left
      rw [show Nat.beq 9000 9000 = true from rfl] at hi
      obtain ⟨q, r, rfl, hj⟩ := x_a1_of hi
      obtain ⟨hc8, hj2⟩ := x_bif hj
      have hc8 := Nat.le_of_ble_eq_true hc8
      refine x_N2.go hj2 (Nat.le_refl _) (Nat.le_refl _) fun _ _ kk => W.objInit hx hb hown (hts _ w1) (hts _ w2) (hts _ w3) rfl (by rw [hml]) rfl hd (by omega) (by rw [x_cat_map]; show 2 * 0 + _ + 12 ≤ _; omega) (kk H locs X)
    · right
      rw [x_beqF (by omega)] at hi
      dsimp only [cond] at hi
      obtain ⟨vs, rest, h8, hvl, hh⟩ := x_cal_of hi
      rcases hh with ⟨q, -⟩ | ⟨-, q, ho, hst⟩
      · cases q
      · exact ⟨_, vs, rest, h8, hvl, Or.inr ⟨q, true, Or.inr ⟨rfl, hd⟩, w1, ho, hst⟩⟩
  · cases hlen
    rcases hw with ⟨rfl, hJ, w1⟩ | ⟨rfl, hJ, w1⟩ | ⟨w0, w1⟩
    · left
      rw [show Nat.beq 9006 9006 = true from rfl] at hi
      obtain ⟨q, r, rfl, hj⟩ := x_a1_of hi
      obtain ⟨hc8, hj2⟩ := x_bif hj
      have hc8 := Bool.and_eq_true_iff.mp hc8
      have h8 := Nat.le_of_ble_eq_true hc8.1
      have hq := Nat.le_of_ble_eq_true hc8.2
      split at hj2
      · rename_i bs hbs
        obtain ⟨j, rfl⟩ := Nat.exists_eq_add_of_le hq
        rw [Nat.add_sub_cancel_left] at hbs
        have hjl := (List.getElem?_eq_some_iff.mp hbs).1
        have hbd : x_sbyt.getD j [] = bs := by rw [List.getD_eq_getElem?_getD, hbs]; rfl
        refine x_N2.go hj2 (Nat.le_refl _) (Nat.le_refl _) fun _ _ kk => ?_
        exact x_jcV (n := 0) (y := yJ0_length_8abf5) (av := []) (rest := r.map (x_cv ad)) (v := some (.int (Int32.ofNat (x_sbyt.getD j []).length))) X hT hx hb hml rfl (x_jrecv X hT hjl) (x_jlength hJ hjl) (x_jw hJ 8 rfl) (x_jw hJ 23 rfl) w1 (x_jw hJ 9 rfl) (x_jw hJ 10 rfl) ⟨by decide +kernel, by decide +kernel, by decide +kernel⟩ ⟨by omega, by omega⟩ ⟨hk, hz⟩ rfl (by rw [x_cat_map]; exact h8) hd (fun H1 locs1 X1 => by rw [hbd]; exact kk H1 locs1 X1)
      · cases hj2
    · left
      rw [show Nat.beq 9007 9006 = false from rfl, show Nat.beq 9007 9007 = true from rfl] at hi
      obtain ⟨q, i, r, rfl, hj⟩ := x_ai_of hi
      obtain ⟨hc8, hj2⟩ := x_bif hj
      have hc8 := Bool.and_eq_true_iff.mp hc8
      have h8 := Nat.le_of_ble_eq_true hc8.1
      have hq := Nat.le_of_ble_eq_true hc8.2
      split at hj2
      · rename_i bs hbs
        obtain ⟨hin, hj2⟩ := x_in_of hj2
        obtain ⟨j, rfl⟩ := Nat.exists_eq_add_of_le hq
        rw [Nat.add_sub_cancel_left] at hbs
        have hjl := (List.getElem?_eq_some_iff.mp hbs).1
        have hbd : x_sbyt.getD j [] = bs := by rw [List.getD_eq_getElem?_getD, hbs]; rfl
        refine x_N2.go hj2 (Nat.le_refl _) (Nat.le_refl _) fun _ _ kk => ?_
        exact x_jcV (n := 1) (y := yJ0_charAt_5068e) (av := [.int i]) (rest := r.map (x_cv ad)) (v := some (.int ((x_sbyt.getD j []).getD i.toNatClampNeg 0))) X hT hx hb hml rfl (x_jrecv X hT hjl) (x_jcharAt hJ hjl (by rw [hbd]; exact hin)) (x_jw hJ 11 rfl) (x_jw hJ 23 rfl) w1 (x_jw hJ 12 rfl) (x_jw hJ 13 rfl) ⟨by decide +kernel, by decide +kernel, by decide +kernel⟩ ⟨by omega, by omega⟩ ⟨hk, hz⟩ rfl (by rw [x_cat_map]; exact h8) hd (fun H1 locs1 X1 => by rw [hbd]; exact kk H1 locs1 X1)
      · cases hj2
    · right
      rw [x_beqF (by omega), x_beqF (by omega)] at hi
      dsimp only [cond] at hi
      obtain ⟨vs, rest, h8, hvl, hh⟩ := x_cal_of hi
      rcases hh with ⟨q, -⟩ | ⟨-, q, ho, hst⟩
      · cases q
      · exact ⟨_, vs, rest, h8, hvl, Or.inr ⟨q, false, Or.inl ⟨rfl, hd⟩, w1, ho, hst⟩⟩
  · cases hlen
    rcases hw with ⟨rfl, w1, w2, w3, w4⟩ | ⟨rfl, w1, w2, w3, w4⟩ | ⟨rfl, w1, w2, w3, w4⟩ | ⟨w0, w1, w2, w3, w4⟩ | ⟨w0, w1⟩
    · left
      rw [show Nat.beq 9001 9001 = true from rfl] at hi
      obtain ⟨x, y, r, rfl, hj⟩ := x_i2_of hi
      obtain ⟨hc8, hj2⟩ := x_bif hj
      have hc8 := Nat.le_of_ble_eq_true hc8
      exact x_N2.go hj2 (Nat.le_refl _) (Nat.le_refl _) fun _ _ kk => va_mmax hx hb hml hown (hts _ w1) (hts _ w2) (hts _ w3) (hts _ w4) (by omega) (by rw [x_cat_map]; omega) hk hz hd (kk H locs X)
    · left
      rw [show Nat.beq 9002 9001 = false from rfl, show Nat.beq 9002 9002 = true from rfl] at hi
      obtain ⟨x, y, r, rfl, hj⟩ := x_i2_of hi
      obtain ⟨hc8, hj2⟩ := x_bif hj
      have hc8 := Nat.le_of_ble_eq_true hc8
      exact x_N2.go hj2 (Nat.le_refl _) (Nat.le_refl _) fun _ _ kk => va_mmin hx hb hml hown (hts _ w1) (hts _ w2) (hts _ w3) (hts _ w4) (by omega) (by rw [x_cat_map]; omega) hk hz hd (kk H locs X)
    · left
      rw [show Nat.beq 9003 9001 = false from rfl, show Nat.beq 9003 9002 = false from rfl, show Nat.beq 9003 9003 = true from rfl] at hi
      obtain ⟨x, r, rfl, hj⟩ := x_i1_of hi
      obtain ⟨hc8, hj2⟩ := x_bif hj
      have hc8 := Nat.le_of_ble_eq_true hc8
      exact x_N2.go hj2 (Nat.le_refl _) (Nat.le_refl _) fun _ _ kk => va_mabs hx hb hml hown (hts _ w1) (hts _ w2) (hts _ w3) (hts _ w4) (by omega) (by rw [x_cat_map]; omega) hk hz hd (kk H locs X)
    · left
      rcases w0 with rfl | rfl
      · rw [show Nat.beq 9004 9001 = false from rfl, show Nat.beq 9004 9002 = false from rfl, show Nat.beq 9004 9003 = false from rfl, show Nat.beq 9004 9004 = true from rfl] at hi
        obtain ⟨a0, sp, a1, dp, n, r, rfl, hj⟩ := x_cp_of hi
        obtain ⟨hc8, hj2⟩ := x_bif hj
        have hc8 := Nat.le_of_ble_eq_true hc8
        obtain ⟨n0, f, hq0, hj3⟩ := x_ari_of hj2
        obtain ⟨n1, g, hq1, hj4⟩ := x_ari_of hj3
        split at hj4
        · cases hj4
        · rename_i hno
          obtain ⟨c0, h0, o0⟩ := x_cellI X hq0
          obtain ⟨c1, h1, o1⟩ := x_cellI X hq1
          exact x_N2.go hj4 (Nat.le_refl _) (Nat.le_refl _) fun _ _ kk => x_copy (t := 0) hx hb hml X hR w1 w2 w3 w4 (fun x => .int x) (fun u => .inl (0, n1, .inl u)) h0 hq1 h1 (fun u => rfl) (fun cA u H1 => rfl) (ty := .int) o0.1 o1.1 rfl (fun u => rfl) (fun u => Or.inl ⟨u, rfl⟩) hno hc8 (va_copied (fun z => .int z) c0 c1 f g (by omega)) hd kk
      · rw [show Nat.beq 9005 9001 = false from rfl, show Nat.beq 9005 9002 = false from rfl, show Nat.beq 9005 9003 = false from rfl, show Nat.beq 9005 9004 = false from rfl, show Nat.beq 9005 9005 = true from rfl] at hi
        obtain ⟨a0, sp, a1, dp, n, r, rfl, hj⟩ := x_cp_of hi
        obtain ⟨hc8, hj2⟩ := x_bif hj
        have hc8 := Nat.le_of_ble_eq_true hc8
        obtain ⟨n0, f, hq0, hj3⟩ := x_arl_of hj2
        obtain ⟨n1, g, hq1, hj4⟩ := x_arl_of hj3
        split at hj4
        · cases hj4
        · rename_i hno
          obtain ⟨c0, h0, o0⟩ := x_cellL X hq0
          obtain ⟨c1, h1, o1⟩ := x_cellL X hq1
          exact x_N2.go hj4 (Nat.le_refl _) (Nat.le_refl _) fun _ _ kk => x_copy (t := 1) hx hb hml X hR w1 w2 w3 w4 (fun x => .long x) (fun u => .inl (1, n1, .inr (.inl u))) h0 hq1 h1 (fun u => rfl) (fun cA u H1 => rfl) (ty := .long) o0.1 o1.1 rfl (fun u => rfl) (fun u => Or.inr ⟨u, rfl⟩) hno hc8 (va_copied (fun z => .long z) c0 c1 f g (by omega)) hd kk
    · right
      rw [x_beqF (by omega), x_beqF (by omega), x_beqF (by omega), x_beqF (by omega), x_beqF (by omega)] at hi
      dsimp only [cond] at hi
      obtain ⟨vs, rest, h8, hvl, hh⟩ := x_cal_of hi
      rcases hh with ⟨-, ho, hst⟩ | ⟨q, -⟩
      · exact ⟨_, vs, rest, h8, hvl, Or.inl ⟨hd, w1, ho, hst⟩⟩
      · cases q
  · cases hi
end XS5
/-! ===== the walk ===== -/
def x_okR (mt : List xM) (M : xM) (r : xR) : Prop := decode (x_cc M) r.1 = .ok (r.2.1, r.2.2.1) ∧ x_lok r.2.1 r.2.2.1 ∧ (match x_grp r.2.1 with
  | 1 => x_ok1 (x_own M) (x_ml M) r.2.1 r.2.2.2.1
  | 2 => x_ok2 (x_own M) (x_nm M) r.2.1 r.2.2.2.1 r.2.2.2.2.1
  | 3 => x_ok3 (x_own M) mt r.2.1 r.2.2.2.1 r.2.2.2.2.1
  | _ => True)
def x_okM (mt : List xM) (M : xM) : Prop := plainFor (x_nm M) = true ∧ (x_nm M).cls = x_own M ∧ ((x_nm M).cls ≠ "java/lang/invoke/MethodHandle" ∧ (x_nm M).cls ≠ "java/lang/invoke/VarHandle") ∧ x_ml M ≤ 18 ∧
  Cond.code (x_nm M) (x_cc M) (x_ml M) (x_rt M) ∈ x_bw ∧ Cond.initialized (x_nm M).cls ∈ x_bw ∧ (x_sta M = true → Cond.static (x_nm M) ∈ x_bw) ∧ (x_sta M = false → Cond.instanceMethod (x_nm M) ∈ x_bw ∧ ∃ (T : u_T) (N : Nat), (vwCl : List vw_C)[M.2.2.2.2.2.2.1]? = some (x_own M, T, N)) ∧ (x_sta M = false → (x_nm M).name ≠ "<init>" → Cond.selects (x_nm M).cls (x_nm M) (x_nm M) ∈ x_bw) ∧
  ∀ q ∈ x_rws M, ∀ r ∈ q.2, x_okR mt M r
def x_ws (M : xM) : List Cond := Cond.code (x_nm M) (x_cc M) (x_ml M) (x_rt M) :: x_bw
section XS6
variable {p : Program} {l : Launch} {e : Env} {R : Room} {s : State} {m : MethodId} {args : Array Value} {below : List Frame} {meth : Method} {c : Code} {H : Heap} {locs : List Loc} {cells slots : Nat} {Q : State → Prop}
variable {cc : ByteArray} {pc : Nat} {ls : Array Slot} {own : String} {y : MethodName} {ad : Nat → Nat} {nL : Nat} {L : xL} {st rest : List Value} {h : xH} {k z : Nat} {ins : Instr} {len a b base d : Nat} {D : va_G}
/-- a run of the interpreter is a walk of the machine -/
def x_Wk (mt : List xM) (d : Nat) (M : xM) (S : Option xS) (c0 : xC) (v : Option Value) (h' : xH) (k' z' : Nat) : Prop :=
  c0.2.2.2.2.1 ≤ k' ∧ c0.2.2.2.2.2 ≤ z' ∧ ∀ {p : Program} {l : Launch} {e : Env} {R : Room} {s : State} {m : MethodId} {args : Array Value} {below : List Frame} {meth : Method} {c : Code} {Q : State → Prop} {base : Nat} {ad : Nat → Nat} {D : va_G} {H : Heap} {locs : List Loc} {ls : Array Slot},
    p.tables.exec = Jvm.exec → c.code = x_cc M → c.maxLocals = x_ml M → ((x_nm M).name = "<init>" → meth.name = "<init>") → x_At s m args (x_own M) D base ad c0.2.2.2.1 H locs → x_Sc S s base ad → x_Rm R d → k' ≤ R.cells → z' ≤ R.slots → lv_has ls (x_ml M) (x_cl ad c0.2.1) →
    (∀ (H1 : Heap) (locs1 : List Loc) (ls1 : Array Slot) (pc1 : Nat) (ins : Instr) (st1 : List Value), decode (x_cc M) pc1 = .ok (ins, 1) → x_ret (x_rt M) ins st1 = some v → x_At s m args (x_own M) D base ad h' H1 locs1 → W p l e R s m args below meth c H1 locs1 k' z' Q (F0 m pc1 ls1 (st1.map (x_cv ad)))) →
    W p l e R s m args below meth c H locs c0.2.2.2.2.1 c0.2.2.2.2.2 Q (F0 m c0.1 ls (c0.2.2.1.map (x_cv ad)))
/-- the end of a method -/
theorem x_end {v : Option Value} {h' : xH} {k' z' pc1 : Nat} {ls1 : Array Slot} {st1 : List Value} {rt : Option FieldType} (hx : p.tables.exec = Jvm.exec) (hb : c.code = cc) (hr : meth.sig.returnType = rt) (hlk : meth.locks = false) (X : x_At s m args own D base ad h' H locs) (hd : decode cc pc1 = .ok (ins, 1)) (hv : x_ret rt ins st1 = some v) : W p l e R s m args below meth c H locs k' z' (MQ below (x_Qc base ad D v h') args s k' z' (fun q => base ≤ q)) (F0 m pc1 ls1 (st1.map (x_cv ad))) := by
  obtain ⟨hown, hts, hK, hbase, w, hS⟩ := X
  have fin : ∀ (t : State), t.heap = H → s.WarmedH t.vm → ∀ (u : Option Value), u = v.map (x_cv ad) → x_Qc base ad D v h' args s (.returned u) t := by
    intro t ht hW u hu
    exact ⟨by rw [hu], by rw [ht]; exact x_W.moved hW.alike w, hS.F ht⟩
  unfold x_ret at hv
  split at hv
  · split at hv
    · cases hv
      exact W.iret hx hb hr (fun t ht hW => fin t ht hW _ rfl) hS.2.2 hd
    · rename_i x
      cases hb1 : (x == 0 || x == 1) with
      | false => rw [hb1] at hv; cases hv
      | true =>
        rw [hb1] at hv
        cases hv
        have hn : narrow .boolean (.int x) = .int x := by
          have h' : x = 0 ∨ x = 1 := by simpa using hb1
          rcases h' with rfl | rfl <;> decide
        exact W.zret hx hb hr hn (fun t ht hW => fin t ht hW _ rfl) hS.2.2 hd
    · cases hv
  · split at hv
    · cases hv
      exact W.lret hx hb hr (fun t ht hW => fin t ht hW _ rfl) hS.2.2 hd
    · cases hv
  · split at hv
    · cases hv
      exact W.aret hx hb hr (Or.inl ⟨_, rfl⟩) (Or.inr ⟨_, rfl⟩) (fun t ht hW => fin t ht hW _ rfl) hS.2.2 hd
    · cases hv
  · split at hv
    · cases hv
      exact W.vret hx hb hr (fun t ht hW => fin t ht hW _ rfl) hS.2.2 hd
    · cases hv
  · cases hv
/-- a method's contract out of a walk of its body -/
theorem x_met {mt : List xM} {M : xM} (hM : x_okM mt M) {vs : List Value} {v : Option Value} {h' : xH} {k' z' : Nat} (hk : x_Wk mt d M none (0, lv_args 0 vs, [], h, 0, 0) v h' k' z') (hcat : x_cat vs ≤ x_ml M) : Met l (x_nm M) (x_ws M) (x_room d k' z') (x_Pc base ad D vs h) (x_Qc base ad D v h') k' z' (fun q => base ≤ q) := by
  obtain ⟨m1, m2, -, m4, -⟩ := hM
  refine x_ofW (cc := x_cc M) (maxL := x_ml M) (ret := x_rt M) m1 rfl ?_
  intro p e s m args below meth c s₁ B hml hv
  obtain ⟨rfl, hW, hK, hT⟩ := hv
  have hx := B.exec
  have hb := B.bytes
  have hr := B.returns
  have hts := atoms_spec (ws := x_ws M) B.pre
  have hown : s.vm.findClass (x_own M) = some m.cls := by rw [← m2]; exact findClass_of_methodNamed B.named
  have hlocks := B.notSynchronized
  have hmn : (x_nm M).name = "<init>" → meth.name = "<init>" := fun h => (name_of_methodNamed B.named B.method).1.trans h
  have hl := lv_entry (vs.map (x_cv ad)) (n := x_ml M) (by rw [x_lg_len]; simpa [← x_cat_map ad vs] using (show x_cat (vs.map (x_cv ad)) ≤ x_ml M by
    have e : ∀ ws : List Value, x_cat (ws.map (x_cv ad)) = x_cat ws := by
      intro ws
      induction ws with
      | nil => rfl
      | cons q qs ih => simp only [List.map_cons, x_cat, x_cv_cat, ih]
    rw [e]; exact hcat))
  rw [lg_entry_eq]
  generalize (lg_sl (vs.map (x_cv ad)) ++ List.replicate (x_ml M - (lg_sl (vs.map (x_cv ad))).length) Slot.unset).toArray = ls at hl ⊢
  rw [x_cl_args] at hl
  have hbase : base ≤ s.heap.size := by have := hW.2.2.1; omega
  exact hk.2.2 hx hb hml hmn ⟨hown, fun w hw => hts w (List.mem_cons_of_mem _ hw), hK, hbase, hW, va_S.rf⟩ ⟨(fun n f q => by cases q), hT⟩ ⟨Nat.le_refl _, Nat.le_refl _⟩ (Nat.le_refl _) (Nat.le_refl _) hl
    (fun H1 locs1 ls1 pc1 ins st1 hd hv X => x_end hx hb hr hlocks X hd hv)
end XS6
/-! ===== what is made only grows; the walk ===== -/
def x_ge (k z : Nat) (o : xC ⊕ ((Nat × List Value × List Value) ⊕ Option Value)) : Prop := match o with
  | .inl c' => k ≤ c'.2.2.2.2.1 ∧ z ≤ c'.2.2.2.2.2
  | .inr _ => True
section XG
variable {pc : Nat} {L : xL} {st : List Value} {h h1 : xH} {k z k1 z1 : Nat} {ins : Instr} {a b : Nat} {o : xC ⊕ ((Nat × List Value × List Value) ⊕ Option Value)}
theorem x_ge_go {pc' : Nat} {L' : xL} {st' : List Value} (hi : x_go pc' L' st' h1 k1 z1 = some o) (hk : k ≤ k1 := by omega) (hz : z ≤ z1 := by omega) : x_ge k z o := by
  have := x_go_of hi
  subst this
  exact ⟨hk, hz⟩
theorem x_ge_i1 {f : Int32 → List Value → xO} (hi : x_i1 st f = some o) (hf : ∀ x r, f x r = some o → x_ge k z o) : x_ge k z o := by obtain ⟨x, r, -, hj⟩ := x_i1_of hi; exact hf _ _ hj
theorem x_ge_i2 {f : Int32 → Int32 → List Value → xO} (hi : x_i2 st f = some o) (hf : ∀ x y r, f x y r = some o → x_ge k z o) : x_ge k z o := by obtain ⟨x, y, r, -, hj⟩ := x_i2_of hi; exact hf _ _ _ hj
theorem x_ge_l1 {f : Int64 → List Value → xO} (hi : x_l1 st f = some o) (hf : ∀ x r, f x r = some o → x_ge k z o) : x_ge k z o := by obtain ⟨x, r, -, hj⟩ := x_l1_of hi; exact hf _ _ hj
theorem x_ge_l2 {f : Int64 → Int64 → List Value → xO} (hi : x_l2 st f = some o) (hf : ∀ x y r, f x y r = some o → x_ge k z o) : x_ge k z o := by obtain ⟨x, y, r, -, hj⟩ := x_l2_of hi; exact hf _ _ _ hj
theorem x_ge_li {f : Int64 → Int32 → List Value → xO} (hi : x_li st f = some o) (hf : ∀ x y r, f x y r = some o → x_ge k z o) : x_ge k z o := by obtain ⟨x, y, r, -, hj⟩ := x_li_of hi; exact hf _ _ _ hj
theorem x_ge_a1 {f : Nat → List Value → xO} (hi : x_a1 st f = some o) (hf : ∀ x r, f x r = some o → x_ge k z o) : x_ge k z o := by obtain ⟨x, r, -, hj⟩ := x_a1_of hi; exact hf _ _ hj
theorem x_ge_ai {f : Nat → Int32 → List Value → xO} (hi : x_ai st f = some o) (hf : ∀ x i r, f x i r = some o → x_ge k z o) : x_ge k z o := by obtain ⟨x, i, r, -, hj⟩ := x_ai_of hi; exact hf _ _ _ hj
theorem x_ge_aii {f : Nat → Int32 → Int32 → List Value → xO} (hi : x_aii st f = some o) (hf : ∀ q i x r, f q i x r = some o → x_ge k z o) : x_ge k z o := by obtain ⟨q, i, x, r, -, hj⟩ := x_aii_of hi; exact hf _ _ _ _ hj
theorem x_ge_ail {f : Nat → Int32 → Int64 → List Value → xO} (hi : x_ail st f = some o) (hf : ∀ q i x r, f q i x r = some o → x_ge k z o) : x_ge k z o := by obtain ⟨q, i, x, r, -, hj⟩ := x_ail_of hi; exact hf _ _ _ _ hj
theorem x_ge_aiq {f : Nat → Int32 → Nat → List Value → xO} (hi : x_aiq st f = some o) (hf : ∀ q i x r, f q i x r = some o → x_ge k z o) : x_ge k z o := by obtain ⟨q, i, x, r, -, hj⟩ := x_aiq_of hi; exact hf _ _ _ _ hj
theorem x_ge_av {f : Nat → Value → List Value → xO} (hi : x_av st f = some o) (hf : ∀ q v r, f q v r = some o → x_ge k z o) : x_ge k z o := by obtain ⟨q, v, r, -, hj⟩ := x_av_of hi; exact hf _ _ _ hj
theorem x_ge_v1 {f : Value → List Value → xO} (hi : x_v1 st f = some o) (hf : ∀ v r, f v r = some o → x_ge k z o) : x_ge k z o := by obtain ⟨v, r, -, hj⟩ := x_v1_of hi; exact hf _ _ hj
theorem x_ge_v2 {f : Value → Value → List Value → xO} (hi : x_v2 st f = some o) (hf : ∀ v w r, f v w r = some o → x_ge k z o) : x_ge k z o := by obtain ⟨v, w, r, -, hj⟩ := x_v2_of hi; exact hf _ _ _ hj
theorem x_ge_cp {f : Nat → Int32 → Nat → Int32 → Int32 → List Value → xO} (hi : x_cp st f = some o) (hf : ∀ a0 sp a1 dp n r, f a0 sp a1 dp n r = some o → x_ge k z o) : x_ge k z o := by obtain ⟨a0, sp, a1, dp, n, r, -, hj⟩ := x_cp_of hi; exact hf _ _ _ _ _ _ hj
theorem x_ge_br {off : Int} {f : Nat → xO} (hi : x_br pc off f = some o) (hf : ∀ t, f t = some o → x_ge k z o) : x_ge k z o := by obtain ⟨t, -, hj⟩ := x_br_of hi; exact hf _ hj
theorem x_ge_ob {q : Nat} {f : Nat → List Value → xO} (hi : x_ob h q f = some o) (hf : ∀ c fs, f c fs = some o → x_ge k z o) : x_ge k z o := by obtain ⟨c, fs, -, hj⟩ := x_ob_of hi; exact hf _ _ hj
theorem x_ge_ari {t q : Nat} {f : Nat → (Nat → Int32) → xO} (hi : x_ari t h q f = some o) (hf : ∀ n g, f n g = some o → x_ge k z o) : x_ge k z o := by obtain ⟨n, g, -, hj⟩ := x_ari_of hi; exact hf _ _ hj
theorem x_ge_arl {q : Nat} {f : Nat → (Nat → Int64) → xO} (hi : x_arl h q f = some o) (hf : ∀ n g, f n g = some o → x_ge k z o) : x_ge k z o := by obtain ⟨n, g, -, hj⟩ := x_arl_of hi; exact hf _ _ hj
theorem x_ge_arq {q : Nat} {f : Nat → Nat → (Nat → Option Nat) → xO} (hi : x_arq h q f = some o) (hf : ∀ t n g, f t n g = some o → x_ge k z o) : x_ge k z o := by obtain ⟨t, n, g, -, hj⟩ := x_arq_of hi; exact hf _ _ _ hj
theorem x_ge_ar {q : Nat} {f : Nat → xO} (hi : x_ar h q f = some o) (hf : ∀ n, f n = some o → x_ge k z o) : x_ge k z o := by obtain ⟨t, n, y, -, hj⟩ := x_ar_of hi; exact hf _ hj
theorem x_ge_in {i : Int32} {n : Nat} {u : xO} (hi : x_in i n u = some o) (hf : u = some o → x_ge k z o) : x_ge k z o := hf (x_in_of hi).2
theorem x_ge_bif {c : Bool} {u u' : xO} (hi : (bif c then u else u') = some o) (hf : u = some o → x_ge k z o) (hf' : u' = some o → x_ge k z o) : x_ge k z o := by
  cases c with
  | true => exact hf hi
  | false => exact hf' hi
theorem x_ge_ite {c : Prop} [Decidable c] {u u' : xO} (hi : (if c then u else u') = some o) (hf : u = some o → x_ge k z o) (hf' : u' = some o → x_ge k z o) : x_ge k z o := by
  split at hi
  · exact hf hi
  · exact hf' hi
theorem x_ge_none (hi : (none : xO) = some o) : x_ge k z o := by cases hi
theorem x_ge_cond {op : ClassFile.Cond} {x y : Int32} {u u' : xO} (hi : x_cond op x y u u' = some o) (hf : u = some o → x_ge k z o) (hf' : u' = some o → x_ge k z o) : x_ge k z o := by
  unfold x_cond at hi
  split at hi <;> exact x_ge_ite hi hf hf'
set_option maxHeartbeats 4000000 in
theorem x_ge1 (hi : x_ins1 ins pc a L st h k z = some o) : x_ge k z o := by
  unfold x_ins1 at hi
  split at hi
  all_goals first
    | exact x_ge_go hi
    | exact x_ge_none hi
    | exact x_ge_bif hi (fun hj => x_ge_go hj) (fun hj => x_ge_go hj)
    | exact x_ge_i1 hi fun _ _ hj => x_ge_go hj
    | exact x_ge_i2 hi fun _ _ _ hj => x_ge_go hj
    | exact x_ge_l1 hi fun _ _ hj => x_ge_go hj
    | exact x_ge_l2 hi fun _ _ _ hj => x_ge_go hj
    | exact x_ge_li hi fun _ _ _ hj => x_ge_go hj
    | exact x_ge_a1 hi fun _ _ hj => x_ge_go hj
    | exact x_ge_i2 hi fun _ _ _ hj => x_ge_ite hj x_ge_none fun hj => x_ge_go hj
    | exact x_ge_l2 hi fun _ _ _ hj => x_ge_ite hj x_ge_none fun hj => x_ge_go hj
    | exact x_ge_v1 hi fun _ _ hj => x_ge_bif hj (fun hj => x_ge_go hj) x_ge_none
    | exact x_ge_v2 hi fun _ _ _ hj => x_ge_bif hj (fun hj => x_ge_go hj) x_ge_none
    | exact x_ge_br hi fun _ hj => x_ge_go hj
    | exact x_ge_i1 hi fun _ _ hj => x_ge_br hj fun _ hj => x_ge_cond hj (fun hj => x_ge_go hj) (fun hj => x_ge_go hj)
    | exact x_ge_i2 hi fun _ _ _ hj => x_ge_br hj fun _ hj => x_ge_cond hj (fun hj => x_ge_go hj) (fun hj => x_ge_go hj)
    | exact x_ge_i1 hi fun _ _ hj => x_ge_ite hj (fun hj => x_ge_br hj fun _ hj => x_ge_go hj) x_ge_none
    | exact x_ge_i1 hi fun _ _ hj => x_ge_ite hj (fun hj => x_ge_br hj fun _ hj => x_ge_go hj) (fun hj => by
        split at hj
        · exact x_ge_br hj fun _ hj => x_ge_go hj
        · exact x_ge_none hj)
    | (split at hi
       · exact x_ge_go hi
       · exact x_ge_none hi)
set_option maxHeartbeats 4000000 in
theorem x_ge2 {S : Option xS} (hi : x_ins2 S ins pc a b L st h k z = some o) : x_ge k z o := by
  unfold x_ins2 at hi
  split at hi
  · exact x_ge_a1 hi fun _ _ hj => x_ge_ob hj fun _ _ hj => x_ge_bif hj (fun hj => by
      split at hj
      · exact x_ge_go hj
      · exact x_ge_none hj) x_ge_none
  · exact x_ge_av hi fun _ _ _ hj => x_ge_ob hj fun _ _ hj => x_ge_bif hj (fun hj => x_ge_go hj) x_ge_none
  · exact x_ge_ai hi fun _ _ _ hj => x_ge_bif hj (fun hj => by
      split at hj
      · exact x_ge_in hj fun hj => x_ge_go hj
      · exact x_ge_none hj) (fun hj => x_ge_ari hj fun _ _ hj => x_ge_in hj fun hj => x_ge_go hj)
  · exact x_ge_aii hi fun _ _ _ _ hj => x_ge_ari hj fun _ _ hj => x_ge_in hj fun hj => x_ge_go hj
  · refine x_ge_ai hi fun _ _ _ hj => ?_
    split at hj
    · exact x_ge_in hj fun hj => x_ge_go hj
    · exact x_ge_in hj fun hj => x_ge_go hj
    · exact x_ge_none hj
  · refine x_ge_aii hi fun _ _ _ _ hj => ?_
    split at hj
    · exact x_ge_in hj fun hj => x_ge_go hj
    · exact x_ge_in hj fun hj => x_ge_go hj
    · exact x_ge_none hj
  · exact x_ge_ai hi fun _ _ _ hj => x_ge_arl hj fun _ _ hj => x_ge_in hj fun hj => x_ge_go hj
  · exact x_ge_ail hi fun _ _ _ _ hj => x_ge_arl hj fun _ _ hj => x_ge_in hj fun hj => x_ge_go hj
  · exact x_ge_ai hi fun _ _ _ hj => x_ge_arq hj fun _ _ _ hj => x_ge_bif hj (fun hj => x_ge_in hj fun hj => x_ge_go hj) x_ge_none
  · exact x_ge_aiq hi fun _ _ _ _ hj => x_ge_arq hj fun _ _ _ hj => x_ge_ob hj fun _ _ hj => x_ge_bif hj (fun hj => x_ge_in hj fun hj => x_ge_go hj) x_ge_none
  · exact x_ge_a1 hi fun _ _ hj => x_ge_bif hj (fun hj => by
      split at hj
      · exact x_ge_go hj
      · exact x_ge_none hj) (fun hj => x_ge_ar hj fun _ hj => x_ge_go hj)
  · refine x_ge_i1 hi fun _ _ hj => x_ge_ite hj x_ge_none fun hj => ?_
    split at hj <;> first | exact x_ge_go hj | exact x_ge_none hj
  · exact x_ge_i1 hi fun _ _ hj => x_ge_ite hj x_ge_none fun hj => x_ge_go hj
  · exact x_ge_ite hi x_ge_none fun hj => x_ge_go hj
  · exact x_ge_none hi
theorem x_ge_cal {sb : Bool} {n : Nat} (hi : x_cal sb a n st = some o) : x_ge k z o := by
  obtain ⟨vs, rest, -, -, ⟨-, ho, -⟩ | ⟨-, q, ho, -⟩⟩ := x_cal_of hi <;> (rw [ho]; exact trivial)
set_option maxHeartbeats 4000000 in
theorem x_ge3 (hi : x_ins3 ins pc a b L st h k z = some o) : x_ge k z o := by
  unfold x_ins3 at hi
  split at hi
  · exact x_ge_bif hi (fun hj => x_ge_a1 hj fun _ _ hj => x_ge_bif hj (fun hj => x_ge_go hj) x_ge_none) (fun hj => x_ge_cal hj)
  · exact x_ge_bif hi (fun hj => x_ge_a1 hj fun _ _ hj => x_ge_bif hj (fun hj => by
        split at hj
        · exact x_ge_go hj
        · exact x_ge_none hj) x_ge_none) (fun hj => x_ge_bif hj (fun hj => x_ge_ai hj fun _ _ _ hj => x_ge_bif hj (fun hj => by
        split at hj
        · exact x_ge_in hj fun hj => x_ge_go hj
        · exact x_ge_none hj) x_ge_none) (fun hj => x_ge_cal hj))
  · exact x_ge_bif hi (fun hj => x_ge_i2 hj fun _ _ _ hj => x_ge_bif hj (fun hj => x_ge_go hj) x_ge_none) (fun hj =>
      x_ge_bif hj (fun hj => x_ge_i2 hj fun _ _ _ hj => x_ge_bif hj (fun hj => x_ge_go hj) x_ge_none) (fun hj =>
      x_ge_bif hj (fun hj => x_ge_i1 hj fun _ _ hj => x_ge_bif hj (fun hj => x_ge_go hj) x_ge_none) (fun hj =>
      x_ge_bif hj (fun hj => x_ge_cp hj fun _ _ _ _ _ _ hj => x_ge_bif hj (fun hj => x_ge_ari hj fun _ _ hj => x_ge_ari hj fun _ _ hj => x_ge_ite hj x_ge_none fun hj => x_ge_go hj) x_ge_none) (fun hj =>
      x_ge_bif hj (fun hj => x_ge_cp hj fun _ _ _ _ _ _ hj => x_ge_bif hj (fun hj => x_ge_arl hj fun _ _ hj => x_ge_arl hj fun _ _ hj => x_ge_ite hj x_ge_none fun hj => x_ge_go hj) x_ge_none) (fun hj => x_ge_cal hj)))))
  · exact x_ge_none hi
end XG
theorem x_ge_step {M : xM} {S : Option xS} {c : xC} {o} (hi : x_step M S c = some o) : x_ge c.2.2.2.2.1 c.2.2.2.2.2 o := by
  unfold x_step at hi
  split at hi
  · cases hi
  · split at hi
    · exact x_ge1 hi
    · exact x_ge2 hi
    · exact x_ge3 hi
    · split at hi
      · have := Option.some.inj hi
        rw [← this]; exact trivial
      · cases hi
theorem x_mono {mt : List xM} : ∀ (n d : Nat) (M : xM) (S : Option xS) (c0 : xC) (v : Option Value) (h' : xH) (k' z' : Nat), x_run mt S n d M c0 = some (v, h', k', z') → c0.2.2.2.2.1 ≤ k' ∧ c0.2.2.2.2.2 ≤ z' := by
  intro n
  induction n with
  | zero => intro d M S c0 v h' k' z' hr; cases hr
  | succ n ih =>
    intro d M S c0 v h' k' z' hr
    unfold x_run at hr
    cases hs : x_step M S c0 with
    | none => rw [hs] at hr; cases hr
    | some o =>
      rw [hs] at hr
      have hg := x_ge_step hs
      obtain c' | q | u := o
      · have := ih d M S c' v h' k' z' hr
        exact ⟨Nat.le_trans hg.1 this.1, Nat.le_trans hg.2 this.2⟩
      · cases d with
        | zero => cases hr
        | succ d' =>
          dsimp only at hr
          cases hM : mt[q.1]? with
          | none => rw [hM] at hr; cases hr
          | some M' =>
            rw [hM] at hr
            dsimp only at hr
            cases hb : (Nat.ble (x_cat q.2.1) M'.2.2.2.1 && x_rcv M' q.2.1 c0.2.2.2.1) with
            | false => rw [hb] at hr; cases hr
            | true =>
              rw [hb] at hr
              dsimp only [cond] at hr
              split at hr
              · rename_i r hr1
                have := ih _ M S _ v h' k' z' hr
                exact ⟨Nat.le_trans (Nat.le_add_right _ _) this.1, Nat.le_trans (Nat.le_add_right _ _) this.2⟩
              · cases hr
      · cases hr
        exact ⟨Nat.le_refl _, Nat.le_refl _⟩

theorem x_GoodIn {M : xM} (hM : Cond.code (x_nm M) (x_cc M) (x_ml M) (x_rt M) ∈ x_bw) : GoodIn x_bw (x_ws M) := by
  intro w hw
  have h : w ∈ x_bw := by
    rcases List.mem_cons.mp hw with rfl | h
    · exact hM
    · exact h
  exact ⟨h, good_of_word (x_bw_good w h)⟩
set_option maxHeartbeats 4000000 in
theorem x_walk {mt : List xM} (hC : x_okC) (hmt : ∀ (i : Nat) (M : xM), mt[i]? = some M → x_okM mt M) : ∀ (n d : Nat) (M : xM) (S : Option xS) (c0 : xC) (v : Option Value) (h' : xH) (k' z' : Nat), (∀ q ∈ x_rws M, ∀ r ∈ q.2, x_okR mt M r) → x_run mt S n d M c0 = some (v, h', k', z') → x_Wk mt d M S c0 v h' k' z' := by
  intro n
  induction n with
  | zero => intro d M S c0 v h' k' z' hM hr; cases hr
  | succ n ih =>
    intro d M S c0 v h' k' z' hM hr
    have hmo := x_mono (n + 1) d M S c0 v h' k' z' hr
    refine ⟨hmo.1, hmo.2, ?_⟩
    intro p l e R s m args below meth c Q base ad D H locs ls hx hb hml hmn X hSc hR hkR hzR hl hend
    obtain ⟨pc, L, st, h, k, z⟩ := c0
    dsimp only at hmo X hl ⊢
    unfold x_run at hr
    cases hs : x_step M S (pc, L, st, h, k, z) with
    | none => rw [hs] at hr; cases hr
    | some o =>
      rw [hs] at hr
      have hmls : c.maxLocals = ls.size := hml.trans hl.1.symm
      unfold x_step at hs
      dsimp only at hs
      cases hrow : x_row (x_rws M) pc with
      | none => rw [show x_row M.2.2.2.2.2.2.2 pc = none from hrow] at hs; cases hs
      | some r =>
        rw [show x_row M.2.2.2.2.2.2.2 pc = some r from hrow] at hs
        obtain ⟨⟨q, hq, hrq⟩, hpc⟩ := x_row_mem hrow
        obtain ⟨hd, hlen, hg⟩ := hM q hq r hrq
        rw [hpc] at hd
        obtain ⟨rpc, ins, len, a, b, w⟩ := r
        dsimp only at hs hd hlen hg
        cases hgr : x_grp ins with
        | zero =>
          rw [hgr] at hs hg
          cases hv : x_ret M.2.2.2.2.1 ins st with
          | none => rw [hv] at hs; cases hs
          | some u =>
            rw [hv] at hs
            cases hs
            cases hr
            have hl1 : len = 1 := by
              unfold x_ret at hv
              split at hv <;> first | exact hlen | cases hv
            subst hl1
            exact hend H locs ls pc ins st hd hv X
        | succ g =>
          rw [hgr] at hs hg
          cases g with
          | zero =>
            obtain ⟨pc', L', st', rfl, kk⟩ := x_s1 (p := p) (l := l) (e := e) (R := R) (below := below) (meth := meth) (H := H) (locs := locs) (cells := k) (slots := z) (Q := Q) hx hb X.1 X.2.1 hd hlen hg hSc.2.2.2.2 hs hl
            exact kk fun ls' hl' => (ih d M S _ v h' k' z' hM hr).2.2 hx hb hml hmn X hSc hR hkR hzR hl' hend
          | succ g =>
            cases g with
            | zero =>
              obtain ⟨pc', st', h1, k1, z1, rfl, hk1, hz1, kk⟩ := x_s2 (p := p) (l := l) (e := e) (R := R) (below := below) (meth := meth) (Q := Q) (ls := ls) hC hx hb hmn X hSc hd hlen hg hs
              have hm2 := x_mono n d M S _ v h' k' z' hr
              exact kk (Nat.le_trans hm2.1 hkR) (Nat.le_trans hm2.2 hzR) fun H1 locs1 X1 => (ih d M S _ v h' k' z' hM hr).2.2 hx hb hml hmn X1 hSc hR hkR hzR hl hend
            | succ g =>
              cases g with
              | zero =>
                rcases x_s3 (p := p) (l := l) (e := e) (R := R) (below := below) (meth := meth) (Q := Q) (ls := ls) hx hb hmls X hSc.2 hR hd hlen hg hs (Nat.le_trans hmo.1 hkR) (Nat.le_trans hmo.2 hzR) with ⟨pc', st', h1, k1, z1, rfl, hk1, hz1, kk⟩ | ⟨i, vs, rest, h8, hvl, hcall⟩
                · have hm2 := x_mono n d M S _ v h' k' z' hr
                  exact kk (Nat.le_trans hm2.1 hkR) (Nat.le_trans hm2.2 hzR) fun H1 locs1 X1 => (ih d M S _ v h' k' z' hM hr).2.2 hx hb hml hmn X1 hSc hR hkR hzR hl hend
                · have hres : ∃ vs' : List Value, o = .inr (.inl (a, vs', rest)) := by
                    rcases hcall with ⟨-, -, ho, -⟩ | ⟨q, sp, -, -, ho, -⟩
                    · exact ⟨_, ho⟩
                    · exact ⟨_, ho⟩
                  obtain ⟨vs', ho⟩ := hres
                  subst ho
                  cases d with
                  | zero => cases hr
                  | succ d' =>
                    dsimp only at hr
                    cases hMM : mt[a]? with
                    | none => rw [hMM] at hr; cases hr
                    | some M' =>
                      rw [hMM] at hr
                      dsimp only at hr
                      cases hbb : (Nat.ble (x_cat vs') M'.2.2.2.1 && x_rcv M' vs' h) with
                      | false => rw [hbb] at hr; cases hr
                      | true =>
                        rw [hbb] at hr
                        dsimp only [cond] at hr
                        have hbb := Bool.and_eq_true_iff.mp hbb
                        have hcat := Nat.le_of_ble_eq_true hbb.1
                        cases hr1 : x_run mt none n d' M' (0, lv_args 0 vs', [], h, 0, 0) with
                        | none => rw [hr1] at hr; cases hr
                        | some rr =>
                          obtain ⟨v1, h1, mc, ms⟩ := rr
                          rw [hr1] at hr
                          dsimp only at hr
                          have okM' := hmt a M' hMM
                          have hm2 := x_mono n (d' + 1) M S _ v h' k' z' hr
                          dsimp only at hm2
                          have wk1 := ih d' M' none _ v1 h1 mc ms okM'.2.2.2.2.2.2.2.2.2 hr1
                          have met := x_met (l := l) (base := base) (ad := ad) (D := D) okM' wk1 hcat
                          have after : ∀ (H1 : Heap) (locs1 : List Loc), x_At s m args (x_own M) D base ad h1 H1 locs1 → W p l e R s m args below meth c H1 locs1 (k + mc) (z + ms) Q (F0 m (pc + 3) ls ((v1.map (x_cv ad)).toList ++ rest.map (x_cv ad))) := by
                            intro H1 locs1 X1
                            have := (ih (d' + 1) M S _ v h' k' z' hM hr).2.2 hx hb hml hmn X1 hSc hR hkR hzR hl hend
                            dsimp only at this
                            cases v1 with
                            | none => exact this
                            | some u => exact this
                          obtain ⟨o1, o2, o3, o4, o5, o6, o7, o8, o9, -⟩ := okM'
                          have hG := x_GoodIn o5
                          obtain ⟨hown, hts, hK, hbase, w, hS⟩ := id X
                          have hroom : (x_room d' mc ms).frames + 1 ≤ R.frames ∧ 8 + (x_ml M' + 11) + (x_room d' mc ms).locals ≤ R.locals := by
                            have q1 := hR.1
                            have q2 := hR.2
                            constructor
                            · show d' + 5 + 1 ≤ _; omega
                            · show 8 + (x_ml M' + 11) + 37 * (d' + 5) ≤ _; omega
                          have hcells : k + mc ≤ R.cells ∧ z + ms ≤ R.slots := ⟨Nat.le_trans hm2.1 hkR, Nat.le_trans hm2.2 hzR⟩
                          have hpre : ∀ U : State, U.heap = H → s.WarmedH U.vm → x_Pc base ad D vs' h (vs'.map (x_cv ad)).toArray U := x_jpre X hSc.2
                          rcases hcall with ⟨hdi, ⟨M2, e2, hlk, hsta, hsp, hsn, hpar⟩, ho, hst⟩ | ⟨q, sp, hdi, ⟨M2, e2, hlk, hsta, hsp, hsn, hpar⟩, ho, hst⟩
                          · rw [hMM] at e2
                            cases e2
                            cases ho
                            have cb := callB_of (R := R) (s := s) (args := args) (own := x_own M) (index := i) (y := x_nm M') (bytes := x_cc M') (maxL := x_ml M') (ret := x_rt M') (ws := x_ws M') (rm := x_room d' mc ms) (mc := mc) (ms := ms) b hts hG rfl rfl rfl (hts _ o6) (hts _ hlk) ⟨o3.1, o3.2, hpar⟩ hroom
                            rw [hst, List.map_append, List.map_reverse]
                            refine x_cont X (va_runS (As := vs.map (x_cv ad)) (rest := rest.map (x_cv ad)) ⟨hx, hb, hml, hown, hts⟩ met ⟨cb, hts _ (o7 hsta)⟩ ⟨x_Pc_blind, hpre⟩ rfl (by rw [List.length_map]; exact hvl) hl.1 rfl (lv_room (by rw [x_cat_map]; exact h8)) hdi hcells) after
                          · rw [hMM] at e2
                            cases e2
                            cases ho
                            have cb := callB_of (R := R) (s := s) (args := args) (own := x_own M) (index := i) (y := x_nm M') (bytes := x_cc M') (maxL := x_ml M') (ret := x_rt M') (ws := x_ws M') (rm := x_room d' mc ms) (mc := mc) (ms := ms) b hts hG rfl rfl rfl (hts _ o6) (hts _ hlk) ⟨o3.1, o3.2, hpar⟩ hroom
                            rw [hst, List.map_append, List.map_reverse]
                            obtain ⟨o8a, T, N, hcl⟩ := o8 hsta
                            rcases hdi with ⟨rfl, hdi⟩ | ⟨rfl, hdi⟩
                            · have hrc : ∃ cell : Cell, H[ad q]? = some cell ∧ cell.vm.isStatics = false ∧ s.vm.findClass (x_nm M').cls = some cell.cls := by
                                have hrv := hbb.2
                                unfold x_rcv at hrv
                                rw [show M'.2.2.2.2.2.1 = false from hsta] at hrv
                                dsimp only [Bool.false_or] at hrv
                                split at hrv
                                · rename_i ci fs hq
                                  have hci := Nat.eq_of_beq_eq_true hrv
                                  subst hci
                                  obtain ⟨-, -, -, cs, hP, -⟩ := w
                                  rw [o2]
                                  exact va_recv hK hP hcl (x_cw_get hq)
                                · cases hrv
                              have hini := hsn rfl
                              · refine x_cont X (va_runV (As := vs.map (x_cv ad)) (rest := rest.map (x_cv ad)) ⟨hx, hb, hml, hown, hts⟩ met ⟨cb, hts _ o8a, hts _ (o9 hsta hini)⟩ ⟨x_Pc_blind, hrc, hpre⟩ rfl (by rw [List.length_map]; exact hvl) hl.1 rfl (lv_room (by rw [x_cat_map]; exact h8)) hdi hcells) after
                            · obtain ⟨hin, hrt⟩ := hsp rfl
                              have cb' : CallB R s args (x_own M) i (x_nm M') (x_cc M') (x_ml M') none (x_ws M') (x_room d' mc ms) mc ms b := by rw [← hrt]; exact cb
                              refine x_cont X (va_runI (As := vs.map (x_cv ad)) (rest := rest.map (x_cv ad)) ⟨hx, hb, hml, hown, hts⟩ met ⟨cb', hin, hts _ o8a⟩ ⟨x_Pc_blind, hpre⟩ rfl (by rw [List.length_map]; exact hvl) hl.1 rfl (lv_room (by rw [x_cat_map]; exact h8)) hdi hcells) after
              | succ g =>
                cases hv : x_ret M.2.2.2.2.1 ins st with
                | none => rw [hv] at hs; cases hs
                | some u =>
                  rw [hv] at hs
                  cases hs
                  cases hr
                  have hl1 : len = 1 := by
                    unfold x_ret at hv
                    split at hv <;> first | exact hlen | cases hv
                  subst hl1
                  exact hend H locs ls pc ins st hd hv X
