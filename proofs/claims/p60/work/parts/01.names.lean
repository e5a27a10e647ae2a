-- ===== PART A: goes FIRST, ahead of the names: the tables' words, and 'selects' of the private methods out of them =====
/-- a private method of a class that the tables say can be made, by its rows of tables_1 -/
def lw_okq (q : MethodName × Nat) : Prop := (q.1.cls ≠ "java/lang/invoke/MethodHandle" ∧ q.1.cls ≠ "java/lang/invoke/VarHandle") ∧ Cond.instantiable q.1.cls q.2 ∈ tables_1 ∧ Cond.privateMethod q.1 ∈ tables_1 ∧ Cond.instanceMethod q.1 ∈ tables_1
theorem y_wt1 {i : Nat} {w : Cond} (e : tables_1_1[i]? = some w) : w ∈ tables_1 := (List.mem_append_left _ (List.mem_of_getElem? e))
theorem y_wt2 {i : Nat} {w : Cond} (e : tables_1_2[i]? = some w) : w ∈ tables_1 := (List.mem_append_right _ (List.mem_append_left _ (List.mem_of_getElem? e)))
theorem y_wt3 {i : Nat} {w : Cond} (e : tables_1_3[i]? = some w) : w ∈ tables_1 := (List.mem_append_right _ (List.mem_append_right _ (List.mem_append_left _ (List.mem_of_getElem? e))))
theorem y_wt4 {i : Nat} {w : Cond} (e : tables_1_4[i]? = some w) : w ∈ tables_1 := (List.mem_append_right _ (List.mem_append_right _ (List.mem_append_right _ (List.mem_append_left _ (List.mem_of_getElem? e)))))
theorem y_wt5 {i : Nat} {w : Cond} (e : tables_1_5[i]? = some w) : w ∈ tables_1 := (List.mem_append_right _ (List.mem_append_right _ (List.mem_append_right _ (List.mem_append_right _ (List.mem_append_left _ (List.mem_of_getElem? e))))))
theorem y_wt6 {i : Nat} {w : Cond} (e : tables_1_6[i]? = some w) : w ∈ tables_1 := (List.mem_append_right _ (List.mem_append_right _ (List.mem_append_right _ (List.mem_append_right _ (List.mem_append_right _ (List.mem_append_left _ (List.mem_of_getElem? e)))))))
theorem y_wt7 {i : Nat} {w : Cond} (e : tables_1_7[i]? = some w) : w ∈ tables_1 := (List.mem_append_right _ (List.mem_append_right _ (List.mem_append_right _ (List.mem_append_right _ (List.mem_append_right _ (List.mem_append_right _ (List.mem_append_left _ (List.mem_of_getElem? e))))))))
theorem y_wt8 {i : Nat} {w : Cond} (e : tables_1_8[i]? = some w) : w ∈ tables_1 := (List.mem_append_right _ (List.mem_append_right _ (List.mem_append_right _ (List.mem_append_right _ (List.mem_append_right _ (List.mem_append_right _ (List.mem_append_right _ (List.mem_append_left _ (List.mem_of_getElem? e)))))))))
theorem y_wt9 {i : Nat} {w : Cond} (e : tables_1_9[i]? = some w) : w ∈ tables_1 := (List.mem_append_right _ (List.mem_append_right _ (List.mem_append_right _ (List.mem_append_right _ (List.mem_append_right _ (List.mem_append_right _ (List.mem_append_right _ (List.mem_append_right _ (List.mem_of_getElem? e)))))))))
theorem lw_p0 : lw_okq (⟨"MoleBoard$Reader", "step", "()V"⟩, 9) := ⟨⟨by decide +kernel, by decide +kernel⟩, y_wt1 (i := 140) rfl, y_wt2 (i := 199) rfl, y_wt2 (i := 200) rfl⟩
theorem lw_p1 : lw_okq (⟨"MoleBoard$Reader", "readLine", "()V"⟩, 9) := ⟨⟨by decide +kernel, by decide +kernel⟩, y_wt1 (i := 140) rfl, y_wt2 (i := 220) rfl, y_wt2 (i := 221) rfl⟩
theorem lw_p2 : lw_okq (⟨"MoleBoard$Reader", "kindOfLine", "()I"⟩, 9) := ⟨⟨by decide +kernel, by decide +kernel⟩, y_wt1 (i := 140) rfl, y_wt2 (i := 224) rfl, y_wt2 (i := 225) rfl⟩
theorem lw_p3 : lw_okq (⟨"MoleBoard$Reader", "standsAt", "(Ljava/lang/String;I)Z"⟩, 9) := ⟨⟨by decide +kernel, by decide +kernel⟩, y_wt1 (i := 140) rfl, y_wt2 (i := 239) rfl, y_wt3 (i := 0) rfl⟩
theorem lw_p4 : lw_okq (⟨"MoleBoard$Reader", "isSpelled", "(Ljava/lang/String;I)Z"⟩, 9) := ⟨⟨by decide +kernel, by decide +kernel⟩, y_wt1 (i := 140) rfl, y_wt3 (i := 51) rfl, y_wt3 (i := 52) rfl⟩
theorem lw_p5 : lw_okq (⟨"MoleBoard$Reader", "blame", "(I)V"⟩, 9) := ⟨⟨by decide +kernel, by decide +kernel⟩, y_wt1 (i := 140) rfl, y_wt3 (i := 55) rfl, y_wt3 (i := 56) rfl⟩
theorem lw_p6 : lw_okq (⟨"MoleBoard$Reader", "isFull", "(I)Z"⟩, 9) := ⟨⟨by decide +kernel, by decide +kernel⟩, y_wt1 (i := 140) rfl, y_wt3 (i := 59) rfl, y_wt3 (i := 60) rfl⟩
theorem lw_p7 : lw_okq (⟨"MoleBoard$Reader", "judge", "(II)I"⟩, 9) := ⟨⟨by decide +kernel, by decide +kernel⟩, y_wt1 (i := 140) rfl, y_wt3 (i := 66) rfl, y_wt3 (i := 67) rfl⟩
theorem lw_p8 : lw_okq (⟨"MoleBoard$Reader", "fitsBoard", "(I)Z"⟩, 9) := ⟨⟨by decide +kernel, by decide +kernel⟩, y_wt1 (i := 140) rfl, y_wt3 (i := 70) rfl, y_wt3 (i := 71) rfl⟩
theorem lw_p9 : lw_okq (⟨"MoleBoard$Reader", "within", "(II)I"⟩, 9) := ⟨⟨by decide +kernel, by decide +kernel⟩, y_wt1 (i := 140) rfl, y_wt3 (i := 74) rfl, y_wt3 (i := 75) rfl⟩
theorem lw_p10 : lw_okq (⟨"MoleBoard$Reader", "judgeFrom", "()I"⟩, 9) := ⟨⟨by decide +kernel, by decide +kernel⟩, y_wt1 (i := 140) rfl, y_wt3 (i := 78) rfl, y_wt3 (i := 79) rfl⟩
theorem lw_p11 : lw_okq (⟨"MoleBoard$Reader", "isOpen", "()Z"⟩, 9) := ⟨⟨by decide +kernel, by decide +kernel⟩, y_wt1 (i := 140) rfl, y_wt3 (i := 90) rfl, y_wt3 (i := 91) rfl⟩
theorem lw_p12 : lw_okq (⟨"MoleBoard$Reader", "apply", "(I)V"⟩, 9) := ⟨⟨by decide +kernel, by decide +kernel⟩, y_wt1 (i := 140) rfl, y_wt3 (i := 115) rfl, y_wt3 (i := 116) rfl⟩
theorem lw_p13 : lw_okq (⟨"MoleBoard$Reader", "addPlayer", "()V"⟩, 9) := ⟨⟨by decide +kernel, by decide +kernel⟩, y_wt1 (i := 140) rfl, y_wt3 (i := 127) rfl, y_wt3 (i := 128) rfl⟩
theorem lw_p14 : lw_okq (⟨"MoleBoard", "rowsKept", "()I"⟩, 11) := ⟨⟨by decide +kernel, by decide +kernel⟩, y_wt1 (i := 22) rfl, y_wt3 (i := 184) rfl, y_wt3 (i := 185) rfl⟩
theorem lw_p15 : lw_okq (⟨"MoleBoard$Game", "begin", "()V"⟩, 7) := ⟨⟨by decide +kernel, by decide +kernel⟩, y_wt1 (i := 196) rfl, y_wt3 (i := 204) rfl, y_wt3 (i := 205) rfl⟩
def lw_privs_1 : List (MethodName × Nat) := [(⟨"MoleBoard$Reader", "step", "()V"⟩, 9), (⟨"MoleBoard$Reader", "readLine", "()V"⟩, 9), (⟨"MoleBoard$Reader", "kindOfLine", "()I"⟩, 9), (⟨"MoleBoard$Reader", "standsAt", "(Ljava/lang/String;I)Z"⟩, 9), (⟨"MoleBoard$Reader", "isSpelled", "(Ljava/lang/String;I)Z"⟩, 9), (⟨"MoleBoard$Reader", "blame", "(I)V"⟩, 9), (⟨"MoleBoard$Reader", "isFull", "(I)Z"⟩, 9), (⟨"MoleBoard$Reader", "judge", "(II)I"⟩, 9), (⟨"MoleBoard$Reader", "fitsBoard", "(I)Z"⟩, 9), (⟨"MoleBoard$Reader", "within", "(II)I"⟩, 9), (⟨"MoleBoard$Reader", "judgeFrom", "()I"⟩, 9), (⟨"MoleBoard$Reader", "isOpen", "()Z"⟩, 9), (⟨"MoleBoard$Reader", "apply", "(I)V"⟩, 9), (⟨"MoleBoard$Reader", "addPlayer", "()V"⟩, 9), (⟨"MoleBoard", "rowsKept", "()I"⟩, 11), (⟨"MoleBoard$Game", "begin", "()V"⟩, 7)]
theorem lw_r1 : ∀ q ∈ lw_privs_1, lw_okq q := List.forall_mem_cons.mpr ⟨lw_p0, List.forall_mem_cons.mpr ⟨lw_p1, List.forall_mem_cons.mpr ⟨lw_p2, List.forall_mem_cons.mpr ⟨lw_p3, List.forall_mem_cons.mpr ⟨lw_p4, List.forall_mem_cons.mpr ⟨lw_p5, List.forall_mem_cons.mpr ⟨lw_p6, List.forall_mem_cons.mpr ⟨lw_p7, List.forall_mem_cons.mpr ⟨lw_p8, List.forall_mem_cons.mpr ⟨lw_p9, List.forall_mem_cons.mpr ⟨lw_p10, List.forall_mem_cons.mpr ⟨lw_p11, List.forall_mem_cons.mpr ⟨lw_p12, List.forall_mem_cons.mpr ⟨lw_p13, List.forall_mem_cons.mpr ⟨lw_p14, List.forall_mem_cons.mpr ⟨lw_p15, fun _ h => absurd h List.not_mem_nil⟩⟩⟩⟩⟩⟩⟩⟩⟩⟩⟩⟩⟩⟩⟩⟩
theorem lw_p16 : lw_okq (⟨"MoleBoard$Game", "hasRoom", "(LMoleBoard$Board;)Z"⟩, 7) := ⟨⟨by decide +kernel, by decide +kernel⟩, y_wt1 (i := 196) rfl, y_wt3 (i := 209) rfl, y_wt3 (i := 210) rfl⟩
theorem lw_p17 : lw_okq (⟨"MoleBoard$Game", "add", "(LMoleBoard$Board;III)V"⟩, 7) := ⟨⟨by decide +kernel, by decide +kernel⟩, y_wt1 (i := 196) rfl, y_wt3 (i := 215) rfl, y_wt3 (i := 216) rfl⟩
theorem lw_p18 : lw_okq (⟨"MoleBoard", "makeReady", "(I)Z"⟩, 11) := ⟨⟨by decide +kernel, by decide +kernel⟩, y_wt1 (i := 22) rfl, y_wt4 (i := 33) rfl, y_wt4 (i := 34) rfl⟩
theorem lw_p19 : lw_okq (⟨"MoleBoard", "runOf", "(I)Z"⟩, 11) := ⟨⟨by decide +kernel, by decide +kernel⟩, y_wt1 (i := 22) rfl, y_wt4 (i := 47) rfl, y_wt4 (i := 48) rfl⟩
theorem lw_p20 : lw_okq (⟨"MoleBoard$Run", "begin", "(LMoleBoard$Game;LMoleBoard$Player;)V"⟩, 9) := ⟨⟨by decide +kernel, by decide +kernel⟩, y_wt2 (i := 29) rfl, y_wt4 (i := 55) rfl, y_wt4 (i := 56) rfl⟩
theorem lw_p21 : lw_okq (⟨"MoleBoard$Run", "goFor", "(LMoleBoard$Board;LMoleBoard$Game;LMoleBoard$Player;II)V"⟩, 9) := ⟨⟨by decide +kernel, by decide +kernel⟩, y_wt2 (i := 29) rfl, y_wt4 (i := 59) rfl, y_wt4 (i := 60) rfl⟩
theorem lw_p22 : lw_okq (⟨"MoleBoard$Run", "strike", "(LMoleBoard$Board;LMoleBoard$Game;LMoleBoard$Player;II)Z"⟩, 9) := ⟨⟨by decide +kernel, by decide +kernel⟩, y_wt2 (i := 29) rfl, y_wt4 (i := 67) rfl, y_wt4 (i := 68) rfl⟩
theorem lw_p23 : lw_okq (⟨"MoleBoard$Best", "keep", "(III)V"⟩, 1) := ⟨⟨by decide +kernel, by decide +kernel⟩, y_wt2 (i := 67) rfl, y_wt4 (i := 134) rfl, y_wt4 (i := 135) rfl⟩
theorem lw_p24 : lw_okq (⟨"MoleBoard$Best", "goOn", "(LMoleBoard$Board;LMoleBoard$Game;LMoleBoard$Player;II)I"⟩, 1) := ⟨⟨by decide +kernel, by decide +kernel⟩, y_wt2 (i := 67) rfl, y_wt4 (i := 138) rfl, y_wt4 (i := 139) rfl⟩
theorem lw_p25 : lw_okq (⟨"MoleBoard$Best", "freeAt", "(II)I"⟩, 1) := ⟨⟨by decide +kernel, by decide +kernel⟩, y_wt2 (i := 67) rfl, y_wt4 (i := 143) rfl, y_wt4 (i := 144) rfl⟩
theorem lw_p26 : lw_okq (⟨"MoleBoard", "hitsKnowing", "(I)I"⟩, 11) := ⟨⟨by decide +kernel, by decide +kernel⟩, y_wt1 (i := 22) rfl, y_wt4 (i := 155) rfl, y_wt4 (i := 156) rfl⟩
theorem lw_p27 : lw_okq (⟨"MoleBoard", "hitsLagging", "(I)I"⟩, 11) := ⟨⟨by decide +kernel, by decide +kernel⟩, y_wt1 (i := 22) rfl, y_wt4 (i := 172) rfl, y_wt4 (i := 173) rfl⟩
theorem lw_p28 : lw_okq (⟨"MoleBoard", "countLots", "(II)Z"⟩, 11) := ⟨⟨by decide +kernel, by decide +kernel⟩, y_wt1 (i := 22) rfl, y_wt4 (i := 220) rfl, y_wt4 (i := 221) rfl⟩
theorem lw_p29 : lw_okq (⟨"MoleBoard$Lots", "waysTo", "(II)J"⟩, 2) := ⟨⟨by decide +kernel, by decide +kernel⟩, y_wt2 (i := 77) rfl, y_wt5 (i := 3) rfl, y_wt5 (i := 4) rfl⟩
theorem lw_p30 : lw_okq (⟨"MoleBoard$Lots", "growFrom", "(LMoleBoard$Board;III)V"⟩, 2) := ⟨⟨by decide +kernel, by decide +kernel⟩, y_wt2 (i := 77) rfl, y_wt5 (i := 7) rfl, y_wt5 (i := 8) rfl⟩
theorem lw_p31 : lw_okq (⟨"MoleBoard", "whyUnheard", "(I)I"⟩, 11) := ⟨⟨by decide +kernel, by decide +kernel⟩, y_wt1 (i := 22) rfl, y_wt5 (i := 55) rfl, y_wt5 (i := 56) rfl⟩
def lw_privs_2 : List (MethodName × Nat) := [(⟨"MoleBoard$Game", "hasRoom", "(LMoleBoard$Board;)Z"⟩, 7), (⟨"MoleBoard$Game", "add", "(LMoleBoard$Board;III)V"⟩, 7), (⟨"MoleBoard", "makeReady", "(I)Z"⟩, 11), (⟨"MoleBoard", "runOf", "(I)Z"⟩, 11), (⟨"MoleBoard$Run", "begin", "(LMoleBoard$Game;LMoleBoard$Player;)V"⟩, 9), (⟨"MoleBoard$Run", "goFor", "(LMoleBoard$Board;LMoleBoard$Game;LMoleBoard$Player;II)V"⟩, 9), (⟨"MoleBoard$Run", "strike", "(LMoleBoard$Board;LMoleBoard$Game;LMoleBoard$Player;II)Z"⟩, 9), (⟨"MoleBoard$Best", "keep", "(III)V"⟩, 1), (⟨"MoleBoard$Best", "goOn", "(LMoleBoard$Board;LMoleBoard$Game;LMoleBoard$Player;II)I"⟩, 1), (⟨"MoleBoard$Best", "freeAt", "(II)I"⟩, 1), (⟨"MoleBoard", "hitsKnowing", "(I)I"⟩, 11), (⟨"MoleBoard", "hitsLagging", "(I)I"⟩, 11), (⟨"MoleBoard", "countLots", "(II)Z"⟩, 11), (⟨"MoleBoard$Lots", "waysTo", "(II)J"⟩, 2), (⟨"MoleBoard$Lots", "growFrom", "(LMoleBoard$Board;III)V"⟩, 2), (⟨"MoleBoard", "whyUnheard", "(I)I"⟩, 11)]
theorem lw_r2 : ∀ q ∈ lw_privs_2, lw_okq q := List.forall_mem_cons.mpr ⟨lw_p16, List.forall_mem_cons.mpr ⟨lw_p17, List.forall_mem_cons.mpr ⟨lw_p18, List.forall_mem_cons.mpr ⟨lw_p19, List.forall_mem_cons.mpr ⟨lw_p20, List.forall_mem_cons.mpr ⟨lw_p21, List.forall_mem_cons.mpr ⟨lw_p22, List.forall_mem_cons.mpr ⟨lw_p23, List.forall_mem_cons.mpr ⟨lw_p24, List.forall_mem_cons.mpr ⟨lw_p25, List.forall_mem_cons.mpr ⟨lw_p26, List.forall_mem_cons.mpr ⟨lw_p27, List.forall_mem_cons.mpr ⟨lw_p28, List.forall_mem_cons.mpr ⟨lw_p29, List.forall_mem_cons.mpr ⟨lw_p30, List.forall_mem_cons.mpr ⟨lw_p31, fun _ h => absurd h List.not_mem_nil⟩⟩⟩⟩⟩⟩⟩⟩⟩⟩⟩⟩⟩⟩⟩⟩
theorem lw_p32 : lw_okq (⟨"MoleBoard$Row", "isPeriod", "(I)Z"⟩, 3) := ⟨⟨by decide +kernel, by decide +kernel⟩, y_wt2 (i := 114) rfl, y_wt5 (i := 70) rfl, y_wt5 (i := 71) rfl⟩
theorem lw_p33 : lw_okq (⟨"MoleBoard$Drum", "alike", "(II)I"⟩, 5) := ⟨⟨by decide +kernel, by decide +kernel⟩, y_wt1 (i := 36) rfl, y_wt5 (i := 112) rfl, y_wt5 (i := 113) rfl⟩
theorem lw_p34 : lw_okq (⟨"MoleBoard", "lookPoints", "(I)I"⟩, 11) := ⟨⟨by decide +kernel, by decide +kernel⟩, y_wt1 (i := 22) rfl, y_wt5 (i := 134) rfl, y_wt5 (i := 135) rfl⟩
theorem lw_p35 : lw_okq (⟨"MoleBoard", "ticketsOfRun", "()I"⟩, 11) := ⟨⟨by decide +kernel, by decide +kernel⟩, y_wt1 (i := 22) rfl, y_wt5 (i := 160) rfl, y_wt5 (i := 161) rfl⟩
theorem lw_p36 : lw_okq (⟨"MoleBoard", "whyNoBlows", "(I)I"⟩, 11) := ⟨⟨by decide +kernel, by decide +kernel⟩, y_wt1 (i := 22) rfl, y_wt5 (i := 172) rfl, y_wt5 (i := 173) rfl⟩
theorem lw_p37 : lw_okq (⟨"MoleBoard$Blows", "judgeOne", "(LMoleBoard$Game;III)V"⟩, 4) := ⟨⟨by decide +kernel, by decide +kernel⟩, y_wt2 (i := 91) rfl, y_wt5 (i := 180) rfl, y_wt5 (i := 181) rfl⟩
theorem lw_p38 : lw_okq (⟨"MoleBoardModel", "advance", "()V"⟩, 47) := ⟨⟨by decide +kernel, by decide +kernel⟩, y_wt6 (i := 73) rfl, y_wt7 (i := 9) rfl, y_wt7 (i := 10) rfl⟩
theorem lw_p39 : lw_okq (⟨"MoleBoardModel", "see", "(I)I"⟩, 47) := ⟨⟨by decide +kernel, by decide +kernel⟩, y_wt6 (i := 73) rfl, y_wt7 (i := 13) rfl, y_wt7 (i := 14) rfl⟩
theorem lw_p40 : lw_okq (⟨"MoleBoardModel", "good", "()Z"⟩, 47) := ⟨⟨by decide +kernel, by decide +kernel⟩, y_wt6 (i := 73) rfl, y_wt7 (i := 23) rfl, y_wt7 (i := 24) rfl⟩
theorem lw_p41 : lw_okq (⟨"MoleBoardModel", "readLine", "()V"⟩, 47) := ⟨⟨by decide +kernel, by decide +kernel⟩, y_wt6 (i := 73) rfl, y_wt7 (i := 27) rfl, y_wt7 (i := 28) rfl⟩
theorem lw_p42 : lw_okq (⟨"MoleBoardModel", "readFirst", "()V"⟩, 47) := ⟨⟨by decide +kernel, by decide +kernel⟩, y_wt6 (i := 73) rfl, y_wt7 (i := 31) rfl, y_wt7 (i := 32) rfl⟩
theorem lw_p43 : lw_okq (⟨"MoleBoardModel", "needs", "(Ljava/lang/String;)V"⟩, 47) := ⟨⟨by decide +kernel, by decide +kernel⟩, y_wt6 (i := 73) rfl, y_wt7 (i := 36) rfl, y_wt7 (i := 37) rfl⟩
theorem lw_p44 : lw_okq (⟨"MoleBoardModel", "takes", "(Ljava/lang/String;)Z"⟩, 47) := ⟨⟨by decide +kernel, by decide +kernel⟩, y_wt6 (i := 73) rfl, y_wt7 (i := 40) rfl, y_wt7 (i := 41) rfl⟩
theorem lw_p45 : lw_okq (⟨"MoleBoardModel", "is", "(Ljava/lang/String;)Z"⟩, 47) := ⟨⟨by decide +kernel, by decide +kernel⟩, y_wt6 (i := 73) rfl, y_wt7 (i := 44) rfl, y_wt7 (i := 45) rfl⟩
theorem lw_p46 : lw_okq (⟨"MoleBoardModel", "errs", "(I)V"⟩, 47) := ⟨⟨by decide +kernel, by decide +kernel⟩, y_wt6 (i := 73) rfl, y_wt7 (i := 50) rfl, y_wt7 (i := 51) rfl⟩
theorem lw_p47 : lw_okq (⟨"MoleBoardModel", "told", "(Ljava/lang/String;II)I"⟩, 47) := ⟨⟨by decide +kernel, by decide +kernel⟩, y_wt6 (i := 73) rfl, y_wt7 (i := 55) rfl, y_wt7 (i := 56) rfl⟩
def lw_privs_3 : List (MethodName × Nat) := [(⟨"MoleBoard$Row", "isPeriod", "(I)Z"⟩, 3), (⟨"MoleBoard$Drum", "alike", "(II)I"⟩, 5), (⟨"MoleBoard", "lookPoints", "(I)I"⟩, 11), (⟨"MoleBoard", "ticketsOfRun", "()I"⟩, 11), (⟨"MoleBoard", "whyNoBlows", "(I)I"⟩, 11), (⟨"MoleBoard$Blows", "judgeOne", "(LMoleBoard$Game;III)V"⟩, 4), (⟨"MoleBoardModel", "advance", "()V"⟩, 47), (⟨"MoleBoardModel", "see", "(I)I"⟩, 47), (⟨"MoleBoardModel", "good", "()Z"⟩, 47), (⟨"MoleBoardModel", "readLine", "()V"⟩, 47), (⟨"MoleBoardModel", "readFirst", "()V"⟩, 47), (⟨"MoleBoardModel", "needs", "(Ljava/lang/String;)V"⟩, 47), (⟨"MoleBoardModel", "takes", "(Ljava/lang/String;)Z"⟩, 47), (⟨"MoleBoardModel", "is", "(Ljava/lang/String;)Z"⟩, 47), (⟨"MoleBoardModel", "errs", "(I)V"⟩, 47), (⟨"MoleBoardModel", "told", "(Ljava/lang/String;II)I"⟩, 47)]
theorem lw_r3 : ∀ q ∈ lw_privs_3, lw_okq q := List.forall_mem_cons.mpr ⟨lw_p32, List.forall_mem_cons.mpr ⟨lw_p33, List.forall_mem_cons.mpr ⟨lw_p34, List.forall_mem_cons.mpr ⟨lw_p35, List.forall_mem_cons.mpr ⟨lw_p36, List.forall_mem_cons.mpr ⟨lw_p37, List.forall_mem_cons.mpr ⟨lw_p38, List.forall_mem_cons.mpr ⟨lw_p39, List.forall_mem_cons.mpr ⟨lw_p40, List.forall_mem_cons.mpr ⟨lw_p41, List.forall_mem_cons.mpr ⟨lw_p42, List.forall_mem_cons.mpr ⟨lw_p43, List.forall_mem_cons.mpr ⟨lw_p44, List.forall_mem_cons.mpr ⟨lw_p45, List.forall_mem_cons.mpr ⟨lw_p46, List.forall_mem_cons.mpr ⟨lw_p47, fun _ h => absurd h List.not_mem_nil⟩⟩⟩⟩⟩⟩⟩⟩⟩⟩⟩⟩⟩⟩⟩⟩
theorem lw_p48 : lw_okq (⟨"MoleBoardModel", "number", "(II)I"⟩, 47) := ⟨⟨by decide +kernel, by decide +kernel⟩, y_wt6 (i := 73) rfl, y_wt7 (i := 59) rfl, y_wt7 (i := 60) rfl⟩
theorem lw_p49 : lw_okq (⟨"MoleBoardModel", "readNext", "()V"⟩, 47) := ⟨⟨by decide +kernel, by decide +kernel⟩, y_wt6 (i := 73) rfl, y_wt7 (i := 66) rfl, y_wt7 (i := 67) rfl⟩
theorem lw_p50 : lw_okq (⟨"MoleBoardModel", "readStay", "()V"⟩, 47) := ⟨⟨by decide +kernel, by decide +kernel⟩, y_wt6 (i := 73) rfl, y_wt7 (i := 77) rfl, y_wt7 (i := 78) rfl⟩
theorem lw_p51 : lw_okq (⟨"MoleBoardModel", "freshStay", "(I)I"⟩, 47) := ⟨⟨by decide +kernel, by decide +kernel⟩, y_wt6 (i := 73) rfl, y_wt7 (i := 82) rfl, y_wt7 (i := 83) rfl⟩
theorem lw_p52 : lw_okq (⟨"MoleBoardModel", "readShut", "()V"⟩, 47) := ⟨⟨by decide +kernel, by decide +kernel⟩, y_wt6 (i := 73) rfl, y_wt7 (i := 86) rfl, y_wt7 (i := 87) rfl⟩
theorem lw_p53 : lw_okq (⟨"MoleBoardModel", "isNextHole", "()Z"⟩, 47) := ⟨⟨by decide +kernel, by decide +kernel⟩, y_wt6 (i := 73) rfl, y_wt7 (i := 90) rfl, y_wt7 (i := 91) rfl⟩
theorem lw_p54 : lw_okq (⟨"MoleBoardModel", "freshHoles", "()I"⟩, 47) := ⟨⟨by decide +kernel, by decide +kernel⟩, y_wt6 (i := 73) rfl, y_wt7 (i := 94) rfl, y_wt7 (i := 95) rfl⟩
theorem lw_p55 : lw_okq (⟨"MoleBoardModel", "isFreshComing", "(I)Z"⟩, 47) := ⟨⟨by decide +kernel, by decide +kernel⟩, y_wt6 (i := 73) rfl, y_wt7 (i := 98) rfl, y_wt7 (i := 99) rfl⟩
theorem lw_p56 : lw_okq (⟨"MoleBoardModel", "readComing", "(ZZ)V"⟩, 47) := ⟨⟨by decide +kernel, by decide +kernel⟩, y_wt6 (i := 73) rfl, y_wt7 (i := 102) rfl, y_wt7 (i := 103) rfl⟩
theorem lw_p57 : lw_okq (⟨"MoleBoardModel", "readHole", "(I)I"⟩, 47) := ⟨⟨by decide +kernel, by decide +kernel⟩, y_wt6 (i := 73) rfl, y_wt7 (i := 106) rfl, y_wt7 (i := 107) rfl⟩
theorem lw_p58 : lw_okq (⟨"MoleBoardModel", "readPlayer", "()V"⟩, 47) := ⟨⟨by decide +kernel, by decide +kernel⟩, y_wt6 (i := 73) rfl, y_wt7 (i := 110) rfl, y_wt7 (i := 111) rfl⟩
theorem lw_p59 : lw_okq (⟨"MoleBoardModel", "isComing", "(I)Z"⟩, 47) := ⟨⟨by decide +kernel, by decide +kernel⟩, y_wt6 (i := 73) rfl, y_wt7 (i := 124) rfl, y_wt7 (i := 125) rfl⟩
theorem lw_p60 : lw_okq (⟨"MoleBoardModel", "ofComing", "(II)I"⟩, 47) := ⟨⟨by decide +kernel, by decide +kernel⟩, y_wt6 (i := 73) rfl, y_wt7 (i := 128) rfl, y_wt7 (i := 129) rfl⟩
theorem lw_p61 : lw_okq (⟨"MoleBoardModel", "isPlayer", "(I)Z"⟩, 47) := ⟨⟨by decide +kernel, by decide +kernel⟩, y_wt6 (i := 73) rfl, y_wt7 (i := 136) rfl, y_wt7 (i := 137) rfl⟩
theorem lw_p62 : lw_okq (⟨"MoleBoardModel", "of", "(II)I"⟩, 47) := ⟨⟨by decide +kernel, by decide +kernel⟩, y_wt6 (i := 73) rfl, y_wt7 (i := 141) rfl, y_wt7 (i := 142) rfl⟩
theorem lw_p63 : lw_okq (⟨"MoleBoardModel", "isTick", "(J)Z"⟩, 47) := ⟨⟨by decide +kernel, by decide +kernel⟩, y_wt6 (i := 73) rfl, y_wt7 (i := 149) rfl, y_wt7 (i := 150) rfl⟩
def lw_privs_4 : List (MethodName × Nat) := [(⟨"MoleBoardModel", "number", "(II)I"⟩, 47), (⟨"MoleBoardModel", "readNext", "()V"⟩, 47), (⟨"MoleBoardModel", "readStay", "()V"⟩, 47), (⟨"MoleBoardModel", "freshStay", "(I)I"⟩, 47), (⟨"MoleBoardModel", "readShut", "()V"⟩, 47), (⟨"MoleBoardModel", "isNextHole", "()Z"⟩, 47), (⟨"MoleBoardModel", "freshHoles", "()I"⟩, 47), (⟨"MoleBoardModel", "isFreshComing", "(I)Z"⟩, 47), (⟨"MoleBoardModel", "readComing", "(ZZ)V"⟩, 47), (⟨"MoleBoardModel", "readHole", "(I)I"⟩, 47), (⟨"MoleBoardModel", "readPlayer", "()V"⟩, 47), (⟨"MoleBoardModel", "isComing", "(I)Z"⟩, 47), (⟨"MoleBoardModel", "ofComing", "(II)I"⟩, 47), (⟨"MoleBoardModel", "isPlayer", "(I)Z"⟩, 47), (⟨"MoleBoardModel", "of", "(II)I"⟩, 47), (⟨"MoleBoardModel", "isTick", "(J)Z"⟩, 47)]
theorem lw_r4 : ∀ q ∈ lw_privs_4, lw_okq q := List.forall_mem_cons.mpr ⟨lw_p48, List.forall_mem_cons.mpr ⟨lw_p49, List.forall_mem_cons.mpr ⟨lw_p50, List.forall_mem_cons.mpr ⟨lw_p51, List.forall_mem_cons.mpr ⟨lw_p52, List.forall_mem_cons.mpr ⟨lw_p53, List.forall_mem_cons.mpr ⟨lw_p54, List.forall_mem_cons.mpr ⟨lw_p55, List.forall_mem_cons.mpr ⟨lw_p56, List.forall_mem_cons.mpr ⟨lw_p57, List.forall_mem_cons.mpr ⟨lw_p58, List.forall_mem_cons.mpr ⟨lw_p59, List.forall_mem_cons.mpr ⟨lw_p60, List.forall_mem_cons.mpr ⟨lw_p61, List.forall_mem_cons.mpr ⟨lw_p62, List.forall_mem_cons.mpr ⟨lw_p63, fun _ h => absurd h List.not_mem_nil⟩⟩⟩⟩⟩⟩⟩⟩⟩⟩⟩⟩⟩⟩⟩⟩
theorem lw_p64 : lw_okq (⟨"MoleBoardModel", "stayIn", "(I)I"⟩, 47) := ⟨⟨by decide +kernel, by decide +kernel⟩, y_wt6 (i := 73) rfl, y_wt7 (i := 153) rfl, y_wt7 (i := 154) rfl⟩
theorem lw_p65 : lw_okq (⟨"MoleBoardModel", "isBoard", "()Z"⟩, 47) := ⟨⟨by decide +kernel, by decide +kernel⟩, y_wt6 (i := 73) rfl, y_wt7 (i := 161) rfl, y_wt7 (i := 162) rfl⟩
theorem lw_p66 : lw_okq (⟨"MoleBoardModel", "lay", "()V"⟩, 47) := ⟨⟨by decide +kernel, by decide +kernel⟩, y_wt6 (i := 73) rfl, y_wt7 (i := 165) rfl, y_wt7 (i := 166) rfl⟩
theorem lw_p67 : lw_okq (⟨"MoleBoardModel", "mayCome", "()Z"⟩, 47) := ⟨⟨by decide +kernel, by decide +kernel⟩, y_wt6 (i := 73) rfl, y_wt7 (i := 169) rfl, y_wt7 (i := 170) rfl⟩
theorem lw_p68 : lw_okq (⟨"MoleBoardModel", "nextTick", "()I"⟩, 47) := ⟨⟨by decide +kernel, by decide +kernel⟩, y_wt6 (i := 73) rfl, y_wt7 (i := 173) rfl, y_wt7 (i := 174) rfl⟩
theorem lw_p69 : lw_okq (⟨"MoleBoardModel", "come", "(III)V"⟩, 47) := ⟨⟨by decide +kernel, by decide +kernel⟩, y_wt6 (i := 73) rfl, y_wt7 (i := 177) rfl, y_wt7 (i := 178) rfl⟩
theorem lw_p70 : lw_okq (⟨"MoleBoardModel", "isInGame", "(I)Z"⟩, 47) := ⟨⟨by decide +kernel, by decide +kernel⟩, y_wt6 (i := 73) rfl, y_wt7 (i := 185) rfl, y_wt7 (i := 186) rfl⟩
theorem lw_p71 : lw_okq (⟨"MoleBoardModel", "inGame", "(II)I"⟩, 47) := ⟨⟨by decide +kernel, by decide +kernel⟩, y_wt6 (i := 73) rfl, y_wt7 (i := 189) rfl, y_wt7 (i := 190) rfl⟩
theorem lw_p72 : lw_okq (⟨"MoleBoardModel", "upIn", "(I)I"⟩, 47) := ⟨⟨by decide +kernel, by decide +kernel⟩, y_wt6 (i := 73) rfl, y_wt7 (i := 197) rfl, y_wt7 (i := 198) rfl⟩
theorem lw_p73 : lw_okq (⟨"MoleBoardModel", "isHole", "(J)Z"⟩, 47) := ⟨⟨by decide +kernel, by decide +kernel⟩, y_wt6 (i := 73) rfl, y_wt7 (i := 209) rfl, y_wt7 (i := 210) rfl⟩
theorem lw_p74 : lw_okq (⟨"MoleBoardModel", "holes", "()I"⟩, 47) := ⟨⟨by decide +kernel, by decide +kernel⟩, y_wt6 (i := 73) rfl, y_wt7 (i := 213) rfl, y_wt7 (i := 214) rfl⟩
theorem lw_p75 : lw_okq (⟨"MoleBoardModel", "stepsOf", "(II)I"⟩, 47) := ⟨⟨by decide +kernel, by decide +kernel⟩, y_wt6 (i := 73) rfl, y_wt7 (i := 217) rfl, y_wt7 (i := 218) rfl⟩
theorem lw_p76 : lw_okq (⟨"MoleBoardModel", "paceIn", "(II)I"⟩, 47) := ⟨⟨by decide +kernel, by decide +kernel⟩, y_wt6 (i := 73) rfl, y_wt7 (i := 226) rfl, y_wt7 (i := 227) rfl⟩
theorem lw_p77 : lw_okq (⟨"MoleBoardModel", "asTold", "(I)V"⟩, 47) := ⟨⟨by decide +kernel, by decide +kernel⟩, y_wt6 (i := 73) rfl, y_wt7 (i := 234) rfl, y_wt7 (i := 235) rfl⟩
theorem lw_p78 : lw_okq (⟨"MoleBoardModel", "awareOf", "(I)I"⟩, 47) := ⟨⟨by decide +kernel, by decide +kernel⟩, y_wt6 (i := 73) rfl, y_wt7 (i := 238) rfl, y_wt7 (i := 239) rfl⟩
theorem lw_p79 : lw_okq (⟨"MoleBoardModel", "runAsTold", "(I)V"⟩, 47) := ⟨⟨by decide +kernel, by decide +kernel⟩, y_wt6 (i := 73) rfl, y_wt8 (i := 6) rfl, y_wt8 (i := 7) rfl⟩
def lw_privs_5 : List (MethodName × Nat) := [(⟨"MoleBoardModel", "stayIn", "(I)I"⟩, 47), (⟨"MoleBoardModel", "isBoard", "()Z"⟩, 47), (⟨"MoleBoardModel", "lay", "()V"⟩, 47), (⟨"MoleBoardModel", "mayCome", "()Z"⟩, 47), (⟨"MoleBoardModel", "nextTick", "()I"⟩, 47), (⟨"MoleBoardModel", "come", "(III)V"⟩, 47), (⟨"MoleBoardModel", "isInGame", "(I)Z"⟩, 47), (⟨"MoleBoardModel", "inGame", "(II)I"⟩, 47), (⟨"MoleBoardModel", "upIn", "(I)I"⟩, 47), (⟨"MoleBoardModel", "isHole", "(J)Z"⟩, 47), (⟨"MoleBoardModel", "holes", "()I"⟩, 47), (⟨"MoleBoardModel", "stepsOf", "(II)I"⟩, 47), (⟨"MoleBoardModel", "paceIn", "(II)I"⟩, 47), (⟨"MoleBoardModel", "asTold", "(I)V"⟩, 47), (⟨"MoleBoardModel", "awareOf", "(I)I"⟩, 47), (⟨"MoleBoardModel", "runAsTold", "(I)V"⟩, 47)]
theorem lw_r5 : ∀ q ∈ lw_privs_5, lw_okq q := List.forall_mem_cons.mpr ⟨lw_p64, List.forall_mem_cons.mpr ⟨lw_p65, List.forall_mem_cons.mpr ⟨lw_p66, List.forall_mem_cons.mpr ⟨lw_p67, List.forall_mem_cons.mpr ⟨lw_p68, List.forall_mem_cons.mpr ⟨lw_p69, List.forall_mem_cons.mpr ⟨lw_p70, List.forall_mem_cons.mpr ⟨lw_p71, List.forall_mem_cons.mpr ⟨lw_p72, List.forall_mem_cons.mpr ⟨lw_p73, List.forall_mem_cons.mpr ⟨lw_p74, List.forall_mem_cons.mpr ⟨lw_p75, List.forall_mem_cons.mpr ⟨lw_p76, List.forall_mem_cons.mpr ⟨lw_p77, List.forall_mem_cons.mpr ⟨lw_p78, List.forall_mem_cons.mpr ⟨lw_p79, fun _ h => absurd h List.not_mem_nil⟩⟩⟩⟩⟩⟩⟩⟩⟩⟩⟩⟩⟩⟩⟩⟩
theorem lw_p80 : lw_okq (⟨"MoleBoardModel", "run", "()V"⟩, 47) := ⟨⟨by decide +kernel, by decide +kernel⟩, y_wt6 (i := 73) rfl, y_wt8 (i := 10) rfl, y_wt8 (i := 11) rfl⟩
theorem lw_p81 : lw_okq (⟨"MoleBoardModel", "goesFor", "(I)V"⟩, 47) := ⟨⟨by decide +kernel, by decide +kernel⟩, y_wt6 (i := 73) rfl, y_wt8 (i := 14) rfl, y_wt8 (i := 15) rfl⟩
theorem lw_p82 : lw_okq (⟨"MoleBoardModel", "isHis", "(I)Z"⟩, 47) := ⟨⟨by decide +kernel, by decide +kernel⟩, y_wt6 (i := 73) rfl, y_wt8 (i := 18) rfl, y_wt8 (i := 19) rfl⟩
theorem lw_p83 : lw_okq (⟨"MoleBoardModel", "goes", "(II)Z"⟩, 47) := ⟨⟨by decide +kernel, by decide +kernel⟩, y_wt6 (i := 73) rfl, y_wt8 (i := 22) rfl, y_wt8 (i := 23) rfl⟩
theorem lw_p84 : lw_okq (⟨"MoleBoardModel", "bestOf", "(II)I"⟩, 47) := ⟨⟨by decide +kernel, by decide +kernel⟩, y_wt6 (i := 73) rfl, y_wt8 (i := 51) rfl, y_wt8 (i := 52) rfl⟩
theorem lw_p85 : lw_okq (⟨"MoleBoardModel", "mayHit", "(III)V"⟩, 47) := ⟨⟨by decide +kernel, by decide +kernel⟩, y_wt6 (i := 73) rfl, y_wt8 (i := 59) rfl, y_wt8 (i := 60) rfl⟩
theorem lw_p86 : lw_okq (⟨"MoleBoardModel", "behind", "(IIII)I"⟩, 47) := ⟨⟨by decide +kernel, by decide +kernel⟩, y_wt6 (i := 73) rfl, y_wt8 (i := 63) rfl, y_wt8 (i := 64) rfl⟩
theorem lw_p87 : lw_okq (⟨"MoleBoardModel", "sooner", "(III)V"⟩, 47) := ⟨⟨by decide +kernel, by decide +kernel⟩, y_wt6 (i := 73) rfl, y_wt8 (i := 67) rfl, y_wt8 (i := 68) rfl⟩
theorem lw_p88 : lw_okq (⟨"MoleBoardModel", "learnsBy", "(II)I"⟩, 47) := ⟨⟨by decide +kernel, by decide +kernel⟩, y_wt6 (i := 73) rfl, y_wt8 (i := 81) rfl, y_wt8 (i := 82) rfl⟩
theorem lw_p89 : lw_okq (⟨"MoleBoardModel", "waitingAt", "(II)I"⟩, 47) := ⟨⟨by decide +kernel, by decide +kernel⟩, y_wt6 (i := 73) rfl, y_wt8 (i := 93) rfl, y_wt8 (i := 94) rfl⟩
theorem lw_p90 : lw_okq (⟨"MoleBoardModel", "openHoles", "()I"⟩, 47) := ⟨⟨by decide +kernel, by decide +kernel⟩, y_wt6 (i := 73) rfl, y_wt8 (i := 101) rfl, y_wt8 (i := 102) rfl⟩
theorem lw_p91 : lw_okq (⟨"MoleBoardModel", "isShut", "(I)Z"⟩, 47) := ⟨⟨by decide +kernel, by decide +kernel⟩, y_wt6 (i := 73) rfl, y_wt8 (i := 105) rfl, y_wt8 (i := 106) rfl⟩
theorem lw_p92 : lw_okq (⟨"MoleBoardModel", "stepsToAll", "(I)I"⟩, 47) := ⟨⟨by decide +kernel, by decide +kernel⟩, y_wt6 (i := 73) rfl, y_wt8 (i := 109) rfl, y_wt8 (i := 110) rfl⟩
theorem lw_p93 : lw_okq (⟨"MoleBoardModel", "reachOf", "(II)I"⟩, 47) := ⟨⟨by decide +kernel, by decide +kernel⟩, y_wt6 (i := 73) rfl, y_wt8 (i := 124) rfl, y_wt8 (i := 125) rfl⟩
theorem lw_p94 : lw_okq (⟨"MoleBoardModel", "lagging", "(II)I"⟩, 47) := ⟨⟨by decide +kernel, by decide +kernel⟩, y_wt6 (i := 73) rfl, y_wt8 (i := 139) rfl, y_wt8 (i := 140) rfl⟩
theorem lw_p95 : lw_okq (⟨"MoleBoardModel", "fillRows", "(II)V"⟩, 47) := ⟨⟨by decide +kernel, by decide +kernel⟩, y_wt6 (i := 73) rfl, y_wt8 (i := 153) rfl, y_wt8 (i := 154) rfl⟩
def lw_privs_6 : List (MethodName × Nat) := [(⟨"MoleBoardModel", "run", "()V"⟩, 47), (⟨"MoleBoardModel", "goesFor", "(I)V"⟩, 47), (⟨"MoleBoardModel", "isHis", "(I)Z"⟩, 47), (⟨"MoleBoardModel", "goes", "(II)Z"⟩, 47), (⟨"MoleBoardModel", "bestOf", "(II)I"⟩, 47), (⟨"MoleBoardModel", "mayHit", "(III)V"⟩, 47), (⟨"MoleBoardModel", "behind", "(IIII)I"⟩, 47), (⟨"MoleBoardModel", "sooner", "(III)V"⟩, 47), (⟨"MoleBoardModel", "learnsBy", "(II)I"⟩, 47), (⟨"MoleBoardModel", "waitingAt", "(II)I"⟩, 47), (⟨"MoleBoardModel", "openHoles", "()I"⟩, 47), (⟨"MoleBoardModel", "isShut", "(I)Z"⟩, 47), (⟨"MoleBoardModel", "stepsToAll", "(I)I"⟩, 47), (⟨"MoleBoardModel", "reachOf", "(II)I"⟩, 47), (⟨"MoleBoardModel", "lagging", "(II)I"⟩, 47), (⟨"MoleBoardModel", "fillRows", "(II)V"⟩, 47)]
theorem lw_r6 : ∀ q ∈ lw_privs_6, lw_okq q := List.forall_mem_cons.mpr ⟨lw_p80, List.forall_mem_cons.mpr ⟨lw_p81, List.forall_mem_cons.mpr ⟨lw_p82, List.forall_mem_cons.mpr ⟨lw_p83, List.forall_mem_cons.mpr ⟨lw_p84, List.forall_mem_cons.mpr ⟨lw_p85, List.forall_mem_cons.mpr ⟨lw_p86, List.forall_mem_cons.mpr ⟨lw_p87, List.forall_mem_cons.mpr ⟨lw_p88, List.forall_mem_cons.mpr ⟨lw_p89, List.forall_mem_cons.mpr ⟨lw_p90, List.forall_mem_cons.mpr ⟨lw_p91, List.forall_mem_cons.mpr ⟨lw_p92, List.forall_mem_cons.mpr ⟨lw_p93, List.forall_mem_cons.mpr ⟨lw_p94, List.forall_mem_cons.mpr ⟨lw_p95, fun _ h => absurd h List.not_mem_nil⟩⟩⟩⟩⟩⟩⟩⟩⟩⟩⟩⟩⟩⟩⟩⟩
theorem lw_p96 : lw_okq (⟨"MoleBoardModel", "lets", "(IIII)Z"⟩, 47) := ⟨⟨by decide +kernel, by decide +kernel⟩, y_wt6 (i := 73) rfl, y_wt8 (i := 157) rfl, y_wt8 (i := 158) rfl⟩
theorem lw_p97 : lw_okq (⟨"MoleBoardModel", "endingIn", "(I)J"⟩, 47) := ⟨⟨by decide +kernel, by decide +kernel⟩, y_wt6 (i := 73) rfl, y_wt8 (i := 161) rfl, y_wt8 (i := 162) rfl⟩
theorem lw_p98 : lw_okq (⟨"MoleBoardModel", "holeAt", "(I)I"⟩, 47) := ⟨⟨by decide +kernel, by decide +kernel⟩, y_wt6 (i := 73) rfl, y_wt8 (i := 177) rfl, y_wt8 (i := 178) rfl⟩
theorem lw_p99 : lw_okq (⟨"MoleBoardModel", "asksHeard", "(I)I"⟩, 47) := ⟨⟨by decide +kernel, by decide +kernel⟩, y_wt6 (i := 73) rfl, y_wt8 (i := 186) rfl, y_wt8 (i := 187) rfl⟩
theorem lw_p100 : lw_okq (⟨"MoleBoardModel", "numberAt", "(II)J"⟩, 47) := ⟨⟨by decide +kernel, by decide +kernel⟩, y_wt6 (i := 73) rfl, y_wt8 (i := 193) rfl, y_wt8 (i := 194) rfl⟩
theorem lw_p101 : lw_okq (⟨"MoleBoardModel", "leastPeriod", "(I)I"⟩, 47) := ⟨⟨by decide +kernel, by decide +kernel⟩, y_wt6 (i := 73) rfl, y_wt8 (i := 197) rfl, y_wt8 (i := 198) rfl⟩
theorem lw_p102 : lw_okq (⟨"MoleBoardModel", "isPeriod", "(II)Z"⟩, 47) := ⟨⟨by decide +kernel, by decide +kernel⟩, y_wt6 (i := 73) rfl, y_wt8 (i := 201) rfl, y_wt8 (i := 202) rfl⟩
theorem lw_p103 : lw_okq (⟨"MoleBoardModel", "fitsFrom", "(II)Z"⟩, 47) := ⟨⟨by decide +kernel, by decide +kernel⟩, y_wt6 (i := 73) rfl, y_wt8 (i := 218) rfl, y_wt8 (i := 219) rfl⟩
theorem lw_p104 : lw_okq (⟨"MoleBoardModel", "neededFrom", "(I)I"⟩, 47) := ⟨⟨by decide +kernel, by decide +kernel⟩, y_wt6 (i := 73) rfl, y_wt8 (i := 234) rfl, y_wt8 (i := 235) rfl⟩
theorem lw_p105 : lw_okq (⟨"MoleBoardModel", "goesAlike", "(III)Z"⟩, 47) := ⟨⟨by decide +kernel, by decide +kernel⟩, y_wt6 (i := 73) rfl, y_wt8 (i := 238) rfl, y_wt8 (i := 239) rfl⟩
theorem lw_p106 : lw_okq (⟨"MoleBoardModel", "rashOf", "(I)I"⟩, 47) := ⟨⟨by decide +kernel, by decide +kernel⟩, y_wt6 (i := 73) rfl, y_wt9 (i := 10) rfl, y_wt9 (i := 11) rfl⟩
theorem lw_p107 : lw_okq (⟨"MoleBoardModel", "lookOf", "(II)I"⟩, 47) := ⟨⟨by decide +kernel, by decide +kernel⟩, y_wt6 (i := 73) rfl, y_wt9 (i := 19) rfl, y_wt9 (i := 20) rfl⟩
theorem lw_p108 : lw_okq (⟨"MoleBoardModel", "hitsOn", "(II)I"⟩, 47) := ⟨⟨by decide +kernel, by decide +kernel⟩, y_wt6 (i := 73) rfl, y_wt9 (i := 31) rfl, y_wt9 (i := 32) rfl⟩
theorem lw_p109 : lw_okq (⟨"MoleBoardModel", "ticketsOf", "(I)I"⟩, 47) := ⟨⟨by decide +kernel, by decide +kernel⟩, y_wt6 (i := 73) rfl, y_wt9 (i := 39) rfl, y_wt9 (i := 40) rfl⟩
theorem lw_p110 : lw_okq (⟨"MoleBoardModel", "asksBlows", "(I)I"⟩, 47) := ⟨⟨by decide +kernel, by decide +kernel⟩, y_wt6 (i := 73) rfl, y_wt9 (i := 51) rfl, y_wt9 (i := 52) rfl⟩
theorem lw_p111 : lw_okq (⟨"MoleBoardModel", "layBlows", "(II)V"⟩, 47) := ⟨⟨by decide +kernel, by decide +kernel⟩, y_wt6 (i := 73) rfl, y_wt9 (i := 55) rfl, y_wt9 (i := 56) rfl⟩
def lw_privs_7 : List (MethodName × Nat) := [(⟨"MoleBoardModel", "lets", "(IIII)Z"⟩, 47), (⟨"MoleBoardModel", "endingIn", "(I)J"⟩, 47), (⟨"MoleBoardModel", "holeAt", "(I)I"⟩, 47), (⟨"MoleBoardModel", "asksHeard", "(I)I"⟩, 47), (⟨"MoleBoardModel", "numberAt", "(II)J"⟩, 47), (⟨"MoleBoardModel", "leastPeriod", "(I)I"⟩, 47), (⟨"MoleBoardModel", "isPeriod", "(II)Z"⟩, 47), (⟨"MoleBoardModel", "fitsFrom", "(II)Z"⟩, 47), (⟨"MoleBoardModel", "neededFrom", "(I)I"⟩, 47), (⟨"MoleBoardModel", "goesAlike", "(III)Z"⟩, 47), (⟨"MoleBoardModel", "rashOf", "(I)I"⟩, 47), (⟨"MoleBoardModel", "lookOf", "(II)I"⟩, 47), (⟨"MoleBoardModel", "hitsOn", "(II)I"⟩, 47), (⟨"MoleBoardModel", "ticketsOf", "(I)I"⟩, 47), (⟨"MoleBoardModel", "asksBlows", "(I)I"⟩, 47), (⟨"MoleBoardModel", "layBlows", "(II)V"⟩, 47)]
theorem lw_r7 : ∀ q ∈ lw_privs_7, lw_okq q := List.forall_mem_cons.mpr ⟨lw_p96, List.forall_mem_cons.mpr ⟨lw_p97, List.forall_mem_cons.mpr ⟨lw_p98, List.forall_mem_cons.mpr ⟨lw_p99, List.forall_mem_cons.mpr ⟨lw_p100, List.forall_mem_cons.mpr ⟨lw_p101, List.forall_mem_cons.mpr ⟨lw_p102, List.forall_mem_cons.mpr ⟨lw_p103, List.forall_mem_cons.mpr ⟨lw_p104, List.forall_mem_cons.mpr ⟨lw_p105, List.forall_mem_cons.mpr ⟨lw_p106, List.forall_mem_cons.mpr ⟨lw_p107, List.forall_mem_cons.mpr ⟨lw_p108, List.forall_mem_cons.mpr ⟨lw_p109, List.forall_mem_cons.mpr ⟨lw_p110, List.forall_mem_cons.mpr ⟨lw_p111, fun _ h => absurd h List.not_mem_nil⟩⟩⟩⟩⟩⟩⟩⟩⟩⟩⟩⟩⟩⟩⟩⟩
theorem lw_p112 : lw_okq (⟨"MoleBoardModel", "strike", "(III)V"⟩, 47) := ⟨⟨by decide +kernel, by decide +kernel⟩, y_wt6 (i := 73) rfl, y_wt9 (i := 59) rfl, y_wt9 (i := 60) rfl⟩
theorem lw_p113 : lw_okq (⟨"MoleBoardModel", "oftenOf", "(I)I"⟩, 47) := ⟨⟨by decide +kernel, by decide +kernel⟩, y_wt6 (i := 73) rfl, y_wt9 (i := 75) rfl, y_wt9 (i := 76) rfl⟩
theorem lw_p114 : lw_okq (⟨"MoleBoardModel", "pathOf", "()I"⟩, 47) := ⟨⟨by decide +kernel, by decide +kernel⟩, y_wt6 (i := 73) rfl, y_wt9 (i := 87) rfl, y_wt9 (i := 88) rfl⟩
theorem lw_p115 : lw_okq (⟨"MoleBoardModel", "trade", "(II)V"⟩, 47) := ⟨⟨by decide +kernel, by decide +kernel⟩, y_wt6 (i := 73) rfl, y_wt9 (i := 95) rfl, y_wt9 (i := 96) rfl⟩
theorem lw_p116 : lw_okq (⟨"MoleBoardModel", "layNight", "(JI)V"⟩, 47) := ⟨⟨by decide +kernel, by decide +kernel⟩, y_wt6 (i := 73) rfl, y_wt9 (i := 132) rfl, y_wt9 (i := 133) rfl⟩
theorem lw_p117 : lw_okq (⟨"MoleBoardModel", "holeByLot", "(I)I"⟩, 47) := ⟨⟨by decide +kernel, by decide +kernel⟩, y_wt6 (i := 73) rfl, y_wt9 (i := 136) rfl, y_wt9 (i := 137) rfl⟩
theorem lw_p118 : lw_okq (⟨"MoleBoardModel", "draw", "(I)I"⟩, 47) := ⟨⟨by decide +kernel, by decide +kernel⟩, y_wt6 (i := 73) rfl, y_wt9 (i := 140) rfl, y_wt9 (i := 141) rfl⟩
theorem lw_p119 : lw_okq (⟨"MoleBoardModel", "nightOf", "(JII)I"⟩, 47) := ⟨⟨by decide +kernel, by decide +kernel⟩, y_wt6 (i := 73) rfl, y_wt9 (i := 152) rfl, y_wt9 (i := 153) rfl⟩
def lw_privs_8 : List (MethodName × Nat) := [(⟨"MoleBoardModel", "strike", "(III)V"⟩, 47), (⟨"MoleBoardModel", "oftenOf", "(I)I"⟩, 47), (⟨"MoleBoardModel", "pathOf", "()I"⟩, 47), (⟨"MoleBoardModel", "trade", "(II)V"⟩, 47), (⟨"MoleBoardModel", "layNight", "(JI)V"⟩, 47), (⟨"MoleBoardModel", "holeByLot", "(I)I"⟩, 47), (⟨"MoleBoardModel", "draw", "(I)I"⟩, 47), (⟨"MoleBoardModel", "nightOf", "(JII)I"⟩, 47)]
theorem lw_r8 : ∀ q ∈ lw_privs_8, lw_okq q := List.forall_mem_cons.mpr ⟨lw_p112, List.forall_mem_cons.mpr ⟨lw_p113, List.forall_mem_cons.mpr ⟨lw_p114, List.forall_mem_cons.mpr ⟨lw_p115, List.forall_mem_cons.mpr ⟨lw_p116, List.forall_mem_cons.mpr ⟨lw_p117, List.forall_mem_cons.mpr ⟨lw_p118, List.forall_mem_cons.mpr ⟨lw_p119, fun _ h => absurd h List.not_mem_nil⟩⟩⟩⟩⟩⟩⟩⟩
def lw_privs : List (MethodName × Nat) := lw_privs_1 ++ (lw_privs_2 ++ (lw_privs_3 ++ (lw_privs_4 ++ (lw_privs_5 ++ (lw_privs_6 ++ (lw_privs_7 ++ (lw_privs_8)))))))
def lw_tbl : List Cond := k2_sels lw_privs ++ tables_1
theorem lw_privs_ok : ∀ q ∈ lw_privs, lw_okq q := by
  show ∀ q ∈ lw_privs_1 ++ (lw_privs_2 ++ (lw_privs_3 ++ (lw_privs_4 ++ (lw_privs_5 ++ (lw_privs_6 ++ (lw_privs_7 ++ (lw_privs_8))))))), lw_okq q
  exact List.forall_mem_append.mpr ⟨lw_r1, List.forall_mem_append.mpr ⟨lw_r2, List.forall_mem_append.mpr ⟨lw_r3, List.forall_mem_append.mpr ⟨lw_r4, List.forall_mem_append.mpr ⟨lw_r5, List.forall_mem_append.mpr ⟨lw_r6, List.forall_mem_append.mpr ⟨lw_r7, lw_r8⟩⟩⟩⟩⟩⟩⟩
-- ===== names, printed by program out of the claim's own names =====
def RX0 : String := "MoleBoard$Best"
def TX0 : u_T := fun k => match k with
  | _ => ("MoleBoard$Best", "free", "[I", true)
def tyX0 : Nat → FieldType := fun k => match k with
  | _ => .array .int
abbrev wsX00 : List Cond := u_ws RX0 TX0 1
theorem nmX0 : ∀ a, a < 1 → ∀ b, b < 1 → a ≠ b → (TX0 a).2.1 ≠ (TX0 b).2.1 := by decide +kernel
theorem tyX0_ok : ∀ k, k < 1 → parseFieldDescriptor (TX0 k).2.2.1 = some (tyX0 k) := by decide +kernel
abbrev cX0_init : ByteArray := prog_2_method_1_code
def yX0_init : MethodName := ⟨RX0, "<init>", "()V"⟩
abbrev cX0_most : ByteArray := prog_2_method_2_code
def yX0_most : MethodName := ⟨RX0, "most", "(LMoleBoard$Board;LMoleBoard$Game;LMoleBoard$Player;I)I"⟩
abbrev cX0_goOn : ByteArray := prog_2_method_3_code
def yX0_goOn : MethodName := ⟨RX0, "goOn", "(LMoleBoard$Board;LMoleBoard$Game;LMoleBoard$Player;II)I"⟩
abbrev cX0_freeAt : ByteArray := prog_2_method_4_code
def yX0_freeAt : MethodName := ⟨RX0, "freeAt", "(II)I"⟩
abbrev cX0_keep : ByteArray := prog_2_method_5_code
def yX0_keep : MethodName := ⟨RX0, "keep", "(III)V"⟩
def RX1 : String := "MoleBoard$Blows"
def TX1 : u_T := fun k => match k with
  | 0 => ("MoleBoard$Blows", "good", "I", false)
  | 1 => ("MoleBoard$Blows", "bad", "I", false)
  | 2 => ("MoleBoard$Blows", "soon", "I", false)
  | _ => ("MoleBoard$Blows", "taken", "[I", true)
def tyX1 : Nat → FieldType := fun k => match k with
  | 0 => .int
  | 1 => .int
  | 2 => .int
  | _ => .array .int
abbrev wsX10 : List Cond := u_ws RX1 TX1 4
theorem nmX1 : ∀ a, a < 4 → ∀ b, b < 4 → a ≠ b → (TX1 a).2.1 ≠ (TX1 b).2.1 := by decide +kernel
theorem tyX1_ok : ∀ k, k < 4 → parseFieldDescriptor (TX1 k).2.2.1 = some (tyX1 k) := by decide +kernel
abbrev cX1_init : ByteArray := prog_3_method_1_code
def yX1_init : MethodName := ⟨RX1, "<init>", "()V"⟩
abbrev cX1_judge : ByteArray := prog_3_method_2_code
def yX1_judge : MethodName := ⟨RX1, "judge", "(LMoleBoard$Game;LMoleBoard$Row;I)V"⟩
abbrev cX1_judgeOne : ByteArray := prog_3_method_3_code
def yX1_judgeOne : MethodName := ⟨RX1, "judgeOne", "(LMoleBoard$Game;III)V"⟩
def RX2 : String := "MoleBoard$Board"
def TX2 : u_T := fun k => match k with
  | 0 => ("MoleBoard$Board", "kept", "Z", false)
  | 1 => ("MoleBoard$Board", "lines", "I", false)
  | 2 => ("MoleBoard$Board", "wide", "I", false)
  | 3 => ("MoleBoard$Board", "high", "I", false)
  | 4 => ("MoleBoard$Board", "ticks", "I", false)
  | 5 => ("MoleBoard$Board", "pause", "I", false)
  | 6 => ("MoleBoard$Board", "shutHoles", "I", false)
  | 7 => ("MoleBoard$Board", "players", "I", false)
  | 8 => ("MoleBoard$Board", "prizeTickets", "I", false)
  | 9 => ("MoleBoard$Board", "ticketPoints", "I", false)
  | 10 => ("MoleBoard$Board", "stays", "I", false)
  | 11 => ("MoleBoard$Board", "stayFrom", "[I", true)
  | 12 => ("MoleBoard$Board", "stayLong", "[I", true)
  | 13 => ("MoleBoard$Board", "traits", "[I", true)
  | _ => ("MoleBoard$Board", "drum", "LMoleBoard$Drum;", true)
def tyX2 : Nat → FieldType := fun k => match k with
  | 0 => .boolean
  | 1 => .int
  | 2 => .int
  | 3 => .int
  | 4 => .int
  | 5 => .int
  | 6 => .int
  | 7 => .int
  | 8 => .int
  | 9 => .int
  | 10 => .int
  | 11 => .array .int
  | 12 => .array .int
  | 13 => .array .int
  | _ => .object "MoleBoard$Drum"
abbrev wsX20 : List Cond := u_ws RX2 TX2 15
theorem nmX2 : ∀ a, a < 15 → ∀ b, b < 15 → a ≠ b → (TX2 a).2.1 ≠ (TX2 b).2.1 := by decide +kernel
theorem tyX2_ok : ∀ k, k < 15 → parseFieldDescriptor (TX2 k).2.2.1 = some (tyX2 k) := by decide +kernel
abbrev cX2_init : ByteArray := prog_4_method_1_code
def yX2_init : MethodName := ⟨RX2, "<init>", "()V"⟩
abbrev cX2_empty : ByteArray := prog_4_method_2_code
def yX2_empty : MethodName := ⟨RX2, "empty", "()V"⟩
abbrev cX2_copy : ByteArray := prog_4_method_3_code
def yX2_copy : MethodName := ⟨RX2, "copy", "(LMoleBoard$Board;)V"⟩
abbrev cX2_isTold : ByteArray := prog_4_method_4_code
def yX2_isTold : MethodName := ⟨RX2, "isTold", "()Z"⟩
abbrev cX2_holes : ByteArray := prog_4_method_5_code
def yX2_holes : MethodName := ⟨RX2, "holes", "()I"⟩
abbrev cX2_isHole : ByteArray := prog_4_method_6_code
def yX2_isHole : MethodName := ⟨RX2, "isHole", "(I)Z"⟩
abbrev cX2_isTick : ByteArray := prog_4_method_7_code
def yX2_isTick : MethodName := ⟨RX2, "isTick", "(I)Z"⟩
abbrev cX2_isPlayer : ByteArray := prog_4_method_8_code
def yX2_isPlayer : MethodName := ⟨RX2, "isPlayer", "(I)Z"⟩
abbrev cX2_isShut : ByteArray := prog_4_method_9_code
def yX2_isShut : MethodName := ⟨RX2, "isShut", "(I)Z"⟩
abbrev cX2_openHoles : ByteArray := prog_4_method_10_code
def yX2_openHoles : MethodName := ⟨RX2, "openHoles", "()I"⟩
abbrev cX2_apart : ByteArray := prog_4_method_11_code
def yX2_apart : MethodName := ⟨RX2, "apart", "(II)I"⟩
abbrev cX2_stepsToAll : ByteArray := prog_4_method_12_code
def yX2_stepsToAll : MethodName := ⟨RX2, "stepsToAll", "(I)I"⟩
abbrev cX2_pathRound : ByteArray := prog_4_method_13_code
def yX2_pathRound : MethodName := ⟨RX2, "pathRound", "()I"⟩
abbrev cX2_stayIn : ByteArray := prog_4_method_14_code
def yX2_stayIn : MethodName := ⟨RX2, "stayIn", "(I)I"⟩
abbrev cX2_hasStayFrom : ByteArray := prog_4_method_15_code
def yX2_hasStayFrom : MethodName := ⟨RX2, "hasStayFrom", "(I)Z"⟩
abbrev cX2_setStay : ByteArray := prog_4_method_16_code
def yX2_setStay : MethodName := ⟨RX2, "setStay", "(II)V"⟩
abbrev cX2_trait : ByteArray := prog_4_method_17_code
def yX2_trait : MethodName := ⟨RX2, "trait", "(II)I"⟩
abbrev cX2_setTrait : ByteArray := prog_4_method_18_code
def yX2_setTrait : MethodName := ⟨RX2, "setTrait", "(III)V"⟩
abbrev cX2_isTrait : ByteArray := prog_4_method_19_code
def yX2_isTrait : MethodName := ⟨RX2, "isTrait", "(II)Z"⟩
abbrev cX2_lets : ByteArray := prog_4_method_20_code
def yX2_lets : MethodName := ⟨RX2, "lets", "(IIII)Z"⟩
def RX3 : String := "MoleBoard$Drum"
def TX3 : u_T := fun k => match k with
  | 0 => ("MoleBoard$Drum", "size", "I", false)
  | 1 => ("MoleBoard$Drum", "stands", "I", false)
  | 2 => ("MoleBoard$Drum", "first", "[I", true)
  | 3 => ("MoleBoard$Drum", "other", "[I", true)
  | _ => ("MoleBoard$Drum", "red", "[I", true)
def tyX3 : Nat → FieldType := fun k => match k with
  | 0 => .int
  | 1 => .int
  | 2 => .array .int
  | 3 => .array .int
  | _ => .array .int
abbrev wsX30 : List Cond := u_ws RX3 TX3 5
theorem nmX3 : ∀ a, a < 5 → ∀ b, b < 5 → a ≠ b → (TX3 a).2.1 ≠ (TX3 b).2.1 := by decide +kernel
theorem tyX3_ok : ∀ k, k < 5 → parseFieldDescriptor (TX3 k).2.2.1 = some (tyX3 k) := by decide +kernel
abbrev cX3_init : ByteArray := prog_5_method_1_code
def yX3_init : MethodName := ⟨RX3, "<init>", "()V"⟩
abbrev cX3_empty : ByteArray := prog_5_method_2_code
def yX3_empty : MethodName := ⟨RX3, "empty", "()V"⟩
abbrev cX3_copy : ByteArray := prog_5_method_3_code
def yX3_copy : MethodName := ⟨RX3, "copy", "(LMoleBoard$Drum;)V"⟩
abbrev cX3_has : ByteArray := prog_5_method_4_code
def yX3_has : MethodName := ⟨RX3, "has", "(I)Z"⟩
abbrev cX3_add : ByteArray := prog_5_method_5_code
def yX3_add : MethodName := ⟨RX3, "add", "(III)V"⟩
abbrev cX3_exchange : ByteArray := prog_5_method_6_code
def yX3_exchange : MethodName := ⟨RX3, "exchange", "(II)V"⟩
abbrev cX3_exchangeIn : ByteArray := prog_5_method_7_code
def yX3_exchangeIn : MethodName := ⟨RX3, "exchangeIn", "([III)V"⟩
abbrev cX3_round : ByteArray := prog_5_method_8_code
def yX3_round : MethodName := ⟨RX3, "round", "(I)I"⟩
abbrev cX3_oftenAt : ByteArray := prog_5_method_9_code
def yX3_oftenAt : MethodName := ⟨RX3, "oftenAt", "(I)I"⟩
abbrev cX3_goesSo : ByteArray := prog_5_method_10_code
def yX3_goesSo : MethodName := ⟨RX3, "goesSo", "(ILMoleBoard$Row;)Z"⟩
abbrev cX3_neededFrom : ByteArray := prog_5_method_11_code
def yX3_neededFrom : MethodName := ⟨RX3, "neededFrom", "(I)I"⟩
abbrev cX3_alike : ByteArray := prog_5_method_12_code
def yX3_alike : MethodName := ⟨RX3, "alike", "(II)I"⟩
def RX4 : String := "MoleBoard$Game"
def TX4 : u_T := fun k => match k with
  | 0 => ("MoleBoard$Game", "size", "I", false)
  | 1 => ("MoleBoard$Game", "first", "[I", true)
  | 2 => ("MoleBoard$Game", "other", "[I", true)
  | 3 => ("MoleBoard$Game", "red", "[I", true)
  | 4 => ("MoleBoard$Game", "from", "[I", true)
  | 5 => ("MoleBoard$Game", "last", "[I", true)
  | _ => ("MoleBoard$Game", "tick", "I", false)
def tyX4 : Nat → FieldType := fun k => match k with
  | 0 => .int
  | 1 => .array .int
  | 2 => .array .int
  | 3 => .array .int
  | 4 => .array .int
  | 5 => .array .int
  | _ => .int
abbrev wsX40 : List Cond := u_ws RX4 TX4 7
theorem nmX4 : ∀ a, a < 7 → ∀ b, b < 7 → a ≠ b → (TX4 a).2.1 ≠ (TX4 b).2.1 := by decide +kernel
theorem tyX4_ok : ∀ k, k < 7 → parseFieldDescriptor (TX4 k).2.2.1 = some (tyX4 k) := by decide +kernel
abbrev cX4_init : ByteArray := prog_6_method_1_code
def yX4_init : MethodName := ⟨RX4, "<init>", "()V"⟩
abbrev cX4_has : ByteArray := prog_6_method_2_code
def yX4_has : MethodName := ⟨RX4, "has", "(I)Z"⟩
abbrev cX4_deal : ByteArray := prog_6_method_3_code
def yX4_deal : MethodName := ⟨RX4, "deal", "(LMoleBoard$Board;I)V"⟩
abbrev cX4_draw : ByteArray := prog_6_method_4_code
def yX4_draw : MethodName := ⟨RX4, "draw", "(LMoleBoard$Board;II)V"⟩
abbrev cX4_nthLet : ByteArray := prog_6_method_5_code
def yX4_nthLet : MethodName := ⟨RX4, "nthLet", "(LMoleBoard$Board;IIII)I"⟩
abbrev cX4_begin : ByteArray := prog_6_method_6_code
def yX4_begin : MethodName := ⟨RX4, "begin", "()V"⟩
abbrev cX4_hasRoom : ByteArray := prog_6_method_7_code
def yX4_hasRoom : MethodName := ⟨RX4, "hasRoom", "(LMoleBoard$Board;)Z"⟩
abbrev cX4_add : ByteArray := prog_6_method_8_code
def yX4_add : MethodName := ⟨RX4, "add", "(LMoleBoard$Board;III)V"⟩
abbrev cX4_upIn : ByteArray := prog_6_method_9_code
def yX4_upIn : MethodName := ⟨RX4, "upIn", "(I)I"⟩
abbrev cX4_holesOf : ByteArray := prog_6_method_10_code
def yX4_holesOf : MethodName := ⟨RX4, "holesOf", "(I)I"⟩
abbrev cX4_goodHoles : ByteArray := prog_6_method_11_code
def yX4_goodHoles : MethodName := ⟨RX4, "goodHoles", "()I"⟩
abbrev cX4_goodIn : ByteArray := prog_6_method_12_code
def yX4_goodIn : MethodName := ⟨RX4, "goodIn", "(I)I"⟩
abbrev cX4_strike : ByteArray := prog_6_method_13_code
def yX4_strike : MethodName := ⟨RX4, "strike", "(II)I"⟩
def RX5 : String := "MoleBoard$Lots"
def TX5 : u_T := fun k => match k with
  | 0 => ("MoleBoard$Lots", "ways", "[J", true)
  | _ => ("MoleBoard$Lots", "grown", "[J", true)
def tyX5 : Nat → FieldType := fun k => match k with
  | 0 => .array .long
  | _ => .array .long
abbrev wsX50 : List Cond := u_ws RX5 TX5 2
theorem nmX5 : ∀ a, a < 2 → ∀ b, b < 2 → a ≠ b → (TX5 a).2.1 ≠ (TX5 b).2.1 := by decide +kernel
theorem tyX5_ok : ∀ k, k < 2 → parseFieldDescriptor (TX5 k).2.2.1 = some (tyX5 k) := by decide +kernel
abbrev cX5_init : ByteArray := prog_7_method_1_code
def yX5_init : MethodName := ⟨RX5, "<init>", "()V"⟩
abbrev cX5_begin : ByteArray := prog_7_method_2_code
def yX5_begin : MethodName := ⟨RX5, "begin", "(LMoleBoard$Board;)V"⟩
abbrev cX5_grow : ByteArray := prog_7_method_3_code
def yX5_grow : MethodName := ⟨RX5, "grow", "(LMoleBoard$Board;I)V"⟩
abbrev cX5_growFrom : ByteArray := prog_7_method_4_code
def yX5_growFrom : MethodName := ⟨RX5, "growFrom", "(LMoleBoard$Board;III)V"⟩
abbrev cX5_at : ByteArray := prog_7_method_5_code
def yX5_at : MethodName := ⟨RX5, "at", "(II)I"⟩
abbrev cX5_waysTo : ByteArray := prog_7_method_6_code
def yX5_waysTo : MethodName := ⟨RX5, "waysTo", "(II)J"⟩
abbrev cX5_add : ByteArray := prog_7_method_7_code
def yX5_add : MethodName := ⟨RX5, "add", "([JIIJ)V"⟩
abbrev cX5_rowsTo : ByteArray := prog_7_method_8_code
def yX5_rowsTo : MethodName := ⟨RX5, "rowsTo", "(LMoleBoard$Board;I)J"⟩
abbrev cX5_rowsInAll : ByteArray := prog_7_method_9_code
def yX5_rowsInAll : MethodName := ⟨RX5, "rowsInAll", "(LMoleBoard$Board;)J"⟩
abbrev cX5_isEven : ByteArray := prog_7_method_10_code
def yX5_isEven : MethodName := ⟨RX5, "isEven", "(LMoleBoard$Board;)Z"⟩
def RX6 : String := "MoleBoard$Player"
def TX6 : u_T := fun k => match k with
  | 0 => ("MoleBoard$Player", "pace", "I", false)
  | 1 => ("MoleBoard$Player", "lag", "I", false)
  | 2 => ("MoleBoard$Player", "tires", "I", false)
  | 3 => ("MoleBoard$Player", "knows", "I", false)
  | _ => ("MoleBoard$Player", "home", "I", false)
def tyX6 : Nat → FieldType := fun k => match k with
  | 0 => .int
  | 1 => .int
  | 2 => .int
  | 3 => .int
  | _ => .int
abbrev wsX60 : List Cond := u_ws RX6 TX6 5
theorem nmX6 : ∀ a, a < 5 → ∀ b, b < 5 → a ≠ b → (TX6 a).2.1 ≠ (TX6 b).2.1 := by decide +kernel
theorem tyX6_ok : ∀ k, k < 5 → parseFieldDescriptor (TX6 k).2.2.1 = some (tyX6 k) := by decide +kernel
abbrev cX6_init : ByteArray := prog_8_method_1_code
def yX6_init : MethodName := ⟨RX6, "<init>", "()V"⟩
abbrev cX6_take : ByteArray := prog_8_method_2_code
def yX6_take : MethodName := ⟨RX6, "take", "(LMoleBoard$Board;I)V"⟩
abbrev cX6_paceIn : ByteArray := prog_8_method_3_code
def yX6_paceIn : MethodName := ⟨RX6, "paceIn", "(I)I"⟩
abbrev cX6_awareOf : ByteArray := prog_8_method_4_code
def yX6_awareOf : MethodName := ⟨RX6, "awareOf", "(LMoleBoard$Game;I)I"⟩
abbrev cX6_there : ByteArray := prog_8_method_5_code
def yX6_there : MethodName := ⟨RX6, "there", "(LMoleBoard$Board;III)I"⟩
abbrev cX6_reachFrom : ByteArray := prog_8_method_6_code
def yX6_reachFrom : MethodName := ⟨RX6, "reachFrom", "(LMoleBoard$Board;I)I"⟩
def RX7 : String := "MoleBoard$Reader"
def TX7 : u_T := fun k => match k with
  | 0 => ("MoleBoard$Reader", "told", "LMoleBoard$Board;", true)
  | 1 => ("MoleBoard$Reader", "fault", "I", false)
  | 2 => ("MoleBoard$Reader", "place", "I", false)
  | 3 => ("MoleBoard$Reader", "tape", "LMoleBoard$Tape;", true)
  | 4 => ("MoleBoard$Reader", "values", "[I", true)
  | 5 => ("MoleBoard$Reader", "sort", "I", false)
  | 6 => ("MoleBoard$Reader", "start", "I", false)
  | 7 => ("MoleBoard$Reader", "stop", "I", false)
  | _ => ("MoleBoard$Reader", "value", "I", false)
def tyX7 : Nat → FieldType := fun k => match k with
  | 0 => .object "MoleBoard$Board"
  | 1 => .int
  | 2 => .int
  | 3 => .object "MoleBoard$Tape"
  | 4 => .array .int
  | 5 => .int
  | 6 => .int
  | 7 => .int
  | _ => .int
abbrev wsX70 : List Cond := u_ws RX7 TX7 9
theorem nmX7 : ∀ a, a < 9 → ∀ b, b < 9 → a ≠ b → (TX7 a).2.1 ≠ (TX7 b).2.1 := by decide +kernel
theorem tyX7_ok : ∀ k, k < 9 → parseFieldDescriptor (TX7 k).2.2.1 = some (tyX7 k) := by decide +kernel
abbrev cX7_init : ByteArray := prog_9_method_1_code
def yX7_init : MethodName := ⟨RX7, "<init>", "()V"⟩
abbrev cX7_readAll : ByteArray := prog_9_method_2_code
def yX7_readAll : MethodName := ⟨RX7, "readAll", "()Z"⟩
abbrev cX7_shapeOf : ByteArray := prog_9_method_3_code
def yX7_shapeOf : MethodName := ⟨RX7, "shapeOf", "(I)Ljava/lang/String;"⟩
abbrev cX7_readLine : ByteArray := prog_9_method_4_code
def yX7_readLine : MethodName := ⟨RX7, "readLine", "()V"⟩
abbrev cX7_blame : ByteArray := prog_9_method_5_code
def yX7_blame : MethodName := ⟨RX7, "blame", "(I)V"⟩
abbrev cX7_behindBlank : ByteArray := prog_9_method_6_code
def yX7_behindBlank : MethodName := ⟨RX7, "behindBlank", "(Ljava/lang/String;I)I"⟩
abbrev cX7_kindOfLine : ByteArray := prog_9_method_7_code
def yX7_kindOfLine : MethodName := ⟨RX7, "kindOfLine", "()I"⟩
abbrev cX7_standsAt : ByteArray := prog_9_method_8_code
def yX7_standsAt : MethodName := ⟨RX7, "standsAt", "(Ljava/lang/String;I)Z"⟩
abbrev cX7_isSpelled : ByteArray := prog_9_method_9_code
def yX7_isSpelled : MethodName := ⟨RX7, "isSpelled", "(Ljava/lang/String;I)Z"⟩
abbrev cX7_isFull : ByteArray := prog_9_method_10_code
def yX7_isFull : MethodName := ⟨RX7, "isFull", "(I)Z"⟩
abbrev cX7_judge : ByteArray := prog_9_method_11_code
def yX7_judge : MethodName := ⟨RX7, "judge", "(II)I"⟩
abbrev cX7_within : ByteArray := prog_9_method_12_code
def yX7_within : MethodName := ⟨RX7, "within", "(II)I"⟩
abbrev cX7_fitsBoard : ByteArray := prog_9_method_13_code
def yX7_fitsBoard : MethodName := ⟨RX7, "fitsBoard", "(I)Z"⟩
abbrev cX7_judgeFrom : ByteArray := prog_9_method_14_code
def yX7_judgeFrom : MethodName := ⟨RX7, "judgeFrom", "()I"⟩
abbrev cX7_isOpen : ByteArray := prog_9_method_15_code
def yX7_isOpen : MethodName := ⟨RX7, "isOpen", "()Z"⟩
abbrev cX7_apply : ByteArray := prog_9_method_16_code
def yX7_apply : MethodName := ⟨RX7, "apply", "(I)V"⟩
abbrev cX7_addPlayer : ByteArray := prog_9_method_17_code
def yX7_addPlayer : MethodName := ⟨RX7, "addPlayer", "()V"⟩
abbrev cX7_step : ByteArray := prog_9_method_18_code
def yX7_step : MethodName := ⟨RX7, "step", "()V"⟩
abbrev cX7_isBlank : ByteArray := prog_9_method_19_code
def yX7_isBlank : MethodName := ⟨RX7, "isBlank", "(I)Z"⟩
abbrev cX7_isLetter : ByteArray := prog_9_method_20_code
def yX7_isLetter : MethodName := ⟨RX7, "isLetter", "(I)Z"⟩
abbrev cX7_isDigit : ByteArray := prog_9_method_21_code
def yX7_isDigit : MethodName := ⟨RX7, "isDigit", "(I)Z"⟩
def RX8 : String := "MoleBoard$Row"
def TX8 : u_T := fun k => match k with
  | 0 => ("MoleBoard$Row", "size", "I", false)
  | 1 => ("MoleBoard$Row", "width", "I", false)
  | _ => ("MoleBoard$Row", "numbers", "[J", true)
def tyX8 : Nat → FieldType := fun k => match k with
  | 0 => .int
  | 1 => .int
  | _ => .array .long
abbrev wsX80 : List Cond := u_ws RX8 TX8 3
theorem nmX8 : ∀ a, a < 3 → ∀ b, b < 3 → a ≠ b → (TX8 a).2.1 ≠ (TX8 b).2.1 := by decide +kernel
theorem tyX8_ok : ∀ k, k < 3 → parseFieldDescriptor (TX8 k).2.2.1 = some (tyX8 k) := by decide +kernel
abbrev cX8_init : ByteArray := prog_10_method_1_code
def yX8_init : MethodName := ⟨RX8, "<init>", "()V"⟩
abbrev cX8_isMade : ByteArray := prog_10_method_2_code
def yX8_isMade : MethodName := ⟨RX8, "isMade", "()Z"⟩
abbrev cX8_make : ByteArray := prog_10_method_3_code
def yX8_make : MethodName := ⟨RX8, "make", "(II)V"⟩
abbrev cX8_put : ByteArray := prog_10_method_4_code
def yX8_put : MethodName := ⟨RX8, "put", "(IJ)V"⟩
abbrev cX8_hasPart : ByteArray := prog_10_method_5_code
def yX8_hasPart : MethodName := ⟨RX8, "hasPart", "(II)Z"⟩
abbrev cX8_isBelow : ByteArray := prog_10_method_6_code
def yX8_isBelow : MethodName := ⟨RX8, "isBelow", "(II)Z"⟩
abbrev cX8_isPeriod : ByteArray := prog_10_method_7_code
def yX8_isPeriod : MethodName := ⟨RX8, "isPeriod", "(I)Z"⟩
abbrev cX8_leastPeriod : ByteArray := prog_10_method_8_code
def yX8_leastPeriod : MethodName := ⟨RX8, "leastPeriod", "()I"⟩
abbrev cX8_periodsInAll : ByteArray := prog_10_method_9_code
def yX8_periodsInAll : MethodName := ⟨RX8, "periodsInAll", "()I"⟩
def RX9 : String := "MoleBoard$Run"
def TX9 : u_T := fun k => match k with
  | 0 => ("MoleBoard$Run", "struck", "I", false)
  | 1 => ("MoleBoard$Run", "gone", "I", false)
  | 2 => ("MoleBoard$Run", "strikeOf", "[I", true)
  | 3 => ("MoleBoard$Run", "timesOf", "[I", true)
  | 4 => ("MoleBoard$Run", "bad", "I", false)
  | 5 => ("MoleBoard$Run", "tickOf", "[I", true)
  | 6 => ("MoleBoard$Run", "holeOf", "[I", true)
  | 7 => ("MoleBoard$Run", "hole", "I", false)
  | _ => ("MoleBoard$Run", "free", "I", false)
def tyX9 : Nat → FieldType := fun k => match k with
  | 0 => .int
  | 1 => .int
  | 2 => .array .int
  | 3 => .array .int
  | 4 => .int
  | 5 => .array .int
  | 6 => .array .int
  | 7 => .int
  | _ => .int
abbrev wsX90 : List Cond := u_ws RX9 TX9 9
theorem nmX9 : ∀ a, a < 9 → ∀ b, b < 9 → a ≠ b → (TX9 a).2.1 ≠ (TX9 b).2.1 := by decide +kernel
theorem tyX9_ok : ∀ k, k < 9 → parseFieldDescriptor (TX9 k).2.2.1 = some (tyX9 k) := by decide +kernel
abbrev cX9_init : ByteArray := prog_11_method_1_code
def yX9_init : MethodName := ⟨RX9, "<init>", "()V"⟩
abbrev cX9_good : ByteArray := prog_11_method_2_code
def yX9_good : MethodName := ⟨RX9, "good", "(LMoleBoard$Board;LMoleBoard$Game;LMoleBoard$Player;I)I"⟩
abbrev cX9_rashPoints : ByteArray := prog_11_method_3_code
def yX9_rashPoints : MethodName := ⟨RX9, "rashPoints", "(LMoleBoard$Board;LMoleBoard$Game;LMoleBoard$Player;)I"⟩
abbrev cX9_begin : ByteArray := prog_11_method_4_code
def yX9_begin : MethodName := ⟨RX9, "begin", "(LMoleBoard$Game;LMoleBoard$Player;)V"⟩
abbrev cX9_goFor : ByteArray := prog_11_method_5_code
def yX9_goFor : MethodName := ⟨RX9, "goFor", "(LMoleBoard$Board;LMoleBoard$Game;LMoleBoard$Player;II)V"⟩
abbrev cX9_among : ByteArray := prog_11_method_6_code
def yX9_among : MethodName := ⟨RX9, "among", "(II)I"⟩
abbrev cX9_strike : ByteArray := prog_11_method_7_code
def yX9_strike : MethodName := ⟨RX9, "strike", "(LMoleBoard$Board;LMoleBoard$Game;LMoleBoard$Player;II)Z"⟩
abbrev cX9_holeBehind : ByteArray := prog_11_method_8_code
def yX9_holeBehind : MethodName := ⟨RX9, "holeBehind", "(II)I"⟩
abbrev cX9_firstMissed : ByteArray := prog_11_method_9_code
def yX9_firstMissed : MethodName := ⟨RX9, "firstMissed", "(LMoleBoard$Game;)I"⟩
def RX10 : String := "MoleBoard$Tape"
def TX10 : u_T := fun k => match k with
  | 0 => ("MoleBoard$Tape", "size", "I", false)
  | _ => ("MoleBoard$Tape", "bytes", "[B", true)
def tyX10 : Nat → FieldType := fun k => match k with
  | 0 => .int
  | _ => .array .byte
abbrev wsX100 : List Cond := u_ws RX10 TX10 2
theorem nmX10 : ∀ a, a < 2 → ∀ b, b < 2 → a ≠ b → (TX10 a).2.1 ≠ (TX10 b).2.1 := by decide +kernel
theorem tyX10_ok : ∀ k, k < 2 → parseFieldDescriptor (TX10 k).2.2.1 = some (tyX10 k) := by decide +kernel
abbrev cX10_init : ByteArray := prog_12_method_1_code
def yX10_init : MethodName := ⟨RX10, "<init>", "()V"⟩
abbrev cX10_put : ByteArray := prog_12_method_2_code
def yX10_put : MethodName := ⟨RX10, "put", "(I)V"⟩
abbrev cX10_at : ByteArray := prog_12_method_3_code
def yX10_at : MethodName := ⟨RX10, "at", "(I)I"⟩
def RX11 : String := "MoleBoard"
def TX11 : u_T := fun k => match k with
  | 0 => ("MoleBoard", "now", "LMoleBoard$Board;", true)
  | 1 => ("MoleBoard", "images", "[LMoleBoard$Board;", true)
  | 2 => ("MoleBoard", "reader", "LMoleBoard$Reader;", true)
  | 3 => ("MoleBoard", "game", "LMoleBoard$Game;", true)
  | 4 => ("MoleBoard", "runner", "LMoleBoard$Player;", true)
  | 5 => ("MoleBoard", "partner", "LMoleBoard$Player;", true)
  | 6 => ("MoleBoard", "run", "LMoleBoard$Run;", true)
  | 7 => ("MoleBoard", "search", "LMoleBoard$Best;", true)
  | 8 => ("MoleBoard", "lots", "LMoleBoard$Lots;", true)
  | 9 => ("MoleBoard", "blows", "LMoleBoard$Blows;", true)
  | _ => ("MoleBoard", "slots", "[LMoleBoard$Row;", true)
def tyX11 : Nat → FieldType := fun k => match k with
  | 0 => .object "MoleBoard$Board"
  | 1 => .array (.object "MoleBoard$Board")
  | 2 => .object "MoleBoard$Reader"
  | 3 => .object "MoleBoard$Game"
  | 4 => .object "MoleBoard$Player"
  | 5 => .object "MoleBoard$Player"
  | 6 => .object "MoleBoard$Run"
  | 7 => .object "MoleBoard$Best"
  | 8 => .object "MoleBoard$Lots"
  | 9 => .object "MoleBoard$Blows"
  | _ => .array (.object "MoleBoard$Row")
abbrev wsX110 : List Cond := u_ws RX11 TX11 11
theorem nmX11 : ∀ a, a < 11 → ∀ b, b < 11 → a ≠ b → (TX11 a).2.1 ≠ (TX11 b).2.1 := by decide +kernel
theorem tyX11_ok : ∀ k, k < 11 → parseFieldDescriptor (TX11 k).2.2.1 = some (tyX11 k) := by decide +kernel
abbrev cX11_init : ByteArray := prog_1_method_1_code
def yX11_init : MethodName := ⟨RX11, "<init>", "()V"⟩
abbrev cX11_feed : ByteArray := prog_1_method_2_code
def yX11_feed : MethodName := ⟨RX11, "feed", "(IIIII)I"⟩
abbrev cX11_end : ByteArray := prog_1_method_3_code
def yX11_end : MethodName := ⟨RX11, "end", "(I)I"⟩
abbrev cX11_board : ByteArray := prog_1_method_4_code
def yX11_board : MethodName := ⟨RX11, "board", "()I"⟩
abbrev cX11_fault : ByteArray := prog_1_method_5_code
def yX11_fault : MethodName := ⟨RX11, "fault", "(I)I"⟩
abbrev cX11_drum : ByteArray := prog_1_method_6_code
def yX11_drum : MethodName := ⟨RX11, "drum", "(II)I"⟩
abbrev cX11_player : ByteArray := prog_1_method_7_code
def yX11_player : MethodName := ⟨RX11, "player", "(II)I"⟩
abbrev cX11_stay : ByteArray := prog_1_method_8_code
def yX11_stay : MethodName := ⟨RX11, "stay", "(I)I"⟩
abbrev cX11_count : ByteArray := prog_1_method_9_code
def yX11_count : MethodName := ⟨RX11, "count", "(I)I"⟩
abbrev cX11_comings : ByteArray := prog_1_method_10_code
def yX11_comings : MethodName := ⟨RX11, "comings", "()I"⟩
abbrev cX11_comes : ByteArray := prog_1_method_11_code
def yX11_comes : MethodName := ⟨RX11, "comes", "(II)I"⟩
abbrev cX11_up : ByteArray := prog_1_method_12_code
def yX11_up : MethodName := ⟨RX11, "up", "(I)I"⟩
abbrev cX11_calm : ByteArray := prog_1_method_13_code
def yX11_calm : MethodName := ⟨RX11, "calm", "()I"⟩
abbrev cX11_steps : ByteArray := prog_1_method_14_code
def yX11_steps : MethodName := ⟨RX11, "steps", "(II)I"⟩
abbrev cX11_pace : ByteArray := prog_1_method_15_code
def yX11_pace : MethodName := ⟨RX11, "pace", "(II)I"⟩
abbrev cX11_aware : ByteArray := prog_1_method_16_code
def yX11_aware : MethodName := ⟨RX11, "aware", "(II)I"⟩
abbrev cX11_hits : ByteArray := prog_1_method_17_code
def yX11_hits : MethodName := ⟨RX11, "hits", "(I)I"⟩
abbrev cX11_hit : ByteArray := prog_1_method_18_code
def yX11_hit : MethodName := ⟨RX11, "hit", "(II)I"⟩
abbrev cX11_twice : ByteArray := prog_1_method_19_code
def yX11_twice : MethodName := ⟨RX11, "twice", "(II)I"⟩
abbrev cX11_where : ByteArray := prog_1_method_20_code
def yX11_where : MethodName := ⟨RX11, "where", "(II)I"⟩
abbrev cX11_missed : ByteArray := prog_1_method_21_code
def yX11_missed : MethodName := ⟨RX11, "missed", "(I)I"⟩
abbrev cX11_walked : ByteArray := prog_1_method_22_code
def yX11_walked : MethodName := ⟨RX11, "walked", "(I)I"⟩
abbrev cX11_best : ByteArray := prog_1_method_23_code
def yX11_best : MethodName := ⟨RX11, "best", "(I)I"⟩
abbrev cX11_ahead : ByteArray := prog_1_method_24_code
def yX11_ahead : MethodName := ⟨RX11, "ahead", "(II)I"⟩
abbrev cX11_learns : ByteArray := prog_1_method_25_code
def yX11_learns : MethodName := ⟨RX11, "learns", "(II)I"⟩
abbrev cX11_enough : ByteArray := prog_1_method_26_code
def yX11_enough : MethodName := ⟨RX11, "enough", "(I)I"⟩
abbrev cX11_waits : ByteArray := prog_1_method_27_code
def yX11_waits : MethodName := ⟨RX11, "waits", "(II)I"⟩
abbrev cX11_slack : ByteArray := prog_1_method_28_code
def yX11_slack : MethodName := ⟨RX11, "slack", "(I)I"⟩
abbrev cX11_lucky : ByteArray := prog_1_method_29_code
def yX11_lucky : MethodName := ⟨RX11, "lucky", "(I)I"⟩
abbrev cX11_mean : ByteArray := prog_1_method_30_code
def yX11_mean : MethodName := ⟨RX11, "mean", "(II)I"⟩
abbrev cX11_middle : ByteArray := prog_1_method_31_code
def yX11_middle : MethodName := ⟨RX11, "middle", "(I)I"⟩
abbrev cX11_reach : ByteArray := prog_1_method_32_code
def yX11_reach : MethodName := ⟨RX11, "reach", "(II)I"⟩
abbrev cX11_post : ByteArray := prog_1_method_33_code
def yX11_post : MethodName := ⟨RX11, "post", "(I)I"⟩
abbrev cX11_rows : ByteArray := prog_1_method_34_code
def yX11_rows : MethodName := ⟨RX11, "rows", "(II)J"⟩
abbrev cX11_ends : ByteArray := prog_1_method_35_code
def yX11_ends : MethodName := ⟨RX11, "ends", "(III)J"⟩
abbrev cX11_fair : ByteArray := prog_1_method_36_code
def yX11_fair : MethodName := ⟨RX11, "fair", "(I)I"⟩
abbrev cX11_breaks : ByteArray := prog_1_method_37_code
def yX11_breaks : MethodName := ⟨RX11, "breaks", "(I)I"⟩
abbrev cX11_period : ByteArray := prog_1_method_38_code
def yX11_period : MethodName := ⟨RX11, "period", "(I)I"⟩
abbrev cX11_periods : ByteArray := prog_1_method_39_code
def yX11_periods : MethodName := ⟨RX11, "periods", "(I)I"⟩
abbrev cX11_luck : ByteArray := prog_1_method_40_code
def yX11_luck : MethodName := ⟨RX11, "luck", "(I)I"⟩
abbrev cX11_fits : ByteArray := prog_1_method_41_code
def yX11_fits : MethodName := ⟨RX11, "fits", "(I)I"⟩
abbrev cX11_place : ByteArray := prog_1_method_42_code
def yX11_place : MethodName := ⟨RX11, "place", "(II)I"⟩
abbrev cX11_next : ByteArray := prog_1_method_43_code
def yX11_next : MethodName := ⟨RX11, "next", "(I)I"⟩
abbrev cX11_needed : ByteArray := prog_1_method_44_code
def yX11_needed : MethodName := ⟨RX11, "needed", "(I)I"⟩
abbrev cX11_known : ByteArray := prog_1_method_45_code
def yX11_known : MethodName := ⟨RX11, "known", "()I"⟩
abbrev cX11_rash : ByteArray := prog_1_method_46_code
def yX11_rash : MethodName := ⟨RX11, "rash", "(I)I"⟩
abbrev cX11_look : ByteArray := prog_1_method_47_code
def yX11_look : MethodName := ⟨RX11, "look", "(II)I"⟩
abbrev cX11_line : ByteArray := prog_1_method_48_code
def yX11_line : MethodName := ⟨RX11, "line", "(I)I"⟩
abbrev cX11_two : ByteArray := prog_1_method_49_code
def yX11_two : MethodName := ⟨RX11, "two", "(III)I"⟩
abbrev cX11_tickets : ByteArray := prog_1_method_50_code
def yX11_tickets : MethodName := ⟨RX11, "tickets", "(I)I"⟩
abbrev cX11_prize : ByteArray := prog_1_method_51_code
def yX11_prize : MethodName := ⟨RX11, "prize", "(I)I"⟩
abbrev cX11_counted : ByteArray := prog_1_method_52_code
def yX11_counted : MethodName := ⟨RX11, "counted", "(I)I"⟩
abbrev cX11_scored : ByteArray := prog_1_method_53_code
def yX11_scored : MethodName := ⟨RX11, "scored", "(I)I"⟩
abbrev cX11_early : ByteArray := prog_1_method_54_code
def yX11_early : MethodName := ⟨RX11, "early", "(II)I"⟩
abbrev cX11_often : ByteArray := prog_1_method_55_code
def yX11_often : MethodName := ⟨RX11, "often", "(I)I"⟩
abbrev cX11_balance : ByteArray := prog_1_method_56_code
def yX11_balance : MethodName := ⟨RX11, "balance", "()I"⟩
abbrev cX11_path : ByteArray := prog_1_method_57_code
def yX11_path : MethodName := ⟨RX11, "path", "()I"⟩
abbrev cX11_better : ByteArray := prog_1_method_58_code
def yX11_better : MethodName := ⟨RX11, "better", "(I)I"⟩
abbrev cX11_swap : ByteArray := prog_1_method_59_code
def yX11_swap : MethodName := ⟨RX11, "swap", "(II)I"⟩
abbrev cX11_paint : ByteArray := prog_1_method_60_code
def yX11_paint : MethodName := ⟨RX11, "paint", "(II)I"⟩
abbrev cX11_turn : ByteArray := prog_1_method_61_code
def yX11_turn : MethodName := ⟨RX11, "turn", "(I)I"⟩
abbrev cX11_shut : ByteArray := prog_1_method_62_code
def yX11_shut : MethodName := ⟨RX11, "shut", "(II)I"⟩
abbrev cX11_train : ByteArray := prog_1_method_63_code
def yX11_train : MethodName := ⟨RX11, "train", "(III)I"⟩
abbrev cX11_drawn : ByteArray := prog_1_method_64_code
def yX11_drawn : MethodName := ⟨RX11, "drawn", "(III)I"⟩
abbrev cX11_night : ByteArray := prog_1_method_65_code
def yX11_night : MethodName := ⟨RX11, "night", "(III)I"⟩
abbrev cX11_years : ByteArray := prog_1_method_66_code
def yX11_years : MethodName := ⟨RX11, "years", "(IIII)I"⟩
abbrev cX11_image : ByteArray := prog_1_method_67_code
def yX11_image : MethodName := ⟨RX11, "image", "(I)I"⟩
abbrev cX11_back : ByteArray := prog_1_method_68_code
def yX11_back : MethodName := ⟨RX11, "back", "(I)I"⟩
abbrev cX11_row : ByteArray := prog_1_method_69_code
def yX11_row : MethodName := ⟨RX11, "row", "(III)I"⟩
abbrev cX11_write : ByteArray := prog_1_method_70_code
def yX11_write : MethodName := ⟨RX11, "write", "(IIJ)I"⟩
abbrev cX11_paste : ByteArray := prog_1_method_71_code
def yX11_paste : MethodName := ⟨RX11, "paste", "(IIIII)I"⟩
abbrev cX11_isSlot : ByteArray := prog_1_method_72_code
def yX11_isSlot : MethodName := ⟨RX11, "isSlot", "(I)Z"⟩
abbrev cX11_isLaw : ByteArray := prog_1_method_73_code
def yX11_isLaw : MethodName := ⟨RX11, "isLaw", "(I)Z"⟩
abbrev cX11_isSeed : ByteArray := prog_1_method_74_code
def yX11_isSeed : MethodName := ⟨RX11, "isSeed", "(I)Z"⟩
abbrev cX11_rowsKept : ByteArray := prog_1_method_75_code
def yX11_rowsKept : MethodName := ⟨RX11, "rowsKept", "()I"⟩
abbrev cX11_makeReady : ByteArray := prog_1_method_76_code
def yX11_makeReady : MethodName := ⟨RX11, "makeReady", "(I)Z"⟩
abbrev cX11_runOf : ByteArray := prog_1_method_77_code
def yX11_runOf : MethodName := ⟨RX11, "runOf", "(I)Z"⟩
abbrev cX11_hitsKnowing : ByteArray := prog_1_method_78_code
def yX11_hitsKnowing : MethodName := ⟨RX11, "hitsKnowing", "(I)I"⟩
abbrev cX11_hitsLagging : ByteArray := prog_1_method_79_code
def yX11_hitsLagging : MethodName := ⟨RX11, "hitsLagging", "(I)I"⟩
abbrev cX11_lookPoints : ByteArray := prog_1_method_80_code
def yX11_lookPoints : MethodName := ⟨RX11, "lookPoints", "(I)I"⟩
abbrev cX11_ticketsOfRun : ByteArray := prog_1_method_81_code
def yX11_ticketsOfRun : MethodName := ⟨RX11, "ticketsOfRun", "()I"⟩
abbrev cX11_countLots : ByteArray := prog_1_method_82_code
def yX11_countLots : MethodName := ⟨RX11, "countLots", "(II)Z"⟩
abbrev cX11_whyUnheard : ByteArray := prog_1_method_83_code
def yX11_whyUnheard : MethodName := ⟨RX11, "whyUnheard", "(I)I"⟩
abbrev cX11_whyNoBlows : ByteArray := prog_1_method_84_code
def yX11_whyNoBlows : MethodName := ⟨RX11, "whyNoBlows", "(I)I"⟩
def RX12 : String := "MoleBoardModel"
def TX12 : u_T := fun k => match k with
  | 0 => ("MoleBoardModel", "thrown", "I", false)
  | 1 => ("MoleBoardModel", "world", "[I", true)
  | 2 => ("MoleBoardModel", "images", "[I", true)
  | 3 => ("MoleBoardModel", "hasImage", "[Z", true)
  | 4 => ("MoleBoardModel", "tape", "[B", true)
  | 5 => ("MoleBoardModel", "taped", "I", false)
  | 6 => ("MoleBoardModel", "five", "[I", true)
  | 7 => ("MoleBoardModel", "size", "I", false)
  | 8 => ("MoleBoardModel", "at", "I", false)
  | 9 => ("MoleBoardModel", "from", "I", false)
  | 10 => ("MoleBoardModel", "token", "I", false)
  | 11 => ("MoleBoardModel", "value", "I", false)
  | 12 => ("MoleBoardModel", "faultKind", "I", false)
  | 13 => ("MoleBoardModel", "faultPlace", "I", false)
  | 14 => ("MoleBoardModel", "fresh", "[I", true)
  | 15 => ("MoleBoardModel", "game", "[I", true)
  | 16 => ("MoleBoardModel", "tickOf", "[I", true)
  | 17 => ("MoleBoardModel", "lastOf", "[I", true)
  | 18 => ("MoleBoardModel", "gameMany", "I", false)
  | 19 => ("MoleBoardModel", "runner", "I", false)
  | 20 => ("MoleBoardModel", "runLag", "I", false)
  | 21 => ("MoleBoardModel", "runKnows", "I", false)
  | 22 => ("MoleBoardModel", "runWaits", "I", false)
  | 23 => ("MoleBoardModel", "runHoles", "I", false)
  | 24 => ("MoleBoardModel", "runRed", "Z", false)
  | 25 => ("MoleBoardModel", "hitMany", "[I", true)
  | 26 => ("MoleBoardModel", "hitTick", "[I", true)
  | 27 => ("MoleBoardModel", "strikeTick", "[I", true)
  | 28 => ("MoleBoardModel", "strikeHole", "[I", true)
  | 29 => ("MoleBoardModel", "strikes", "I", false)
  | 30 => ("MoleBoardModel", "redHits", "I", false)
  | 31 => ("MoleBoardModel", "place", "I", false)
  | 32 => ("MoleBoardModel", "free", "I", false)
  | 33 => ("MoleBoardModel", "wentSteps", "I", false)
  | 34 => ("MoleBoardModel", "freeBy", "[I", true)
  | 35 => ("MoleBoardModel", "freeNow", "[I", true)
  | 36 => ("MoleBoardModel", "rowsBy", "[J", true)
  | 37 => ("MoleBoardModel", "rowsNow", "[J", true)
  | 38 => ("MoleBoardModel", "hitHoles", "[I", true)
  | 39 => ("MoleBoardModel", "goodBlows", "I", false)
  | 40 => ("MoleBoardModel", "redBlows", "I", false)
  | 41 => ("MoleBoardModel", "earlyBlows", "I", false)
  | 42 => ("MoleBoardModel", "drawn", "J", false)
  | 43 => ("MoleBoardModel", "many", "[I", true)
  | 44 => ("MoleBoardModel", "width", "[I", true)
  | 45 => ("MoleBoardModel", "numbers", "[J", true)
  | _ => ("MoleBoardModel", "moving", "[J", true)
def tyX12 : Nat → FieldType := fun k => match k with
  | 0 => .int
  | 1 => .array .int
  | 2 => .array .int
  | 3 => .array .boolean
  | 4 => .array .byte
  | 5 => .int
  | 6 => .array .int
  | 7 => .int
  | 8 => .int
  | 9 => .int
  | 10 => .int
  | 11 => .int
  | 12 => .int
  | 13 => .int
  | 14 => .array .int
  | 15 => .array .int
  | 16 => .array .int
  | 17 => .array .int
  | 18 => .int
  | 19 => .int
  | 20 => .int
  | 21 => .int
  | 22 => .int
  | 23 => .int
  | 24 => .boolean
  | 25 => .array .int
  | 26 => .array .int
  | 27 => .array .int
  | 28 => .array .int
  | 29 => .int
  | 30 => .int
  | 31 => .int
  | 32 => .int
  | 33 => .int
  | 34 => .array .int
  | 35 => .array .int
  | 36 => .array .long
  | 37 => .array .long
  | 38 => .array .int
  | 39 => .int
  | 40 => .int
  | 41 => .int
  | 42 => .long
  | 43 => .array .int
  | 44 => .array .int
  | 45 => .array .long
  | _ => .array .long
abbrev wsX120 : List Cond := u_ws RX12 TX12 47
theorem nmX12 : ∀ a, a < 47 → ∀ b, b < 47 → a ≠ b → (TX12 a).2.1 ≠ (TX12 b).2.1 := by decide +kernel
theorem tyX12_ok : ∀ k, k < 47 → parseFieldDescriptor (TX12 k).2.2.1 = some (tyX12 k) := by decide +kernel
abbrev cX12_init : ByteArray := prog_14_method_1_code
def yX12_init : MethodName := ⟨RX12, "<init>", "()V"⟩
abbrev cX12_in : ByteArray := prog_14_method_3_code
def yX12_in : MethodName := ⟨RX12, "in", "(JJJ)Z"⟩
abbrev cX12_image : ByteArray := prog_14_method_4_code
def yX12_image : MethodName := ⟨RX12, "image", "(I)I"⟩
abbrev cX12_back : ByteArray := prog_14_method_5_code
def yX12_back : MethodName := ⟨RX12, "back", "(I)I"⟩
abbrev cX12_isBoard : ByteArray := prog_14_method_6_code
def yX12_isBoard : MethodName := ⟨RX12, "isBoard", "()Z"⟩
abbrev cX12_holes : ByteArray := prog_14_method_7_code
def yX12_holes : MethodName := ⟨RX12, "holes", "()I"⟩
abbrev cX12_isHole : ByteArray := prog_14_method_8_code
def yX12_isHole : MethodName := ⟨RX12, "isHole", "(J)Z"⟩
abbrev cX12_isShut : ByteArray := prog_14_method_9_code
def yX12_isShut : MethodName := ⟨RX12, "isShut", "(I)Z"⟩
abbrev cX12_isTick : ByteArray := prog_14_method_10_code
def yX12_isTick : MethodName := ⟨RX12, "isTick", "(J)Z"⟩
abbrev cX12_isComing : ByteArray := prog_14_method_11_code
def yX12_isComing : MethodName := ⟨RX12, "isComing", "(I)Z"⟩
abbrev cX12_isPlayer : ByteArray := prog_14_method_12_code
def yX12_isPlayer : MethodName := ⟨RX12, "isPlayer", "(I)Z"⟩
abbrev cX12_ofComing : ByteArray := prog_14_method_13_code
def yX12_ofComing : MethodName := ⟨RX12, "ofComing", "(II)I"⟩
abbrev cX12_of : ByteArray := prog_14_method_14_code
def yX12_of : MethodName := ⟨RX12, "of", "(II)I"⟩
abbrev cX12_feed : ByteArray := prog_14_method_15_code
def yX12_feed : MethodName := ⟨RX12, "feed", "(IIIII)I"⟩
abbrev cX12_end : ByteArray := prog_14_method_16_code
def yX12_end : MethodName := ⟨RX12, "end", "(I)I"⟩
abbrev cX12_see : ByteArray := prog_14_method_17_code
def yX12_see : MethodName := ⟨RX12, "see", "(I)I"⟩
abbrev cX12_advance : ByteArray := prog_14_method_18_code
def yX12_advance : MethodName := ⟨RX12, "advance", "()V"⟩
abbrev cX12_good : ByteArray := prog_14_method_19_code
def yX12_good : MethodName := ⟨RX12, "good", "()Z"⟩
abbrev cX12_errs : ByteArray := prog_14_method_20_code
def yX12_errs : MethodName := ⟨RX12, "errs", "(I)V"⟩
abbrev cX12_is : ByteArray := prog_14_method_21_code
def yX12_is : MethodName := ⟨RX12, "is", "(Ljava/lang/String;)Z"⟩
abbrev cX12_takes : ByteArray := prog_14_method_22_code
def yX12_takes : MethodName := ⟨RX12, "takes", "(Ljava/lang/String;)Z"⟩
abbrev cX12_needs : ByteArray := prog_14_method_23_code
def yX12_needs : MethodName := ⟨RX12, "needs", "(Ljava/lang/String;)V"⟩
abbrev cX12_number : ByteArray := prog_14_method_24_code
def yX12_number : MethodName := ⟨RX12, "number", "(II)I"⟩
abbrev cX12_told : ByteArray := prog_14_method_25_code
def yX12_told : MethodName := ⟨RX12, "told", "(Ljava/lang/String;II)I"⟩
abbrev cX12_fault : ByteArray := prog_14_method_26_code
def yX12_fault : MethodName := ⟨RX12, "fault", "(I)I"⟩
abbrev cX12_freshHoles : ByteArray := prog_14_method_27_code
def yX12_freshHoles : MethodName := ⟨RX12, "freshHoles", "()I"⟩
abbrev cX12_readFirst : ByteArray := prog_14_method_28_code
def yX12_readFirst : MethodName := ⟨RX12, "readFirst", "()V"⟩
abbrev cX12_freshStay : ByteArray := prog_14_method_29_code
def yX12_freshStay : MethodName := ⟨RX12, "freshStay", "(I)I"⟩
abbrev cX12_readStay : ByteArray := prog_14_method_30_code
def yX12_readStay : MethodName := ⟨RX12, "readStay", "()V"⟩
abbrev cX12_isNextHole : ByteArray := prog_14_method_31_code
def yX12_isNextHole : MethodName := ⟨RX12, "isNextHole", "()Z"⟩
abbrev cX12_isFreshComing : ByteArray := prog_14_method_32_code
def yX12_isFreshComing : MethodName := ⟨RX12, "isFreshComing", "(I)Z"⟩
abbrev cX12_readShut : ByteArray := prog_14_method_33_code
def yX12_readShut : MethodName := ⟨RX12, "readShut", "()V"⟩
abbrev cX12_readHole : ByteArray := prog_14_method_34_code
def yX12_readHole : MethodName := ⟨RX12, "readHole", "(I)I"⟩
abbrev cX12_readComing : ByteArray := prog_14_method_35_code
def yX12_readComing : MethodName := ⟨RX12, "readComing", "(ZZ)V"⟩
abbrev cX12_readPlayer : ByteArray := prog_14_method_36_code
def yX12_readPlayer : MethodName := ⟨RX12, "readPlayer", "()V"⟩
abbrev cX12_readNext : ByteArray := prog_14_method_37_code
def yX12_readNext : MethodName := ⟨RX12, "readNext", "()V"⟩
abbrev cX12_readLine : ByteArray := prog_14_method_38_code
def yX12_readLine : MethodName := ⟨RX12, "readLine", "()V"⟩
abbrev cX12_board : ByteArray := prog_14_method_39_code
def yX12_board : MethodName := ⟨RX12, "board", "()I"⟩
abbrev cX12_stayIn : ByteArray := prog_14_method_40_code
def yX12_stayIn : MethodName := ⟨RX12, "stayIn", "(I)I"⟩
abbrev cX12_nextTick : ByteArray := prog_14_method_41_code
def yX12_nextTick : MethodName := ⟨RX12, "nextTick", "()I"⟩
abbrev cX12_mayCome : ByteArray := prog_14_method_42_code
def yX12_mayCome : MethodName := ⟨RX12, "mayCome", "()Z"⟩
abbrev cX12_come : ByteArray := prog_14_method_43_code
def yX12_come : MethodName := ⟨RX12, "come", "(III)V"⟩
abbrev cX12_lay : ByteArray := prog_14_method_44_code
def yX12_lay : MethodName := ⟨RX12, "lay", "()V"⟩
abbrev cX12_inGame : ByteArray := prog_14_method_45_code
def yX12_inGame : MethodName := ⟨RX12, "inGame", "(II)I"⟩
abbrev cX12_drum : ByteArray := prog_14_method_46_code
def yX12_drum : MethodName := ⟨RX12, "drum", "(II)I"⟩
abbrev cX12_player : ByteArray := prog_14_method_47_code
def yX12_player : MethodName := ⟨RX12, "player", "(II)I"⟩
abbrev cX12_stay : ByteArray := prog_14_method_48_code
def yX12_stay : MethodName := ⟨RX12, "stay", "(I)I"⟩
abbrev cX12_comings : ByteArray := prog_14_method_49_code
def yX12_comings : MethodName := ⟨RX12, "comings", "()I"⟩
abbrev cX12_isInGame : ByteArray := prog_14_method_50_code
def yX12_isInGame : MethodName := ⟨RX12, "isInGame", "(I)Z"⟩
abbrev cX12_comes : ByteArray := prog_14_method_51_code
def yX12_comes : MethodName := ⟨RX12, "comes", "(II)I"⟩
abbrev cX12_upIn : ByteArray := prog_14_method_52_code
def yX12_upIn : MethodName := ⟨RX12, "upIn", "(I)I"⟩
abbrev cX12_up : ByteArray := prog_14_method_53_code
def yX12_up : MethodName := ⟨RX12, "up", "(I)I"⟩
abbrev cX12_calm : ByteArray := prog_14_method_54_code
def yX12_calm : MethodName := ⟨RX12, "calm", "()I"⟩
abbrev cX12_stepsOf : ByteArray := prog_14_method_55_code
def yX12_stepsOf : MethodName := ⟨RX12, "stepsOf", "(II)I"⟩
abbrev cX12_steps : ByteArray := prog_14_method_56_code
def yX12_steps : MethodName := ⟨RX12, "steps", "(II)I"⟩
abbrev cX12_paceIn : ByteArray := prog_14_method_57_code
def yX12_paceIn : MethodName := ⟨RX12, "paceIn", "(II)I"⟩
abbrev cX12_pace : ByteArray := prog_14_method_58_code
def yX12_pace : MethodName := ⟨RX12, "pace", "(II)I"⟩
abbrev cX12_asTold : ByteArray := prog_14_method_59_code
def yX12_asTold : MethodName := ⟨RX12, "asTold", "(I)V"⟩
abbrev cX12_awareOf : ByteArray := prog_14_method_60_code
def yX12_awareOf : MethodName := ⟨RX12, "awareOf", "(I)I"⟩
abbrev cX12_aware : ByteArray := prog_14_method_61_code
def yX12_aware : MethodName := ⟨RX12, "aware", "(II)I"⟩
abbrev cX12_goes : ByteArray := prog_14_method_62_code
def yX12_goes : MethodName := ⟨RX12, "goes", "(II)Z"⟩
abbrev cX12_isHis : ByteArray := prog_14_method_63_code
def yX12_isHis : MethodName := ⟨RX12, "isHis", "(I)Z"⟩
abbrev cX12_goesFor : ByteArray := prog_14_method_64_code
def yX12_goesFor : MethodName := ⟨RX12, "goesFor", "(I)V"⟩
abbrev cX12_run : ByteArray := prog_14_method_65_code
def yX12_run : MethodName := ⟨RX12, "run", "()V"⟩
abbrev cX12_runAsTold : ByteArray := prog_14_method_66_code
def yX12_runAsTold : MethodName := ⟨RX12, "runAsTold", "(I)V"⟩
abbrev cX12_hits : ByteArray := prog_14_method_67_code
def yX12_hits : MethodName := ⟨RX12, "hits", "(I)I"⟩
abbrev cX12_hit : ByteArray := prog_14_method_68_code
def yX12_hit : MethodName := ⟨RX12, "hit", "(II)I"⟩
abbrev cX12_twice : ByteArray := prog_14_method_69_code
def yX12_twice : MethodName := ⟨RX12, "twice", "(II)I"⟩
abbrev cX12_where : ByteArray := prog_14_method_70_code
def yX12_where : MethodName := ⟨RX12, "where", "(II)I"⟩
abbrev cX12_missed : ByteArray := prog_14_method_71_code
def yX12_missed : MethodName := ⟨RX12, "missed", "(I)I"⟩
abbrev cX12_walked : ByteArray := prog_14_method_72_code
def yX12_walked : MethodName := ⟨RX12, "walked", "(I)I"⟩
abbrev cX12_cell : ByteArray := prog_14_method_73_code
def yX12_cell : MethodName := ⟨RX12, "cell", "(II)I"⟩
abbrev cX12_sooner : ByteArray := prog_14_method_74_code
def yX12_sooner : MethodName := ⟨RX12, "sooner", "(III)V"⟩
abbrev cX12_behind : ByteArray := prog_14_method_75_code
def yX12_behind : MethodName := ⟨RX12, "behind", "(IIII)I"⟩
abbrev cX12_mayHit : ByteArray := prog_14_method_76_code
def yX12_mayHit : MethodName := ⟨RX12, "mayHit", "(III)V"⟩
abbrev cX12_bestOf : ByteArray := prog_14_method_77_code
def yX12_bestOf : MethodName := ⟨RX12, "bestOf", "(II)I"⟩
abbrev cX12_best : ByteArray := prog_14_method_78_code
def yX12_best : MethodName := ⟨RX12, "best", "(I)I"⟩
abbrev cX12_ahead : ByteArray := prog_14_method_79_code
def yX12_ahead : MethodName := ⟨RX12, "ahead", "(II)I"⟩
abbrev cX12_learnsBy : ByteArray := prog_14_method_80_code
def yX12_learnsBy : MethodName := ⟨RX12, "learnsBy", "(II)I"⟩
abbrev cX12_learns : ByteArray := prog_14_method_81_code
def yX12_learns : MethodName := ⟨RX12, "learns", "(II)I"⟩
abbrev cX12_enough : ByteArray := prog_14_method_82_code
def yX12_enough : MethodName := ⟨RX12, "enough", "(I)I"⟩
abbrev cX12_waitingAt : ByteArray := prog_14_method_83_code
def yX12_waitingAt : MethodName := ⟨RX12, "waitingAt", "(II)I"⟩
abbrev cX12_waits : ByteArray := prog_14_method_84_code
def yX12_waits : MethodName := ⟨RX12, "waits", "(II)I"⟩
abbrev cX12_openHoles : ByteArray := prog_14_method_85_code
def yX12_openHoles : MethodName := ⟨RX12, "openHoles", "()I"⟩
abbrev cX12_stepsToAll : ByteArray := prog_14_method_86_code
def yX12_stepsToAll : MethodName := ⟨RX12, "stepsToAll", "(I)I"⟩
abbrev cX12_divisor : ByteArray := prog_14_method_87_code
def yX12_divisor : MethodName := ⟨RX12, "divisor", "(II)I"⟩
abbrev cX12_mean : ByteArray := prog_14_method_88_code
def yX12_mean : MethodName := ⟨RX12, "mean", "(II)I"⟩
abbrev cX12_middle : ByteArray := prog_14_method_89_code
def yX12_middle : MethodName := ⟨RX12, "middle", "(I)I"⟩
abbrev cX12_reachOf : ByteArray := prog_14_method_90_code
def yX12_reachOf : MethodName := ⟨RX12, "reachOf", "(II)I"⟩
abbrev cX12_reach : ByteArray := prog_14_method_91_code
def yX12_reach : MethodName := ⟨RX12, "reach", "(II)I"⟩
abbrev cX12_bits : ByteArray := prog_14_method_92_code
def yX12_bits : MethodName := ⟨RX12, "bits", "(I)I"⟩
abbrev cX12_post : ByteArray := prog_14_method_93_code
def yX12_post : MethodName := ⟨RX12, "post", "(I)I"⟩
abbrev cX12_lagging : ByteArray := prog_14_method_94_code
def yX12_lagging : MethodName := ⟨RX12, "lagging", "(II)I"⟩
abbrev cX12_slack : ByteArray := prog_14_method_95_code
def yX12_slack : MethodName := ⟨RX12, "slack", "(I)I"⟩
abbrev cX12_isLaw : ByteArray := prog_14_method_96_code
def yX12_isLaw : MethodName := ⟨RX12, "isLaw", "(I)Z"⟩
abbrev cX12_lets : ByteArray := prog_14_method_97_code
def yX12_lets : MethodName := ⟨RX12, "lets", "(IIII)Z"⟩
abbrev cX12_fillRows : ByteArray := prog_14_method_98_code
def yX12_fillRows : MethodName := ⟨RX12, "fillRows", "(II)V"⟩
abbrev cX12_endingIn : ByteArray := prog_14_method_99_code
def yX12_endingIn : MethodName := ⟨RX12, "endingIn", "(I)J"⟩
abbrev cX12_rows : ByteArray := prog_14_method_100_code
def yX12_rows : MethodName := ⟨RX12, "rows", "(II)J"⟩
abbrev cX12_ends : ByteArray := prog_14_method_101_code
def yX12_ends : MethodName := ⟨RX12, "ends", "(III)J"⟩
abbrev cX12_fair : ByteArray := prog_14_method_102_code
def yX12_fair : MethodName := ⟨RX12, "fair", "(I)I"⟩
abbrev cX12_holeAt : ByteArray := prog_14_method_103_code
def yX12_holeAt : MethodName := ⟨RX12, "holeAt", "(I)I"⟩
abbrev cX12_breaks : ByteArray := prog_14_method_104_code
def yX12_breaks : MethodName := ⟨RX12, "breaks", "(I)I"⟩
abbrev cX12_numberAt : ByteArray := prog_14_method_105_code
def yX12_numberAt : MethodName := ⟨RX12, "numberAt", "(II)J"⟩
abbrev cX12_asksHeard : ByteArray := prog_14_method_106_code
def yX12_asksHeard : MethodName := ⟨RX12, "asksHeard", "(I)I"⟩
abbrev cX12_isPeriod : ByteArray := prog_14_method_107_code
def yX12_isPeriod : MethodName := ⟨RX12, "isPeriod", "(II)Z"⟩
abbrev cX12_leastPeriod : ByteArray := prog_14_method_108_code
def yX12_leastPeriod : MethodName := ⟨RX12, "leastPeriod", "(I)I"⟩
abbrev cX12_period : ByteArray := prog_14_method_109_code
def yX12_period : MethodName := ⟨RX12, "period", "(I)I"⟩
abbrev cX12_periods : ByteArray := prog_14_method_110_code
def yX12_periods : MethodName := ⟨RX12, "periods", "(I)I"⟩
abbrev cX12_luck : ByteArray := prog_14_method_111_code
def yX12_luck : MethodName := ⟨RX12, "luck", "(I)I"⟩
abbrev cX12_fitsFrom : ByteArray := prog_14_method_112_code
def yX12_fitsFrom : MethodName := ⟨RX12, "fitsFrom", "(II)Z"⟩
abbrev cX12_fits : ByteArray := prog_14_method_113_code
def yX12_fits : MethodName := ⟨RX12, "fits", "(I)I"⟩
abbrev cX12_place : ByteArray := prog_14_method_114_code
def yX12_place : MethodName := ⟨RX12, "place", "(II)I"⟩
abbrev cX12_next : ByteArray := prog_14_method_115_code
def yX12_next : MethodName := ⟨RX12, "next", "(I)I"⟩
abbrev cX12_goesAlike : ByteArray := prog_14_method_116_code
def yX12_goesAlike : MethodName := ⟨RX12, "goesAlike", "(III)Z"⟩
abbrev cX12_neededFrom : ByteArray := prog_14_method_117_code
def yX12_neededFrom : MethodName := ⟨RX12, "neededFrom", "(I)I"⟩
abbrev cX12_needed : ByteArray := prog_14_method_118_code
def yX12_needed : MethodName := ⟨RX12, "needed", "(I)I"⟩
abbrev cX12_known : ByteArray := prog_14_method_119_code
def yX12_known : MethodName := ⟨RX12, "known", "()I"⟩
abbrev cX12_rashOf : ByteArray := prog_14_method_120_code
def yX12_rashOf : MethodName := ⟨RX12, "rashOf", "(I)I"⟩
abbrev cX12_rash : ByteArray := prog_14_method_121_code
def yX12_rash : MethodName := ⟨RX12, "rash", "(I)I"⟩
abbrev cX12_lookOf : ByteArray := prog_14_method_122_code
def yX12_lookOf : MethodName := ⟨RX12, "lookOf", "(II)I"⟩
abbrev cX12_look : ByteArray := prog_14_method_123_code
def yX12_look : MethodName := ⟨RX12, "look", "(II)I"⟩
abbrev cX12_line : ByteArray := prog_14_method_124_code
def yX12_line : MethodName := ⟨RX12, "line", "(I)I"⟩
abbrev cX12_hitsOn : ByteArray := prog_14_method_125_code
def yX12_hitsOn : MethodName := ⟨RX12, "hitsOn", "(II)I"⟩
abbrev cX12_two : ByteArray := prog_14_method_126_code
def yX12_two : MethodName := ⟨RX12, "two", "(III)I"⟩
abbrev cX12_ticketsOf : ByteArray := prog_14_method_127_code
def yX12_ticketsOf : MethodName := ⟨RX12, "ticketsOf", "(I)I"⟩
abbrev cX12_tickets : ByteArray := prog_14_method_128_code
def yX12_tickets : MethodName := ⟨RX12, "tickets", "(I)I"⟩
abbrev cX12_prize : ByteArray := prog_14_method_129_code
def yX12_prize : MethodName := ⟨RX12, "prize", "(I)I"⟩
abbrev cX12_asksBlows : ByteArray := prog_14_method_130_code
def yX12_asksBlows : MethodName := ⟨RX12, "asksBlows", "(I)I"⟩
abbrev cX12_strike : ByteArray := prog_14_method_131_code
def yX12_strike : MethodName := ⟨RX12, "strike", "(III)V"⟩
abbrev cX12_layBlows : ByteArray := prog_14_method_132_code
def yX12_layBlows : MethodName := ⟨RX12, "layBlows", "(II)V"⟩
abbrev cX12_counted : ByteArray := prog_14_method_133_code
def yX12_counted : MethodName := ⟨RX12, "counted", "(I)I"⟩
abbrev cX12_scored : ByteArray := prog_14_method_134_code
def yX12_scored : MethodName := ⟨RX12, "scored", "(I)I"⟩
abbrev cX12_early : ByteArray := prog_14_method_135_code
def yX12_early : MethodName := ⟨RX12, "early", "(II)I"⟩
abbrev cX12_oftenOf : ByteArray := prog_14_method_136_code
def yX12_oftenOf : MethodName := ⟨RX12, "oftenOf", "(I)I"⟩
abbrev cX12_often : ByteArray := prog_14_method_137_code
def yX12_often : MethodName := ⟨RX12, "often", "(I)I"⟩
abbrev cX12_balance : ByteArray := prog_14_method_138_code
def yX12_balance : MethodName := ⟨RX12, "balance", "()I"⟩
abbrev cX12_pathOf : ByteArray := prog_14_method_139_code
def yX12_pathOf : MethodName := ⟨RX12, "pathOf", "()I"⟩
abbrev cX12_path : ByteArray := prog_14_method_140_code
def yX12_path : MethodName := ⟨RX12, "path", "()I"⟩
abbrev cX12_trade : ByteArray := prog_14_method_141_code
def yX12_trade : MethodName := ⟨RX12, "trade", "(II)V"⟩
abbrev cX12_better : ByteArray := prog_14_method_142_code
def yX12_better : MethodName := ⟨RX12, "better", "(I)I"⟩
abbrev cX12_swap : ByteArray := prog_14_method_143_code
def yX12_swap : MethodName := ⟨RX12, "swap", "(II)I"⟩
abbrev cX12_paint : ByteArray := prog_14_method_144_code
def yX12_paint : MethodName := ⟨RX12, "paint", "(II)I"⟩
abbrev cX12_turn : ByteArray := prog_14_method_145_code
def yX12_turn : MethodName := ⟨RX12, "turn", "(I)I"⟩
abbrev cX12_lucky : ByteArray := prog_14_method_146_code
def yX12_lucky : MethodName := ⟨RX12, "lucky", "(I)I"⟩
abbrev cX12_shut : ByteArray := prog_14_method_147_code
def yX12_shut : MethodName := ⟨RX12, "shut", "(II)I"⟩
abbrev cX12_train : ByteArray := prog_14_method_148_code
def yX12_train : MethodName := ⟨RX12, "train", "(III)I"⟩
abbrev cX12_draw : ByteArray := prog_14_method_149_code
def yX12_draw : MethodName := ⟨RX12, "draw", "(I)I"⟩
abbrev cX12_holeByLot : ByteArray := prog_14_method_150_code
def yX12_holeByLot : MethodName := ⟨RX12, "holeByLot", "(I)I"⟩
abbrev cX12_layNight : ByteArray := prog_14_method_151_code
def yX12_layNight : MethodName := ⟨RX12, "layNight", "(JI)V"⟩
abbrev cX12_isSeed : ByteArray := prog_14_method_152_code
def yX12_isSeed : MethodName := ⟨RX12, "isSeed", "(I)Z"⟩
abbrev cX12_drawn : ByteArray := prog_14_method_153_code
def yX12_drawn : MethodName := ⟨RX12, "drawn", "(III)I"⟩
abbrev cX12_nightOf : ByteArray := prog_14_method_154_code
def yX12_nightOf : MethodName := ⟨RX12, "nightOf", "(JII)I"⟩
abbrev cX12_night : ByteArray := prog_14_method_155_code
def yX12_night : MethodName := ⟨RX12, "night", "(III)I"⟩
abbrev cX12_years : ByteArray := prog_14_method_156_code
def yX12_years : MethodName := ⟨RX12, "years", "(IIII)I"⟩
abbrev cX12_count : ByteArray := prog_14_method_157_code
def yX12_count : MethodName := ⟨RX12, "count", "(I)I"⟩
abbrev cX12_isSlot : ByteArray := prog_14_method_158_code
def yX12_isSlot : MethodName := ⟨RX12, "isSlot", "(I)Z"⟩
abbrev cX12_cut : ByteArray := prog_14_method_159_code
def yX12_cut : MethodName := ⟨RX12, "cut", "(JI)J"⟩
abbrev cX12_row : ByteArray := prog_14_method_160_code
def yX12_row : MethodName := ⟨RX12, "row", "(III)I"⟩
abbrev cX12_write : ByteArray := prog_14_method_161_code
def yX12_write : MethodName := ⟨RX12, "write", "(IIJ)I"⟩
abbrev cX12_paste : ByteArray := prog_14_method_162_code
def yX12_paste : MethodName := ⟨RX12, "paste", "(IIIII)I"⟩
def RJ6 : String := "java/lang/Integer"
def TJ6 : u_T := fun k => match k with
  | _ => ("", "", "", false)
def tyJ6 : Nat → FieldType := fun k => match k with
  | _ => .int
abbrev wsJ60 : List Cond := u_ws RJ6 TJ6 0
theorem nmJ6 : ∀ a, a < 0 → ∀ b, b < 0 → a ≠ b → (TJ6 a).2.1 ≠ (TJ6 b).2.1 := by decide +kernel
theorem tyJ6_ok : ∀ k, k < 0 → parseFieldDescriptor (TJ6 k).2.2.1 = some (tyJ6 k) := by decide +kernel
abbrev cJ6_bitCount_0f7a4 : ByteArray := prog_15_method_49_code
def yJ6_bitCount_0f7a4 : MethodName := ⟨RJ6, "bitCount", "(I)I"⟩
def RJ9 : String := "java/lang/Math"
def TJ9 : u_T := fun k => match k with
  | _ => ("", "", "", false)
def tyJ9 : Nat → FieldType := fun k => match k with
  | _ => .int
abbrev wsJ90 : List Cond := u_ws RJ9 TJ9 0
theorem nmJ9 : ∀ a, a < 0 → ∀ b, b < 0 → a ≠ b → (TJ9 a).2.1 ≠ (TJ9 b).2.1 := by decide +kernel
theorem tyJ9_ok : ∀ k, k < 0 → parseFieldDescriptor (TJ9 k).2.2.1 = some (tyJ9 k) := by decide +kernel
abbrev cJ9_floorMod_7cf53 : ByteArray := prog_16_method_50_code
def yJ9_floorMod_7cf53 : MethodName := ⟨RJ9, "floorMod", "(II)I"⟩
abbrev cJ9_abs_0f7a4 : ByteArray := prog_16_method_59_code
def yJ9_abs_0f7a4 : MethodName := ⟨RJ9, "abs", "(I)I"⟩
abbrev cJ9_max_7cf53 : ByteArray := prog_16_method_65_code
def yJ9_max_7cf53 : MethodName := ⟨RJ9, "max", "(II)I"⟩
abbrev cJ9_min_7cf53 : ByteArray := prog_16_method_69_code
def yJ9_min_7cf53 : MethodName := ⟨RJ9, "min", "(II)I"⟩
def RJ0 : String := "java/lang/String"
def TJ0 : u_T := fun k => match k with
  | _ => ("", "", "", false)
def tyJ0 : Nat → FieldType := fun k => match k with
  | _ => .int
abbrev wsJ00 : List Cond := u_ws RJ0 TJ0 0
theorem nmJ0 : ∀ a, a < 0 → ∀ b, b < 0 → a ≠ b → (TJ0 a).2.1 ≠ (TJ0 b).2.1 := by decide +kernel
theorem tyJ0_ok : ∀ k, k < 0 → parseFieldDescriptor (TJ0 k).2.2.1 = some (tyJ0 k) := by decide +kernel
abbrev cJ0_length_8abf5 : ByteArray := prog_17_method_54_code
def yJ0_length_8abf5 : MethodName := ⟨RJ0, "length", "()I"⟩
abbrev cJ0_charAt_5068e : ByteArray := prog_17_method_56_code
def yJ0_charAt_5068e : MethodName := ⟨RJ0, "charAt", "(I)C"⟩
abbrev cJ0_coder_7d493 : ByteArray := prog_17_method_152_code
def yJ0_coder_7d493 : MethodName := ⟨RJ0, "coder", "()B"⟩
abbrev cJ0_isLatin1_aae02 : ByteArray := prog_17_method_154_code
def yJ0_isLatin1_aae02 : MethodName := ⟨RJ0, "isLatin1", "()Z"⟩
abbrev cJ0_checkIndex_df160 : ByteArray := prog_17_method_155_code
def yJ0_checkIndex_df160 : MethodName := ⟨RJ0, "checkIndex", "(II)V"⟩
def RJ1 : String := "java/lang/StringLatin1"
def TJ1 : u_T := fun k => match k with
  | _ => ("", "", "", false)
def tyJ1 : Nat → FieldType := fun k => match k with
  | _ => .int
abbrev wsJ10 : List Cond := u_ws RJ1 TJ1 0
theorem nmJ1 : ∀ a, a < 0 → ∀ b, b < 0 → a ≠ b → (TJ1 a).2.1 ≠ (TJ1 b).2.1 := by decide +kernel
theorem tyJ1_ok : ∀ k, k < 0 → parseFieldDescriptor (TJ1 k).2.2.1 = some (tyJ1 k) := by decide +kernel
abbrev cJ1_charAt_3b067 : ByteArray := prog_18_method_2_code
def yJ1_charAt_3b067 : MethodName := ⟨RJ1, "charAt", "([BI)C"⟩
def RJ2 : String := "java/lang/StringUTF16"
def TJ2 : u_T := fun k => match k with
  | _ => ("", "", "", false)
def tyJ2 : Nat → FieldType := fun k => match k with
  | _ => .int
abbrev wsJ20 : List Cond := u_ws RJ2 TJ2 0
theorem nmJ2 : ∀ a, a < 0 → ∀ b, b < 0 → a ≠ b → (TJ2 a).2.1 ≠ (TJ2 b).2.1 := by decide +kernel
theorem tyJ2_ok : ∀ k, k < 0 → parseFieldDescriptor (TJ2 k).2.2.1 = some (tyJ2 k) := by decide +kernel
abbrev cJ2_getChar_3b067 : ByteArray := prog_19_method_5_code
def yJ2_getChar_3b067 : MethodName := ⟨RJ2, "getChar", "([BI)C"⟩
abbrev cJ2_length_9d52b : ByteArray := prog_19_method_6_code
def yJ2_length_9d52b : MethodName := ⟨RJ2, "length", "([B)I"⟩
abbrev cJ2_charAt_3b067 : ByteArray := prog_19_method_83_code
def yJ2_charAt_3b067 : MethodName := ⟨RJ2, "charAt", "([BI)C"⟩
abbrev cJ2_checkIndex_2214a : ByteArray := prog_19_method_91_code
def yJ2_checkIndex_2214a : MethodName := ⟨RJ2, "checkIndex", "(I[B)V"⟩
def RJ10 : String := "java/lang/System"
def TJ10 : u_T := fun k => match k with
  | _ => ("", "", "", false)
def tyJ10 : Nat → FieldType := fun k => match k with
  | _ => .int
abbrev wsJ100 : List Cond := u_ws RJ10 TJ10 0
theorem nmJ10 : ∀ a, a < 0 → ∀ b, b < 0 → a ≠ b → (TJ10 a).2.1 ≠ (TJ10 b).2.1 := by decide +kernel
theorem tyJ10_ok : ∀ k, k < 0 → parseFieldDescriptor (TJ10 k).2.2.1 = some (tyJ10 k) := by decide +kernel
def RJ3 : String := "jdk/internal/util/Preconditions"
def TJ3 : u_T := fun k => match k with
  | _ => ("", "", "", false)
def tyJ3 : Nat → FieldType := fun k => match k with
  | _ => .int
abbrev wsJ30 : List Cond := u_ws RJ3 TJ3 0
theorem nmJ3 : ∀ a, a < 0 → ∀ b, b < 0 → a ≠ b → (TJ3 a).2.1 ≠ (TJ3 b).2.1 := by decide +kernel
theorem tyJ3_ok : ∀ k, k < 0 → parseFieldDescriptor (TJ3 k).2.2.1 = some (tyJ3 k) := by decide +kernel
abbrev cJ3_checkIndex_8e157 : ByteArray := prog_21_method_11_code
def yJ3_checkIndex_8e157 : MethodName := ⟨RJ3, "checkIndex", "(IILjava/util/function/BiFunction;)I"⟩
def RL : String := "MoleBoardLaw"
abbrev cL_law : ByteArray := code
abbrev vwCl : List vw_C := [(RX0, TX0, 1), (RX1, TX1, 4), (RX2, TX2, 15), (RX3, TX3, 5), (RX4, TX4, 7), (RX5, TX5, 2), (RX6, TX6, 5), (RX7, TX7, 9), (RX8, TX8, 3), (RX9, TX9, 9), (RX10, TX10, 2), (RX11, TX11, 11), (RX12, TX12, 47)]
/-- the classes of which rows are made -/
def x_ao : List String := ["MoleBoard$Board", "MoleBoard$Row"]
/-! ===== an interpreter of the bytecode over a small heap of numbered cells; its soundness stands in the next part ===== -/
abbrev xE : Type := (Nat × vp_A) ⊕ (Nat × List Value)
abbrev xH : Type := List xE
abbrev xL : Type := List (Nat × Value)
/-- pc, locals, stack, heap, cells made, slots made -/
abbrev xC : Type := Nat × xL × List Value × xH × Nat × Nat
/-- a row of a method: pc, instruction, length, what it is resolved to (two numbers), the place of its word -/
abbrev xR : Type := Nat × Instr × Nat × Nat × Nat × Nat
/-- a method: its class, its name, bytes, locals, what it returns, static, its class's number, its rows in pieces -/
abbrev xM : Type := String × MethodName × ByteArray × Nat × Option FieldType × Bool × Nat × List (Nat × List xR)
abbrev xO : Type := Option (xC ⊕ ((Nat × List Value × List Value) ⊕ Option Value))
abbrev xS : Type := Nat × (Nat → Int32)
def x_scr : Nat := 1000000
/-- the String constants lie from here on, what they hold from there on -/
def x_str : Nat := 2000000
def x_val : Nat := 3000000
def x_lit : List (String × Nat × String) := [("MoleBoard$Reader", 51, "board wide # high # ticks # pause # ;"), ("MoleBoard$Reader", 53, "stay # from # ;"), ("MoleBoard$Reader", 55, "shut # ;"), ("MoleBoard$Reader", 57, "good # ;"), ("MoleBoard$Reader", 59, "red # ;"), ("MoleBoard$Reader", 61, "twin # # ;"), ("MoleBoard$Reader", 63, "player pace # lag # tires # knows # waits # ;"), ("MoleBoard$Reader", 65, "tickets # each # ;"), ("MoleBoardModel", 170, "board"), ("MoleBoardModel", 172, "wide"), ("MoleBoardModel", 178, "high"), ("MoleBoardModel", 180, "ticks"), ("MoleBoardModel", 182, "pause"), ("MoleBoardModel", 211, "good"), ("MoleBoardModel", 212, "red"), ("MoleBoardModel", 214, "twin"), ("MoleBoardModel", 216, "stay"), ("MoleBoardModel", 218, "shut"), ("MoleBoardModel", 220, "player"), ("MoleBoardModel", 222, "tickets"), ("MoleBoardModel", 184, "from"), ("MoleBoardModel", 201, "pace"), ("MoleBoardModel", 203, "lag"), ("MoleBoardModel", 205, "tires"), ("MoleBoardModel", 207, "knows"), ("MoleBoardModel", 209, "waits"), ("MoleBoardModel", 237, "each")]
def x_sbyt : List (List Int32) := [[98, 111, 97, 114, 100, 32, 119, 105, 100, 101, 32, 35, 32, 104, 105, 103, 104, 32, 35, 32, 116, 105, 99, 107, 115, 32, 35, 32, 112, 97, 117, 115, 101, 32, 35, 32, 59],
  [115, 116, 97, 121, 32, 35, 32, 102, 114, 111, 109, 32, 35, 32, 59],
  [115, 104, 117, 116, 32, 35, 32, 59],
  [103, 111, 111, 100, 32, 35, 32, 59],
  [114, 101, 100, 32, 35, 32, 59],
  [116, 119, 105, 110, 32, 35, 32, 35, 32, 59],
  [112, 108, 97, 121, 101, 114, 32, 112, 97, 99, 101, 32, 35, 32, 108, 97, 103, 32, 35, 32, 116, 105, 114, 101, 115, 32, 35, 32, 107, 110, 111, 119, 115, 32, 35, 32, 119, 97, 105, 116, 115, 32, 35, 32, 59],
  [116, 105, 99, 107, 101, 116, 115, 32, 35, 32, 101, 97, 99, 104, 32, 35, 32, 59],
  [98, 111, 97, 114, 100],
  [119, 105, 100, 101],
  [104, 105, 103, 104],
  [116, 105, 99, 107, 115],
  [112, 97, 117, 115, 101],
  [103, 111, 111, 100],
  [114, 101, 100],
  [116, 119, 105, 110],
  [115, 116, 97, 121],
  [115, 104, 117, 116],
  [112, 108, 97, 121, 101, 114],
  [116, 105, 99, 107, 101, 116, 115],
  [102, 114, 111, 109],
  [112, 97, 99, 101],
  [108, 97, 103],
  [116, 105, 114, 101, 115],
  [107, 110, 111, 119, 115],
  [119, 97, 105, 116, 115],
  [101, 97, 99, 104]]
def x_off (j : Nat) : Nat := ([33, 74, 93, 105, 117, 128, 142, 191, 213, 222, 230, 238, 247, 256, 264, 271, 279, 287, 295, 305, 316, 324, 332, 339, 348, 357, 366] : List Nat).getD j 0
def x_find : List xR → Nat → Option xR
  | [], _ => none
  | r :: rs, pc => bif Nat.beq r.1 pc then some r else x_find rs pc
def x_row : List (Nat × List xR) → Nat → Option xR
  | [], _ => none
  | q :: more, pc => bif Nat.ble pc q.1 then x_find q.2 pc else x_row more pc
def x_ld : xL → Nat → Option Value
  | [], _ => none
  | q :: r, i => bif Nat.beq q.1 i then some q.2 else x_ld r i
def x_st1 (l : xL) (i : Nat) (v : Value) : xL := (i, v) :: l.filter (fun q => !(q.1 == i) && !(q.1 + 1 == i && q.2.category == 2))
def x_st2 (l : xL) (i : Nat) (v : Value) : xL := (i, v) :: l.filter (fun q => !(q.1 == i) && (!(q.1 == i + 1) && !(q.1 + 1 == i && q.2.category == 2)))
def x_cat : List Value → Nat
  | [] => 0
  | v :: r => v.category + x_cat r
def x_go (pc : Nat) (l : xL) (st : List Value) (h : xH) (k z : Nat) : xO := some (.inl (pc, l, st, h, k, z))
def x_i1 (st : List Value) (f : Int32 → List Value → xO) : xO := match st with
  | .int x :: r => f x r
  | _ => none
def x_i2 (st : List Value) (f : Int32 → Int32 → List Value → xO) : xO := match st with
  | .int y :: .int x :: r => f x y r
  | _ => none
def x_l1 (st : List Value) (f : Int64 → List Value → xO) : xO := match st with
  | .long x :: r => f x r
  | _ => none
def x_l2 (st : List Value) (f : Int64 → Int64 → List Value → xO) : xO := match st with
  | .long y :: .long x :: r => f x y r
  | _ => none
def x_li (st : List Value) (f : Int64 → Int32 → List Value → xO) : xO := match st with
  | .int y :: .long x :: r => f x y r
  | _ => none
def x_a1 (st : List Value) (f : Nat → List Value → xO) : xO := match st with
  | .ref a :: r => f a r
  | _ => none
def x_ai (st : List Value) (f : Nat → Int32 → List Value → xO) : xO := match st with
  | .int i :: .ref a :: r => f a i r
  | _ => none
def x_aii (st : List Value) (f : Nat → Int32 → Int32 → List Value → xO) : xO := match st with
  | .int x :: .int i :: .ref a :: r => f a i x r
  | _ => none
def x_ail (st : List Value) (f : Nat → Int32 → Int64 → List Value → xO) : xO := match st with
  | .long x :: .int i :: .ref a :: r => f a i x r
  | _ => none
def x_aiq (st : List Value) (f : Nat → Int32 → Nat → List Value → xO) : xO := match st with
  | .ref x :: .int i :: .ref a :: r => f a i x r
  | _ => none
def x_av (st : List Value) (f : Nat → Value → List Value → xO) : xO := match st with
  | v :: .ref a :: r => f a v r
  | _ => none
def x_v1 (st : List Value) (f : Value → List Value → xO) : xO := match st with
  | v :: r => f v r
  | _ => none
def x_v2 (st : List Value) (f : Value → Value → List Value → xO) : xO := match st with
  | v :: w :: r => f v w r
  | _ => none
def x_cp (st : List Value) (f : Nat → Int32 → Nat → Int32 → Int32 → List Value → xO) : xO := match st with
  | .int n :: .int dp :: .ref a :: .int sp :: .ref a0 :: r => f a0 sp a dp n r
  | _ => none
/-- where a branch goes -/
def x_br (pc : Nat) (off : Int) (f : Nat → xO) : xO := match (pc : Int) + off with
  | .ofNat t => f t
  | .negSucc _ => none
def x_ob (h : xH) (a : Nat) (f : Nat → List Value → xO) : xO := match h[a]? with
  | some (.inr (c, fs)) => f c fs
  | _ => none
def x_ari (t : Nat) (h : xH) (a : Nat) (f : Nat → (Nat → Int32) → xO) : xO := match h[a]? with
  | some (.inl (t', n, .inl g)) => bif Nat.beq t' t then f n g else none
  | _ => none
def x_arl (h : xH) (a : Nat) (f : Nat → (Nat → Int64) → xO) : xO := match h[a]? with
  | some (.inl (t', n, .inr (.inl g))) => bif Nat.beq t' 1 then f n g else none
  | _ => none
def x_arq (h : xH) (a : Nat) (f : Nat → Nat → (Nat → Option Nat) → xO) : xO := match h[a]? with
  | some (.inl (t', n, .inr (.inr (.inr (.inr g))))) => f t' n g
  | _ => none
def x_ar (h : xH) (a : Nat) (f : Nat → xO) : xO := match h[a]? with
  | some (.inl (_, n, _)) => f n
  | _ => none
def x_in (i : Int32) (n : Nat) (o : xO) : xO := if i < 0 ∨ n ≤ i.toNatClampNeg then none else o
/-- the class of an object's fields' types, its table, its number of fields -/
def x_cls (ci : Nat) : Option vw_C := (vwCl : List vw_C)[ci]?
def x_fty : Nat → Nat → FieldType := fun ci => match ci with
  | 0 => tyX0
  | 1 => tyX1
  | 2 => tyX2
  | 3 => tyX3
  | 4 => tyX4
  | 5 => tyX5
  | 6 => tyX6
  | 7 => tyX7
  | 8 => tyX8
  | 9 => tyX9
  | 10 => tyX10
  | 11 => tyX11
  | _ => tyX12
def x_fit : FieldType → Value → Bool
  | .int, .int _ => true
  | .long, .long _ => true
  | .boolean, .int x => x == 0 || x == 1
  | .object _, .ref _ => true
  | .array _, .ref _ => true
  | _, _ => false
def x_ret (ret : Option FieldType) (ins : Instr) (st : List Value) : Option (Option Value) := match ins with
  | .ireturn => match ret, st with
    | some .int, [.int v] => some (some (.int v))
    | some .boolean, [.int v] => bif v == 0 || v == 1 then some (some (.int v)) else none
    | _, _ => none
  | .lreturn => match ret, st with
    | some .long, [.long v] => some (some (.long v))
    | _, _ => none
  | .areturn => match ret, st with
    | some (.object _), [.ref v] => some (some (.ref v))
    | _, _ => none
  | .return_ => match ret, st with
    | none, [] => some none
    | _, _ => none
  | _ => none
def x_cond (op : ClassFile.Cond) (x y : Int32) (a b : xO) : xO := match op with
  | .eq => if x = y then a else b
  | .ne => if ¬ x = y then a else b
  | .lt => if x < y then a else b
  | .ge => if y ≤ x then a else b
  | .gt => if y < x then a else b
  | .le => if x ≤ y then a else b
/-- constants, locals, arithmetic, stack, branches -/
def x_ins1 (ins : Instr) (pc a : Nat) (l : xL) (st : List Value) (h : xH) (k z : Nat) : xO := match ins with
  | .iconst n => x_go (pc + 1) l (.int (Int32.ofInt n) :: st) h k z
  | .bipush n => x_go (pc + 2) l (.int (Int8.ofInt n).toInt32 :: st) h k z
  | .sipush n => x_go (pc + 3) l (.int (Int16.ofInt n).toInt32 :: st) h k z
  | .lconst n => x_go (pc + 1) l (.long (Int64.ofNat (n : Nat)) :: st) h k z
  | .ldc _ => bif Nat.ble 4294967296 a then x_go (pc + 2) l (.ref (x_str + (a - 4294967296)) :: st) h k z else x_go (pc + 2) l (.int (Int32.ofNat a) :: st) h k z
  | .ldc_w _ => x_go (pc + 3) l (.int (Int32.ofNat a) :: st) h k z
  | .ldc2_w _ => x_go (pc + 3) l (.long (Int64.ofNat a) :: st) h k z
  | .iload_n n => match x_ld l n with
    | some (.int x) => x_go (pc + 1) l (.int x :: st) h k z
    | _ => none
  | .iload n => match x_ld l n with
    | some (.int x) => x_go (pc + 2) l (.int x :: st) h k z
    | _ => none
  | .lload_n n => match x_ld l n with
    | some (.long x) => x_go (pc + 1) l (.long x :: st) h k z
    | _ => none
  | .lload n => match x_ld l n with
    | some (.long x) => x_go (pc + 2) l (.long x :: st) h k z
    | _ => none
  | .aload_n n => match x_ld l n with
    | some (.ref x) => x_go (pc + 1) l (.ref x :: st) h k z
    | _ => none
  | .aload n => match x_ld l n with
    | some (.ref x) => x_go (pc + 2) l (.ref x :: st) h k z
    | _ => none
  | .istore_n n => x_i1 st fun x r => x_go (pc + 1) (x_st1 l n (.int x)) r h k z
  | .istore n => x_i1 st fun x r => x_go (pc + 2) (x_st1 l n (.int x)) r h k z
  | .lstore_n n => x_l1 st fun x r => x_go (pc + 1) (x_st2 l n (.long x)) r h k z
  | .lstore n => x_l1 st fun x r => x_go (pc + 2) (x_st2 l n (.long x)) r h k z
  | .astore_n n => x_a1 st fun x r => x_go (pc + 1) (x_st1 l n (.ref x)) r h k z
  | .astore n => x_a1 st fun x r => x_go (pc + 2) (x_st1 l n (.ref x)) r h k z
  | .iinc i n => match x_ld l i with
    | some (.int x) => x_go (pc + 3) (x_st1 l i (.int (x + Int32.ofInt n))) st h k z
    | _ => none
  | .iadd => x_i2 st fun x y r => x_go (pc + 1) l (.int (x + y) :: r) h k z
  | .isub => x_i2 st fun x y r => x_go (pc + 1) l (.int (x - y) :: r) h k z
  | .imul => x_i2 st fun x y r => x_go (pc + 1) l (.int (x * y) :: r) h k z
  | .iand => x_i2 st fun x y r => x_go (pc + 1) l (.int (x &&& y) :: r) h k z
  | .ior => x_i2 st fun x y r => x_go (pc + 1) l (.int (x ||| y) :: r) h k z
  | .ixor => x_i2 st fun x y r => x_go (pc + 1) l (.int (x ^^^ y) :: r) h k z
  | .idiv => x_i2 st fun x y r => if y = 0 then none else x_go (pc + 1) l (.int (x / y) :: r) h k z
  | .irem => x_i2 st fun x y r => if y = 0 then none else x_go (pc + 1) l (.int (x - x / y * y) :: r) h k z
  | .ishl => x_i2 st fun x y r => x_go (pc + 1) l (.int (x <<< (y &&& 31)) :: r) h k z
  | .ishr => x_i2 st fun x y r => x_go (pc + 1) l (.int (x >>> (y &&& 31)) :: r) h k z
  | .iushr => x_i2 st fun x y r => x_go (pc + 1) l (.int (x.toUInt32 >>> (y.toUInt32 &&& Int32.toUInt32 31)).toInt32 :: r) h k z
  | .ladd => x_l2 st fun x y r => x_go (pc + 1) l (.long (x + y) :: r) h k z
  | .lmul => x_l2 st fun x y r => x_go (pc + 1) l (.long (x * y) :: r) h k z
  | .land => x_l2 st fun x y r => x_go (pc + 1) l (.long (x &&& y) :: r) h k z
  | .lor => x_l2 st fun x y r => x_go (pc + 1) l (.long (x ||| y) :: r) h k z
  | .ldiv => x_l2 st fun x y r => if y = 0 then none else x_go (pc + 1) l (.long (x / y) :: r) h k z
  | .lrem => x_l2 st fun x y r => if y = 0 then none else x_go (pc + 1) l (.long (x - x / y * y) :: r) h k z
  | .lshl => x_li st fun x y r => x_go (pc + 1) l (.long (x <<< (y.toInt64 &&& 63)) :: r) h k z
  | .lshr => x_li st fun x y r => x_go (pc + 1) l (.long (x >>> (y.toInt64 &&& 63)) :: r) h k z
  | .lcmp => x_l2 st fun x y r => x_go (pc + 1) l (.int (lg_cmp x y) :: r) h k z
  | .i2l => x_i1 st fun x r => x_go (pc + 1) l (.long x.toInt64 :: r) h k z
  | .l2i => x_l1 st fun x r => x_go (pc + 1) l (.int x.toInt32 :: r) h k z
  | .i2b => x_i1 st fun x r => x_go (pc + 1) l (.int x.toInt8.toInt32 :: r) h k z
  | .i2s => x_i1 st fun x r => x_go (pc + 1) l (.int x.toInt16.toInt32 :: r) h k z
  | .dup => x_v1 st fun v r => bif Nat.beq v.category 1 then x_go (pc + 1) l (v :: v :: r) h k z else none
  | .dup2 => x_v2 st fun v w r => bif Nat.beq v.category 1 && Nat.beq w.category 1 then x_go (pc + 1) l (v :: w :: v :: w :: r) h k z else none
  | .pop => x_v1 st fun v r => bif Nat.beq v.category 1 then x_go (pc + 1) l r h k z else none
  | .pop2 => x_v1 st fun v r => bif Nat.beq v.category 2 then x_go (pc + 1) l r h k z else none
  | .ifCond op off => x_i1 st fun x r => x_br pc off fun t => x_cond op x 0 (x_go t l r h k z) (x_go (pc + 3) l r h k z)
  | .if_icmp op off => x_i2 st fun x y r => x_br pc off fun t => x_cond op x y (x_go t l r h k z) (x_go (pc + 3) l r h k z)
  | .goto off => x_br pc off fun t => x_go t l st h k z
  | .tableswitch d lo hi offs => x_i1 st fun x r => if x.toInt < lo ∨ hi < x.toInt then x_br pc d fun t => x_go t l r h k z else match offs[(x.toInt - lo).toNat]? with
    | some off => x_br pc off fun t => x_go t l r h k z
    | none => none
  | .lookupswitch d ps => x_i1 st fun x r => if (ps.toList.zip (ps.toList.drop 1)).all (fun q => decide (q.1.1 < q.2.1)) = true then x_br pc (Op.lookupswitch.offset ps.toList d x.toInt) fun t => x_go t l r h k z else none
  | _ => none
/-- fields, arrays, new -/
def x_ins2 (S : Option xS) (ins : Instr) (pc a b : Nat) (l : xL) (st : List Value) (h : xH) (k z : Nat) : xO := match ins with
  | .getfield _ => x_a1 st fun q r => x_ob h q fun c fs => bif Nat.beq c a then (match fs[b]? with
    | some v => x_go (pc + 3) l (v :: r) h k z
    | none => none) else none
  | .putfield _ => x_av st fun q v r => x_ob h q fun c fs => bif Nat.beq c a && (x_fit (x_fty a b) v && Nat.blt b fs.length) then x_go (pc + 3) l r (h.set q (.inr (c, fs.set b v))) k z else none
  | .iaload => x_ai st fun q i r => bif Nat.beq q x_scr then (match S with
    | some (n, f) => x_in i n (x_go (pc + 1) l (.int (f i.toNatClampNeg) :: r) h k z)
    | none => none) else x_ari 0 h q fun n f => x_in i n (x_go (pc + 1) l (.int (f i.toNatClampNeg) :: r) h k z)
  | .iastore => x_aii st fun q i x r => x_ari 0 h q fun n f => x_in i n (x_go (pc + 1) l r (h.set q (.inl (0, n, .inl (upd f i.toNatClampNeg x)))) k z)
  | .baload => x_ai st fun q i r => match h[q]? with
    | some (.inl (2, n, .inl f)) => x_in i n (x_go (pc + 1) l (.int (f i.toNatClampNeg) :: r) h k z)
    | some (.inl (3, n, .inl f)) => x_in i n (x_go (pc + 1) l (.int (f i.toNatClampNeg) :: r) h k z)
    | _ => none
  | .bastore => x_aii st fun q i x r => match h[q]? with
    | some (.inl (2, n, .inl f)) => x_in i n (x_go (pc + 1) l r (h.set q (.inl (2, n, .inl (upd f i.toNatClampNeg (vp_nar .byte x))))) k z)
    | some (.inl (3, n, .inl f)) => x_in i n (x_go (pc + 1) l r (h.set q (.inl (3, n, .inl (upd f i.toNatClampNeg (vp_nar .boolean x))))) k z)
    | _ => none
  | .laload => x_ai st fun q i r => x_arl h q fun n f => x_in i n (x_go (pc + 1) l (.long (f i.toNatClampNeg) :: r) h k z)
  | .lastore => x_ail st fun q i x r => x_arl h q fun n f => x_in i n (x_go (pc + 1) l r (h.set q (.inl (1, n, .inr (.inl (vp_updL f i.toNatClampNeg x))))) k z)
  | .aaload => x_ai st fun q i r => x_arq h q fun t n f => bif Nat.ble 4 t then x_in i n (x_go (pc + 1) l (va_rf (f i.toNatClampNeg) :: r) h k z) else none
  | .aastore => x_aiq st fun q i x r => x_arq h q fun t n f => x_ob h x fun c _ => bif Nat.beq t (4 + c) then x_in i n (x_go (pc + 1) l r (h.set q (.inl (t, n, .inr (.inr (.inr (.inr (va_up f i.toNatClampNeg (some x)))))))) k z) else none
  | .arraylength => x_a1 st fun q r => bif Nat.beq q x_scr then (match S with
    | some (n, _) => x_go (pc + 1) l (.int (Int32.ofNat n) :: r) h k z
    | none => none) else x_ar h q fun n => x_go (pc + 1) l (.int (Int32.ofNat n) :: r) h k z
  | .newarray t => x_i1 st fun n r => if n < 0 ∨ 60000000 < n.toNatClampNeg ∨ x_scr ≤ h.length then none else match t with
    | .int => x_go (pc + 2) l (.ref h.length :: r) (h ++ [.inl (0, n.toNatClampNeg, .inl (fun _ => 0))]) (k + 1) (z + n.toNatClampNeg)
    | .long => x_go (pc + 2) l (.ref h.length :: r) (h ++ [.inl (1, n.toNatClampNeg, .inr (.inl (fun _ => 0)))]) (k + 1) (z + n.toNatClampNeg)
    | .byte => x_go (pc + 2) l (.ref h.length :: r) (h ++ [.inl (2, n.toNatClampNeg, .inl (fun _ => 0))]) (k + 1) (z + n.toNatClampNeg)
    | .boolean => x_go (pc + 2) l (.ref h.length :: r) (h ++ [.inl (3, n.toNatClampNeg, .inl (fun _ => 0))]) (k + 1) (z + n.toNatClampNeg)
    | _ => none
  | .anewarray _ => x_i1 st fun n r => if n < 0 ∨ 60000000 < n.toNatClampNeg ∨ x_scr ≤ h.length then none else x_go (pc + 3) l (.ref h.length :: r) (h ++ [.inl (4 + a, n.toNatClampNeg, .inr (.inr (.inr (.inr (fun _ => none)))))]) (k + 1) (z + n.toNatClampNeg)
  | .new _ => if x_scr ≤ h.length then none else x_go (pc + 3) l (.ref h.length :: st) (h ++ [.inr (a, (List.range b).map (fun j => defaultValue (x_fty a j)))]) (k + 1) (z + b)
  | _ => none
/-- a call with its arguments, the receiver (if any) ahead of them -/
def x_cal (static : Bool) (a n : Nat) (st : List Value) : xO := bif static then (bif Nat.ble n st.length && Nat.ble (x_cat (st.drop n)) 8 then some (.inr (.inl (a, (st.take n).reverse, st.drop n))) else none) else match st.drop n with
  | .ref q :: r => bif Nat.ble (x_cat r) 8 then some (.inr (.inl (a, .ref q :: (st.take n).reverse, r))) else none
  | _ => none
/-- calls -/
def x_ins3 (ins : Instr) (pc a b : Nat) (l : xL) (st : List Value) (h : xH) (k z : Nat) : xO := match ins with
  | .invokespecial _ => bif Nat.beq a 9000 then x_a1 st fun _ r => (bif Nat.ble (x_cat r) 8 then x_go (pc + 3) l r h k z else none) else x_cal false a b st
  | .invokevirtual _ => bif Nat.beq a 9006 then x_a1 st fun q r => (bif Nat.ble (x_cat r) 8 && Nat.ble x_str q then (match x_sbyt[q - x_str]? with
      | some bs => x_go (pc + 3) l (.int (Int32.ofNat bs.length) :: r) h k z
      | none => none) else none)
    else bif Nat.beq a 9007 then x_ai st fun q i r => (bif Nat.ble (x_cat r) 8 && Nat.ble x_str q then (match x_sbyt[q - x_str]? with
      | some bs => x_in i bs.length (x_go (pc + 3) l (.int (bs.getD i.toNatClampNeg 0) :: r) h k z)
      | none => none) else none)
    else x_cal false a b st
  | .invokestatic _ => bif Nat.beq a 9001 then x_i2 st fun x y r => (bif Nat.ble (x_cat r) 8 then x_go (pc + 3) l (.int (if x < y then y else x) :: r) h k z else none)
    else bif Nat.beq a 9002 then x_i2 st fun x y r => (bif Nat.ble (x_cat r) 8 then x_go (pc + 3) l (.int (if y < x then y else x) :: r) h k z else none)
    else bif Nat.beq a 9003 then x_i1 st fun x r => (bif Nat.ble (x_cat r) 8 then x_go (pc + 3) l (.int (if 0 ≤ x then x else 0 - x) :: r) h k z else none)
    else bif Nat.beq a 9004 then x_cp st fun a0 sp a1 dp n r => (bif Nat.ble (x_cat r) 8 then x_ari 0 h a0 fun n0 f => x_ari 0 h a1 fun n1 g => if sp < 0 ∨ dp < 0 ∨ n < 0 ∨ n0 < sp.toNatClampNeg + n.toNatClampNeg ∨ n1 < dp.toNatClampNeg + n.toNatClampNeg then none else x_go (pc + 3) l r (h.set a1 (.inl (0, n1, .inl (va_cpy f g sp.toNatClampNeg dp.toNatClampNeg n.toNatClampNeg)))) k z else none)
    else bif Nat.beq a 9005 then x_cp st fun a0 sp a1 dp n r => (bif Nat.ble (x_cat r) 8 then x_arl h a0 fun n0 f => x_arl h a1 fun n1 g => if sp < 0 ∨ dp < 0 ∨ n < 0 ∨ n0 < sp.toNatClampNeg + n.toNatClampNeg ∨ n1 < dp.toNatClampNeg + n.toNatClampNeg then none else x_go (pc + 3) l r (h.set a1 (.inl (1, n1, .inr (.inl (va_cpy f g sp.toNatClampNeg dp.toNatClampNeg n.toNatClampNeg))))) k z else none)
    else x_cal true a b st
  | _ => none
/-- of which group an instruction is -/
def x_grp : Instr → Nat
  | .getfield _ | .putfield _ | .iaload | .iastore | .baload | .bastore | .laload | .lastore | .aaload | .aastore | .arraylength | .newarray _ | .anewarray _ | .new _ => 2
  | .invokespecial _ | .invokevirtual _ | .invokestatic _ => 3
  | .ireturn | .lreturn | .areturn | .return_ => 4
  | _ => 1
def x_step (M : xM) (S : Option xS) (c : xC) : xO := match x_row M.2.2.2.2.2.2.2 c.1 with
  | none => none
  | some r => match x_grp r.2.1 with
    | 1 => x_ins1 r.2.1 c.1 r.2.2.2.1 c.2.1 c.2.2.1 c.2.2.2.1 c.2.2.2.2.1 c.2.2.2.2.2
    | 2 => x_ins2 S r.2.1 c.1 r.2.2.2.1 r.2.2.2.2.1 c.2.1 c.2.2.1 c.2.2.2.1 c.2.2.2.2.1 c.2.2.2.2.2
    | 3 => x_ins3 r.2.1 c.1 r.2.2.2.1 r.2.2.2.2.1 c.2.1 c.2.2.1 c.2.2.2.1 c.2.2.2.2.1 c.2.2.2.2.2
    | _ => match x_ret M.2.2.2.2.1 r.2.1 c.2.2.1 with
      | some v => some (.inr (.inr v))
      | none => none
/-- the receiver is an object of the method's own class -/
def x_rcv (M : xM) (vs : List Value) (h : xH) : Bool := M.2.2.2.2.2.1 || (match vs with
  | .ref q :: _ => (match h[q]? with
    | some (.inr (c, _)) => Nat.beq c M.2.2.2.2.2.2.1
    | _ => false)
  | _ => false)
/-- n steps at most, calls at most d deep below this one -/
def x_run (mt : List xM) (S : Option xS) : Nat → Nat → xM → xC → Option (Option Value × xH × Nat × Nat)
  | 0, _, _, _ => none
  | n + 1, d, M, c => match x_step M S c with
    | none => none
    | some (.inl c') => x_run mt S n d M c'
    | some (.inr (.inr v)) => some (v, c.2.2.2.1, c.2.2.2.2.1, c.2.2.2.2.2)
    | some (.inr (.inl q)) => match d, mt[q.1]? with
      | d' + 1, some M' => bif Nat.ble (x_cat q.2.1) M'.2.2.2.1 && x_rcv M' q.2.1 c.2.2.2.1 then (match x_run mt none n d' M' (0, lv_args 0 q.2.1, [], c.2.2.2.1, 0, 0) with
        | some r => x_run mt S n (d' + 1) M (c.1 + 3, c.2.1, r.1.toList ++ q.2.2, r.2.1, c.2.2.2.2.1 + r.2.2.1, c.2.2.2.2.2 + r.2.2.2)
        | none => none) else none
      | _, _ => none
/-! ===== the small heap beside the machine's ===== -/
abbrev x_own (M : xM) : String := M.1
abbrev x_nm (M : xM) : MethodName := M.2.1
abbrev x_cc (M : xM) : ByteArray := M.2.2.1
abbrev x_ml (M : xM) : Nat := M.2.2.2.1
abbrev x_rt (M : xM) : Option FieldType := M.2.2.2.2.1
abbrev x_sta (M : xM) : Bool := M.2.2.2.2.2.1
abbrev x_rws (M : xM) : List (Nat × List xR) := M.2.2.2.2.2.2.2
def x_bw : List Cond := lw_tbl.filter goodWord
theorem x_bw_in {w : Cond} (h : w ∈ lw_tbl) (g : goodWord w = true) : w ∈ x_bw := List.mem_filter.mpr ⟨h, g⟩
theorem x_bw_tbl {w : Cond} (h : w ∈ x_bw) : w ∈ lw_tbl := (List.mem_filter.mp h).1
theorem x_bw_good : ∀ w ∈ x_bw, goodWord w = true := fun _ h => (List.mem_filter.mp h).2
def x_cv (ad : Nat → Nat) : Value → Value
  | .ref k => .ref (ad k)
  | v => v
theorem x_cv_cat (ad : Nat → Nat) (v : Value) : (x_cv ad v).category = v.category := by cases v <;> rfl
theorem x_cv_rf (ad : Nat → Nat) (r : Option Nat) : x_cv ad (va_rf r) = va_rf (r.map ad) := by cases r <;> rfl
def x_ce (ad : Nat → Nat) (cA : ClassId) : xE → va_E
  | .inl (_, n, .inr (.inr (.inr (.inr f)))) => .inl (cA, n, .inr (.inr (.inr (.inr (fun j => (f j).map ad)))))
  | .inl (_, x) => .inl (cA, x)
  | .inr (ci, fs) => .inr (ci, fs.map (x_cv ad))
def x_cw (ad : Nat → Nat) (cs : Nat → ClassId) (h : xH) : va_W := h.mapIdx (fun k e => (ad k, x_ce ad (cs k) e))
theorem x_cw_get {ad : Nat → Nat} {cs : Nat → ClassId} {h : xH} {k : Nat} {e : xE} (hk : h[k]? = some e) : (x_cw ad cs h)[k]? = some (ad k, x_ce ad (cs k) e) := by
  unfold x_cw
  rw [List.getElem?_mapIdx, hk]
  rfl
theorem x_cw_of {ad : Nat → Nat} {cs : Nat → ClassId} {h : xH} {k : Nat} {q : Nat × va_E} (hk : (x_cw ad cs h)[k]? = some q) : ∃ e, h[k]? = some e ∧ q = (ad k, x_ce ad (cs k) e) := by
  unfold x_cw at hk
  rw [List.getElem?_mapIdx] at hk
  cases e : h[k]? with
  | none => rw [e] at hk; cases hk
  | some y => rw [e] at hk; exact ⟨y, rfl, (Option.some.inj hk).symm⟩
/-- the type of an array's entries by its tag -/
def x_ft : Nat → FieldType
  | 0 => .int
  | 1 => .long
  | 2 => .byte
  | 3 => .boolean
  | t + 4 => .object (match x_cls t with
    | some q => q.1
    | none => "")
def x_tg : xE → Option Nat
  | .inl (t, _) => some t
  | .inr _ => none
def x_W (ad : Nat → Nat) (base : Nat) (D : va_G) (h : xH) (U : State) (H : Heap) : Prop := (∀ k, k < x_scr → ad k = base + k) ∧ h.length ≤ x_scr ∧ H.size = base + h.length ∧ ∃ cs : Nat → ClassId, va_P D vwCl (x_cw ad cs h) H ∧ (∀ (k : Nat) (e : xE) (t : Nat), h[k]? = some e → x_tg e = some t → ArrOfT U (cs k) (x_ft t) ∧ va_RA U (cs k) (x_ft t)) ∧ ∀ C ∈ x_ao, va_AO C U
theorem x_W.moved {ad : Nat → Nat} {base : Nat} {D : va_G} {h : xH} {u U : State} {H : Heap} (hvm : u.vm.Alike U.vm) (w : x_W ad base D h u H) : x_W ad base D h U H := by
  obtain ⟨h1, h2, h3, cs, h4, h5, h6⟩ := w
  exact ⟨h1, h2, h3, cs, h4, fun k e t a b => ⟨arrOfT_moved hvm (h5 k e t a b).1, (h5 k e t a b).2.moved hvm⟩, fun C hC => va_AO.moved hvm (h6 C hC)⟩
theorem x_W.at {ad : Nat → Nat} {base : Nat} {D : va_G} {h : xH} {U : State} {H : Heap} (w : x_W ad base D h U H) {k : Nat} {e : xE} (hk : h[k]? = some e) : k < x_scr ∧ ad k = base + k ∧ k < h.length := by
  have hl := (List.getElem?_eq_some_iff.mp hk).1
  have := w.2.1
  exact ⟨by omega, w.1 k (by omega), hl⟩
theorem x_W.D {ad : Nat → Nat} {base : Nat} {D : va_G} {h : xH} {U : State} {H : Heap} (w : x_W ad base D h U H) (cs : Nat → ClassId) : va_D (fun q => base ≤ q) (x_cw ad cs h) := by
  refine ⟨fun i j p q hi hj e => ?_, fun k q hk => ?_⟩
  · obtain ⟨a, a1, rfl⟩ := x_cw_of hi
    obtain ⟨b, b1, rfl⟩ := x_cw_of hj
    have h1 := (w.at a1).2.1
    have h2 := (w.at b1).2.1
    have : ad i = ad j := e
    omega
  · obtain ⟨a, a1, rfl⟩ := x_cw_of hk
    have h1 := (w.at a1).2.1
    show base ≤ ad k
    omega
theorem x_W.set {ad : Nat → Nat} {base : Nat} {D : va_G} {h : xH} {U : State} {H H1 : Heap} {k : Nat} {e0 e : xE} (w : x_W ad base D h U H) (hk : h[k]? = some e0) (ht : x_tg e = x_tg e0)
    (hz : H1.size = H.size) (ho : ∀ q, q ≠ ad k → H1[q]? = H[q]?) (he : ∀ cA : ClassId, va_at D vwCl (ad k, x_ce ad cA e0) H → va_at D vwCl (ad k, x_ce ad cA e) H1) : x_W ad base D (h.set k e) U H1 := by
  obtain ⟨h1, h2, h3, cs, h4, h5, h6⟩ := id w
  have hl := (w.at hk).2.2
  refine ⟨h1, by rw [List.length_set]; exact h2, by rw [hz, List.length_set]; exact h3, cs, fun j q hj => ?_, fun j y t hj hy => ?_, h6⟩
  · obtain ⟨y, y1, rfl⟩ := x_cw_of hj
    by_cases hjk : j = k
    · subst hjk
      rw [List.getElem?_set_self hl] at y1
      cases y1
      exact he _ (h4 j _ (x_cw_get hk))
    · rw [List.getElem?_set_ne (Ne.symm hjk)] at y1
      refine (h4 j _ (x_cw_get y1)).kept (ho _ ?_)
      show ad j ≠ ad k
      have a1 := (w.at y1).2.1
      have a2 := (w.at hk).2.1
      omega
  · by_cases hjk : j = k
    · subst hjk
      rw [List.getElem?_set_self hl] at hj
      cases hj
      exact h5 j e0 t hk (ht ▸ hy)
    · rw [List.getElem?_set_ne (Ne.symm hjk)] at hj
      exact h5 j y t hj hy
theorem x_W.push {ad : Nat → Nat} {base : Nat} {D : va_G} {h : xH} {U : State} {H H1 : Heap} {e : xE} {cA : ClassId} (w : x_W ad base D h U H) (hl : ¬ x_scr ≤ h.length)
    (hz : H1.size = H.size + 1) (ho : ∀ q, q < H.size → H1[q]? = H[q]?) (he : va_at D vwCl (H.size, x_ce ad cA e) H1) (ht : ∀ t, x_tg e = some t → ArrOfT U cA (x_ft t) ∧ va_RA U cA (x_ft t)) : x_W ad base D (h ++ [e]) U H1 ∧ ad h.length = H.size := by
  obtain ⟨h1, h2, h3, cs, h4, h5, h6⟩ := id w
  have hadd : ad h.length = H.size := by rw [h1 _ (by omega), h3]
  have old : ∀ (j : Nat) (y : xE), (h ++ [e])[j]? = some y → (j < h.length ∧ h[j]? = some y) ∨ (j = h.length ∧ y = e) := by
    intro j y hj
    by_cases hjl : j < h.length
    · rw [List.getElem?_append_left hjl] at hj
      exact Or.inl ⟨hjl, hj⟩
    · rw [List.getElem?_append_right (by omega)] at hj
      have hz : j - h.length < 1 := (List.getElem?_eq_some_iff.mp hj).1
      have hj0 : j = h.length := by omega
      subst hj0
      rw [Nat.sub_self] at hj
      cases hj
      exact Or.inr ⟨rfl, rfl⟩
  refine ⟨⟨h1, by rw [List.length_append]; show h.length + 1 ≤ _; omega, by rw [hz, List.length_append, h3]; rfl, fun j => if j = h.length then cA else cs j, fun j q hj => ?_, fun j y t hj hy => ?_, h6⟩, hadd⟩
  · obtain ⟨y, y1, rfl⟩ := x_cw_of hj
    rcases old j y y1 with ⟨a, b⟩ | ⟨a, b⟩
    · rw [if_neg (Nat.ne_of_lt a)]
      have := h4 j _ (x_cw_get b)
      exact this.kept (ho _ this.lt)
    · subst a; subst b
      rw [if_pos rfl, hadd]
      exact he
  · rcases old j y hj with ⟨a, b⟩ | ⟨a, b⟩
    · dsimp only
      rw [if_neg (Nat.ne_of_lt a)]
      exact h5 j y t b hy
    · subst a; subst b
      dsimp only
      rw [if_pos rfl]
      exact ht t hy
/-! locals -/
def x_cl (ad : Nat → Nat) (l : xL) : xL := l.map (fun q => (q.1, x_cv ad q.2))
theorem x_ld_mem {l : xL} {i : Nat} {v : Value} (h : x_ld l i = some v) : (i, v) ∈ l := by
  induction l with
  | nil => cases h
  | cons q r ih =>
    unfold x_ld at h
    cases hb : Nat.beq q.1 i with
    | true =>
      rw [hb] at h
      have h1 : q.1 = i := Nat.eq_of_beq_eq_true hb
      have h2 : q.2 = v := Option.some.inj h
      have : q = (i, v) := by rw [← h1, ← h2]
      rw [this]
      exact List.mem_cons_self
    | false =>
      rw [hb] at h
      exact List.mem_cons_of_mem _ (ih h)
theorem x_lv {ad : Nat → Nat} {ls : Array Slot} {n i : Nat} {l : xL} {v : Value} (hl : lv_has ls n (x_cl ad l)) (h : x_ld l i = some v) : ls[i]? = some (.val (x_cv ad v)) :=
  hl.2.2 (i, x_cv ad v) (List.mem_map.mpr ⟨(i, v), x_ld_mem h, rfl⟩)
theorem x_cl_st1 (ad : Nat → Nat) (l : xL) (i : Nat) (v : Value) : (i, x_cv ad v) :: (x_cl ad l).filter (fun q => !(q.1 == i) && !(q.1 + 1 == i && q.2.category == 2)) = x_cl ad (x_st1 l i v) := by
  unfold x_st1 x_cl
  rw [List.map_cons, List.filter_map]
  congr 3
  funext q
  simp [Function.comp, x_cv_cat]
theorem x_cl_st2 (ad : Nat → Nat) (l : xL) (i : Nat) (v : Value) : (i, x_cv ad v) :: (x_cl ad l).filter (fun q => !(q.1 == i) && (!(q.1 == i + 1) && !(q.1 + 1 == i && q.2.category == 2))) = x_cl ad (x_st2 l i v) := by
  unfold x_st2 x_cl
  rw [List.map_cons, List.filter_map]
  congr 3
  funext q
  simp [Function.comp, x_cv_cat]
theorem x_cl_args (ad : Nat → Nat) : ∀ (vs : List Value) (i : Nat), lv_args i (vs.map (x_cv ad)) = x_cl ad (lv_args i vs) := by
  intro vs
  induction vs with
  | nil => intro i; rfl
  | cons v vs ih =>
    intro i
    show (i, x_cv ad v) :: lv_args (if (x_cv ad v).category = 2 then i + 2 else i + 1) (vs.map (x_cv ad)) = x_cl ad ((i, v) :: lv_args (if v.category = 2 then i + 2 else i + 1) vs)
    rw [x_cv_cat, ih]
    rfl
theorem x_cat_map (ad : Nat → Nat) (vs : List Value) : ((vs.map (x_cv ad)).map fun v => v.category).sum = x_cat vs := by
  induction vs with
  | nil => rfl
  | cons v vs ih => simp only [List.map_cons, List.sum_cons, x_cat, x_cv_cat, ih]
theorem x_lg_len (vs : List Value) : (lg_sl vs).length = x_cat vs := by
  induction vs with
  | nil => rfl
  | cons v vs ih =>
    have e : lg_sl (v :: vs) = (if v.category = 2 then [Slot.val v, Slot.second] else [Slot.val v]) ++ lg_sl vs := by simp [lg_sl]
    rw [e, List.length_append, ih]
    show _ = v.category + x_cat vs
    rcases lv_cat v with h | h
    · rw [h, if_neg (by decide)]; rfl
    · rw [h, if_pos rfl]; rfl
/-! what the helpers say of the stack -/
theorem x_i1_of {st : List Value} {f : Int32 → List Value → xO} {X} (h : x_i1 st f = some X) : ∃ x r, st = .int x :: r ∧ f x r = some X := by
  unfold x_i1 at h
  split at h
  · exact ⟨_, _, rfl, h⟩
  · cases h
theorem x_i2_of {st : List Value} {f : Int32 → Int32 → List Value → xO} {X} (h : x_i2 st f = some X) : ∃ x y r, st = .int y :: .int x :: r ∧ f x y r = some X := by
  unfold x_i2 at h
  split at h
  · exact ⟨_, _, _, rfl, h⟩
  · cases h
theorem x_l1_of {st : List Value} {f : Int64 → List Value → xO} {X} (h : x_l1 st f = some X) : ∃ x r, st = .long x :: r ∧ f x r = some X := by
  unfold x_l1 at h
  split at h
  · exact ⟨_, _, rfl, h⟩
  · cases h
theorem x_l2_of {st : List Value} {f : Int64 → Int64 → List Value → xO} {X} (h : x_l2 st f = some X) : ∃ x y r, st = .long y :: .long x :: r ∧ f x y r = some X := by
  unfold x_l2 at h
  split at h
  · exact ⟨_, _, _, rfl, h⟩
  · cases h
theorem x_li_of {st : List Value} {f : Int64 → Int32 → List Value → xO} {X} (h : x_li st f = some X) : ∃ x y r, st = .int y :: .long x :: r ∧ f x y r = some X := by
  unfold x_li at h
  split at h
  · exact ⟨_, _, _, rfl, h⟩
  · cases h
theorem x_a1_of {st : List Value} {f : Nat → List Value → xO} {X} (h : x_a1 st f = some X) : ∃ x r, st = .ref x :: r ∧ f x r = some X := by
  unfold x_a1 at h
  split at h
  · exact ⟨_, _, rfl, h⟩
  · cases h
theorem x_ai_of {st : List Value} {f : Nat → Int32 → List Value → xO} {X} (h : x_ai st f = some X) : ∃ a i r, st = .int i :: .ref a :: r ∧ f a i r = some X := by
  unfold x_ai at h
  split at h
  · exact ⟨_, _, _, rfl, h⟩
  · cases h
theorem x_aii_of {st : List Value} {f : Nat → Int32 → Int32 → List Value → xO} {X} (h : x_aii st f = some X) : ∃ a i x r, st = .int x :: .int i :: .ref a :: r ∧ f a i x r = some X := by
  unfold x_aii at h
  split at h
  · exact ⟨_, _, _, _, rfl, h⟩
  · cases h
theorem x_ail_of {st : List Value} {f : Nat → Int32 → Int64 → List Value → xO} {X} (h : x_ail st f = some X) : ∃ a i x r, st = .long x :: .int i :: .ref a :: r ∧ f a i x r = some X := by
  unfold x_ail at h
  split at h
  · exact ⟨_, _, _, _, rfl, h⟩
  · cases h
theorem x_aiq_of {st : List Value} {f : Nat → Int32 → Nat → List Value → xO} {X} (h : x_aiq st f = some X) : ∃ a i x r, st = .ref x :: .int i :: .ref a :: r ∧ f a i x r = some X := by
  unfold x_aiq at h
  split at h
  · exact ⟨_, _, _, _, rfl, h⟩
  · cases h
theorem x_av_of {st : List Value} {f : Nat → Value → List Value → xO} {X} (h : x_av st f = some X) : ∃ a v r, st = v :: .ref a :: r ∧ f a v r = some X := by
  unfold x_av at h
  split at h
  · exact ⟨_, _, _, rfl, h⟩
  · cases h
theorem x_v1_of {st : List Value} {f : Value → List Value → xO} {X} (h : x_v1 st f = some X) : ∃ v r, st = v :: r ∧ f v r = some X := by
  unfold x_v1 at h
  split at h
  · exact ⟨_, _, rfl, h⟩
  · cases h
theorem x_v2_of {st : List Value} {f : Value → Value → List Value → xO} {X} (h : x_v2 st f = some X) : ∃ v w r, st = v :: w :: r ∧ f v w r = some X := by
  unfold x_v2 at h
  split at h
  · exact ⟨_, _, _, rfl, h⟩
  · cases h
theorem x_cp_of {st : List Value} {f : Nat → Int32 → Nat → Int32 → Int32 → List Value → xO} {X} (h : x_cp st f = some X) : ∃ a0 sp a dp n r, st = .int n :: .int dp :: .ref a :: .int sp :: .ref a0 :: r ∧ f a0 sp a dp n r = some X := by
  unfold x_cp at h
  split at h
  · exact ⟨_, _, _, _, _, _, rfl, h⟩
  · cases h
theorem x_br_of {pc : Nat} {off : Int} {f : Nat → xO} {X} (h : x_br pc off f = some X) : ∃ t : Nat, (pc : Int) + off = (t : Int) ∧ f t = some X := by
  unfold x_br at h
  split at h
  · rename_i t e
    exact ⟨t, e, h⟩
  · cases h
theorem x_ob_of {h : xH} {a : Nat} {f : Nat → List Value → xO} {X} (e : x_ob h a f = some X) : ∃ c fs, h[a]? = some (.inr (c, fs)) ∧ f c fs = some X := by
  unfold x_ob at e
  split at e
  · rename_i c fs q
    exact ⟨c, fs, q, e⟩
  · cases e
theorem x_ari_of {t : Nat} {h : xH} {a : Nat} {f : Nat → (Nat → Int32) → xO} {X} (e : x_ari t h a f = some X) : ∃ n g, h[a]? = some (.inl (t, n, .inl g)) ∧ f n g = some X := by
  unfold x_ari at e
  split at e
  · rename_i t' n g q
    cases hb : Nat.beq t' t with
    | true =>
      rw [hb] at e
      have := Nat.eq_of_beq_eq_true hb
      subst this
      exact ⟨n, g, q, e⟩
    | false => rw [hb] at e; cases e
  · cases e
theorem x_arl_of {h : xH} {a : Nat} {f : Nat → (Nat → Int64) → xO} {X} (e : x_arl h a f = some X) : ∃ n g, h[a]? = some (.inl (1, n, .inr (.inl g))) ∧ f n g = some X := by
  unfold x_arl at e
  split at e
  · rename_i t' n g q
    cases hb : Nat.beq t' 1 with
    | true =>
      rw [hb] at e
      have := Nat.eq_of_beq_eq_true hb
      subst this
      exact ⟨n, g, q, e⟩
    | false => rw [hb] at e; cases e
  · cases e
theorem x_arq_of {h : xH} {a : Nat} {f : Nat → Nat → (Nat → Option Nat) → xO} {X} (e : x_arq h a f = some X) : ∃ t n g, h[a]? = some (.inl (t, n, .inr (.inr (.inr (.inr g))))) ∧ f t n g = some X := by
  unfold x_arq at e
  split at e
  · rename_i t' n g q
    exact ⟨t', n, g, q, e⟩
  · cases e
theorem x_ar_of {h : xH} {a : Nat} {f : Nat → xO} {X} (e : x_ar h a f = some X) : ∃ t n y, h[a]? = some (.inl (t, n, y)) ∧ f n = some X := by
  unfold x_ar at e
  split at e
  · rename_i t' n g q
    exact ⟨t', n, g, q, e⟩
  · cases e
theorem x_in_of {i : Int32} {n : Nat} {o : xO} {X} (e : x_in i n o = some X) : vp_in i n ∧ o = some X := by
  unfold x_in at e
  split at e
  · cases e
  · rename_i q
    exact ⟨q, e⟩
theorem x_bif {b : Bool} {o : xO} {X} (e : (bif b then o else none) = some X) : b = true ∧ o = some X := by
  cases b with
  | true => exact ⟨rfl, e⟩
  | false => cases e
theorem x_row_mem : ∀ {rs : List (Nat × List xR)} {pc : Nat} {r : xR}, x_row rs pc = some r → (∃ q ∈ rs, r ∈ q.2) ∧ r.1 = pc := by
  have fnd : ∀ {rs : List xR} {pc : Nat} {r : xR}, x_find rs pc = some r → r ∈ rs ∧ r.1 = pc := by
    intro rs
    induction rs with
    | nil => intro pc r h; cases h
    | cons q rs ih =>
      intro pc r h
      unfold x_find at h
      cases hb : Nat.beq q.1 pc with
      | true =>
        rw [hb] at h
        have : q = r := Option.some.inj h
        subst this
        exact ⟨List.mem_cons_self, Nat.eq_of_beq_eq_true hb⟩
      | false =>
        rw [hb] at h
        exact ⟨List.mem_cons_of_mem _ (ih h).1, (ih h).2⟩
  intro rs
  induction rs with
  | nil => intro pc r h; cases h
  | cons q rs ih =>
    intro pc r h
    unfold x_row at h
    cases hb : Nat.ble pc q.1 with
    | true =>
      rw [hb] at h
      exact ⟨⟨q, List.mem_cons_self, (fnd h).1⟩, (fnd h).2⟩
    | false =>
      rw [hb] at h
      obtain ⟨⟨y, y1, y2⟩, y3⟩ := ih h
      exact ⟨⟨y, List.mem_cons_of_mem _ y1, y2⟩, y3⟩
/-! ===== soundness, instruction by instruction ===== -/
def x_lok (ins : Instr) (len : Nat) : Prop := match ins with
  | .tableswitch _ _ _ _ => True
  | .lookupswitch _ _ => True
  | .bipush _ => len = 2
  | .ldc _ => len = 2
  | .iload _ => len = 2
  | .lload _ => len = 2
  | .aload _ => len = 2
  | .istore _ => len = 2
  | .lstore _ => len = 2
  | .astore _ => len = 2
  | .newarray _ => len = 2
  | .sipush _ => len = 3
  | .ldc_w _ => len = 3
  | .ldc2_w _ => len = 3
  | .iinc _ _ => len = 3
  | .ifCond _ _ => len = 3
  | .if_icmp _ _ => len = 3
  | .goto _ => len = 3
  | .getfield _ => len = 3
  | .putfield _ => len = 3
  | .new _ => len = 3
  | .anewarray _ => len = 3
  | .invokespecial _ => len = 3
  | .invokevirtual _ => len = 3
  | .invokestatic _ => len = 3
  | _ => len = 1
def x_ok1 (own : String) (nL : Nat) (ins : Instr) (a : Nat) : Prop := match ins with
  | .ldc i => (4294967296 ≤ a ∧ ∃ tx, x_lit[a - 4294967296]? = some (own, i, tx)) ∨ (a < 4294967296 ∧ Cond.constant own i (Int32.ofNat a) ∈ x_bw)
  | .ldc_w i => Cond.constant own i (Int32.ofNat a) ∈ x_bw
  | .ldc2_w i => Cond.constantLong own i (Int64.ofNat a) ∈ x_bw
  | .istore_n n => (n : Nat) < nL
  | .istore n => n < nL
  | .astore_n n => (n : Nat) < nL
  | .astore n => n < nL
  | .lstore_n n => (n : Nat) + 1 < nL
  | .lstore n => n + 1 < nL
  | .iinc n _ => n < nL
  | _ => True
section XS
variable {p : Program} {l : Launch} {e : Env} {R : Room} {s : State} {m : MethodId} {args : Array Value} {below : List Frame} {meth : Method} {c : Code} {H : Heap} {locs : List Loc} {cells slots : Nat} {Q : State → Prop}
variable {cc : ByteArray} {pc : Nat} {ls : Array Slot} {own : String} {ad : Nat → Nat} {nL : Nat} {L : xL} {st : List Value} {h : xH} {k z : Nat} {ins : Instr} {len a b : Nat}
/-- what one plain step leaves to be shown -/
def x_Nx (p : Program) (l : Launch) (e : Env) (R : Room) (s : State) (m : MethodId) (args : Array Value) (below : List Frame) (meth : Method) (c : Code) (H : Heap) (locs : List Loc) (cells slots : Nat) (Q : State → Prop) (ls : Array Slot) (ad : Nat → Nat) (nL : Nat) (h : xH) (k z : Nat) (st : List Value) (pc : Nat) (o : xC ⊕ ((Nat × List Value × List Value) ⊕ Option Value)) : Prop :=
  ∃ (pc' : Nat) (L' : xL) (st' : List Value), o = .inl (pc', L', st', h, k, z) ∧ ((∀ ls' : Array Slot, lv_has ls' nL (x_cl ad L') → W p l e R s m args below meth c H locs cells slots Q (F0 m pc' ls' (st'.map (x_cv ad)))) → W p l e R s m args below meth c H locs cells slots Q (F0 m pc ls (st.map (x_cv ad))))
theorem x_go_of {pc' : Nat} {L' : xL} {st' : List Value} {o} (hi : x_go pc' L' st' h k z = some o) : o = .inl (pc', L', st', h, k, z) := (Option.some.inj hi).symm
set_option maxHeartbeats 4000000 in
theorem x_s1 (hx : p.tables.exec = Jvm.exec) (hb : c.code = cc) (hown : s.vm.findClass own = some m.cls) (hts : ∀ w ∈ x_bw, w.before args s = true) (hd : decode cc pc = .ok (ins, len)) (hlen : x_lok ins len) (hw : x_ok1 own nL ins a) (hV : ∀ (j : Nat) (own' : String) (k' : Nat) (tx : String), x_lit[j]? = some (own', k', tx) → vk_R own' k' tx (ad (x_str + j)) s) {o} (hi : x_ins1 ins pc a L st h k z = some o) (hl : lv_has ls nL (x_cl ad L)) : x_Nx p l e R s m args below meth c H locs cells slots Q ls ad nL h k z st pc o := by
  unfold x_ins1 at hi
  split at hi
  -- constants
  · cases hlen; exact ⟨_, _, _, x_go_of hi, fun k => lv_iconst hx hb hd rfl (k ls hl)⟩
  · cases hlen; exact ⟨_, _, _, x_go_of hi, fun k => lv_bipush hx hb hd rfl (k ls hl)⟩
  · cases hlen; exact ⟨_, _, _, x_go_of hi, fun k => lv_sipush hx hb hd rfl (k ls hl)⟩
  · cases hlen; exact ⟨_, _, _, x_go_of hi, fun k => lv_lconst hx hb hd rfl (k ls hl)⟩
  · cases hlen
    rcases hw with ⟨h1, tx, h2⟩ | ⟨h1, h2⟩
    · rw [show Nat.ble 4294967296 a = true from Nat.ble_eq_true_of_le h1] at hi
      exact ⟨_, _, _, x_go_of hi, fun k => va_ldcS hx hb hown (hV _ _ _ _ h2) hd (k ls hl)⟩
    · have hb0 : Nat.ble 4294967296 a = false := by
        cases hq : Nat.ble 4294967296 a with
        | false => rfl
        | true => exact absurd (Nat.le_of_ble_eq_true hq) (by omega)
      rw [hb0] at hi
      exact ⟨_, _, _, x_go_of hi, fun k => lv_ldc hx hb hown (hts _ h2) hd (k ls hl)⟩
  · cases hlen; exact ⟨_, _, _, x_go_of hi, fun k => lv_ldcw hx hb hown (hts _ hw) hd (k ls hl)⟩
  · cases hlen; exact ⟨_, _, _, x_go_of hi, fun k => lv_ldc2 hx hb hown (hts _ hw) hd (k ls hl)⟩
  -- loads
  · cases hlen; split at hi
    · rename_i q; exact ⟨_, _, _, x_go_of hi, fun k => lv_iload_n hx hb hd rfl (x_lv hl q) (k ls hl)⟩
    · cases hi
  · cases hlen; split at hi
    · rename_i q; exact ⟨_, _, _, x_go_of hi, fun k => lv_iload hx hb hd (x_lv hl q) (k ls hl)⟩
    · cases hi
  · cases hlen; split at hi
    · rename_i q; exact ⟨_, _, _, x_go_of hi, fun k => lv_lload_n hx hb hd rfl (x_lv hl q) (k ls hl)⟩
    · cases hi
  · cases hlen; split at hi
    · rename_i q; exact ⟨_, _, _, x_go_of hi, fun k => lv_lload hx hb hd (x_lv hl q) (k ls hl)⟩
    · cases hi
  · cases hlen; split at hi
    · rename_i q; exact ⟨_, _, _, x_go_of hi, fun k => lv_aload_n hx hb hd rfl (x_lv hl q) (k ls hl)⟩
    · cases hi
  · cases hlen; split at hi
    · rename_i q; exact ⟨_, _, _, x_go_of hi, fun k => lv_aload hx hb hd (x_lv hl q) (k ls hl)⟩
    · cases hi
  -- stores
  · cases hlen; obtain ⟨x, r, rfl, hj⟩ := x_i1_of hi; exact ⟨_, _, _, x_go_of hj, fun k => lv_istore_n hx hb hd rfl hl hw (x_cl_st1 ad L _ (.int x)) k⟩
  · cases hlen; obtain ⟨x, r, rfl, hj⟩ := x_i1_of hi; exact ⟨_, _, _, x_go_of hj, fun k => lv_istore hx hb hd hl hw (x_cl_st1 ad L _ (.int x)) k⟩
  · cases hlen; obtain ⟨x, r, rfl, hj⟩ := x_l1_of hi; exact ⟨_, _, _, x_go_of hj, fun k => lv_lstore_n hx hb hd rfl hl hw (x_cl_st2 ad L _ (.long x)) k⟩
  · cases hlen; obtain ⟨x, r, rfl, hj⟩ := x_l1_of hi; exact ⟨_, _, _, x_go_of hj, fun k => lv_lstore hx hb hd hl hw (x_cl_st2 ad L _ (.long x)) k⟩
  · cases hlen; obtain ⟨x, r, rfl, hj⟩ := x_a1_of hi; exact ⟨_, _, _, x_go_of hj, fun k => lv_astore_n hx hb hd rfl hl hw (x_cl_st1 ad L _ (.ref x)) k⟩
  · cases hlen; obtain ⟨x, r, rfl, hj⟩ := x_a1_of hi; exact ⟨_, _, _, x_go_of hj, fun k => lv_astore hx hb hd hl hw (x_cl_st1 ad L _ (.ref x)) k⟩
  · cases hlen; split at hi
    · rename_i i n _ x q
      obtain ⟨kk, hkk⟩ := List.getElem?_of_mem (x_ld_mem q)
      refine ⟨_, _, _, x_go_of hi, fun k => lv_iinc (k := kk) (x := x) (v := x + Int32.ofInt n) hx hb hd hl ?_ rfl hw (x_cl_st1 ad L _ (.int (x + Int32.ofInt n))) k⟩
      unfold x_cl
      rw [List.getElem?_map, hkk]
      rfl
    · cases hi
  -- arithmetic
  · cases hlen; obtain ⟨x, y, r, rfl, hj⟩ := x_i2_of hi; exact ⟨_, _, _, x_go_of hj, fun k => lv_iadd hx hb hd (k ls hl)⟩
  · cases hlen; obtain ⟨x, y, r, rfl, hj⟩ := x_i2_of hi; exact ⟨_, _, _, x_go_of hj, fun k => lv_isub hx hb hd (k ls hl)⟩
  · cases hlen; obtain ⟨x, y, r, rfl, hj⟩ := x_i2_of hi; exact ⟨_, _, _, x_go_of hj, fun k => lv_imul hx hb hd (k ls hl)⟩
  · cases hlen; obtain ⟨x, y, r, rfl, hj⟩ := x_i2_of hi; exact ⟨_, _, _, x_go_of hj, fun k => lv_iand hx hb hd (k ls hl)⟩
  · cases hlen; obtain ⟨x, y, r, rfl, hj⟩ := x_i2_of hi; exact ⟨_, _, _, x_go_of hj, fun k => lv_ior hx hb hd (k ls hl)⟩
  · cases hlen; obtain ⟨x, y, r, rfl, hj⟩ := x_i2_of hi; exact ⟨_, _, _, x_go_of hj, fun k => lv_ixor hx hb hd (k ls hl)⟩
  · cases hlen; obtain ⟨x, y, r, rfl, hj⟩ := x_i2_of hi; split at hj
    · cases hj
    · rename_i q; exact ⟨_, _, _, x_go_of hj, fun k => lv_idiv hx hb hd q (k ls hl)⟩
  · cases hlen; obtain ⟨x, y, r, rfl, hj⟩ := x_i2_of hi; split at hj
    · cases hj
    · rename_i q; exact ⟨_, _, _, x_go_of hj, fun k => lv_irem hx hb hd q (k ls hl)⟩
  · cases hlen; obtain ⟨x, y, r, rfl, hj⟩ := x_i2_of hi; exact ⟨_, _, _, x_go_of hj, fun k => lv_ishl hx hb hd (k ls hl)⟩
  · cases hlen; obtain ⟨x, y, r, rfl, hj⟩ := x_i2_of hi; exact ⟨_, _, _, x_go_of hj, fun k => lv_ishr hx hb hd (k ls hl)⟩
  · cases hlen; obtain ⟨x, y, r, rfl, hj⟩ := x_i2_of hi; exact ⟨_, _, _, x_go_of hj, fun k => lv_iushr hx hb hd rfl (k ls hl)⟩
  · cases hlen; obtain ⟨x, y, r, rfl, hj⟩ := x_l2_of hi; exact ⟨_, _, _, x_go_of hj, fun k => lv_ladd hx hb hd (k ls hl)⟩
  · cases hlen; obtain ⟨x, y, r, rfl, hj⟩ := x_l2_of hi; exact ⟨_, _, _, x_go_of hj, fun k => lv_lmul hx hb hd (k ls hl)⟩
  · cases hlen; obtain ⟨x, y, r, rfl, hj⟩ := x_l2_of hi; exact ⟨_, _, _, x_go_of hj, fun k => lv_land hx hb hd (k ls hl)⟩
  · cases hlen; obtain ⟨x, y, r, rfl, hj⟩ := x_l2_of hi; exact ⟨_, _, _, x_go_of hj, fun k => lv_lor hx hb hd (k ls hl)⟩
  · cases hlen; obtain ⟨x, y, r, rfl, hj⟩ := x_l2_of hi; split at hj
    · cases hj
    · rename_i q; exact ⟨_, _, _, x_go_of hj, fun k => lv_ldiv hx hb hd q (k ls hl)⟩
  · cases hlen; obtain ⟨x, y, r, rfl, hj⟩ := x_l2_of hi; split at hj
    · cases hj
    · rename_i q; exact ⟨_, _, _, x_go_of hj, fun k => lv_lrem hx hb hd q (k ls hl)⟩
  · cases hlen; obtain ⟨x, y, r, rfl, hj⟩ := x_li_of hi; exact ⟨_, _, _, x_go_of hj, fun k => lv_lshl hx hb hd rfl (k ls hl)⟩
  · cases hlen; obtain ⟨x, y, r, rfl, hj⟩ := x_li_of hi; exact ⟨_, _, _, x_go_of hj, fun k => lv_lshr hx hb hd rfl (k ls hl)⟩
  · cases hlen; obtain ⟨x, y, r, rfl, hj⟩ := x_l2_of hi; exact ⟨_, _, _, x_go_of hj, fun k => W.lcmp hx hb hd (k ls hl)⟩
  · cases hlen; obtain ⟨x, r, rfl, hj⟩ := x_i1_of hi; exact ⟨_, _, _, x_go_of hj, fun k => lv_i2l hx hb hd rfl (k ls hl)⟩
  · cases hlen; obtain ⟨x, r, rfl, hj⟩ := x_l1_of hi; exact ⟨_, _, _, x_go_of hj, fun k => lv_l2i hx hb hd rfl (k ls hl)⟩
  · cases hlen; obtain ⟨x, r, rfl, hj⟩ := x_i1_of hi; exact ⟨_, _, _, x_go_of hj, fun k => lv_i2b hx hb hd rfl (k ls hl)⟩
  · cases hlen; obtain ⟨x, r, rfl, hj⟩ := x_i1_of hi; exact ⟨_, _, _, x_go_of hj, fun k => lv_i2s hx hb hd rfl (k ls hl)⟩
  -- stack
  · cases hlen; obtain ⟨v, r, rfl, hj⟩ := x_v1_of hi
    obtain ⟨q, hj⟩ := x_bif hj
    exact ⟨_, _, _, x_go_of hj, fun k => lv_dup hx hb hd (by rw [x_cv_cat]; exact Nat.eq_of_beq_eq_true q) (k ls hl)⟩
  · cases hlen; obtain ⟨v, w, r, rfl, hj⟩ := x_v2_of hi
    obtain ⟨q, hj⟩ := x_bif hj
    have q := Bool.and_eq_true_iff.mp q
    exact ⟨_, _, _, x_go_of hj, fun k => lv_dup2_11 hx hb hd (by rw [x_cv_cat]; exact Nat.eq_of_beq_eq_true q.1) (by rw [x_cv_cat]; exact Nat.eq_of_beq_eq_true q.2) (k ls hl)⟩
  · cases hlen; obtain ⟨v, r, rfl, hj⟩ := x_v1_of hi
    obtain ⟨q, hj⟩ := x_bif hj
    exact ⟨_, _, _, x_go_of hj, fun k => lv_pop hx hb hd (by rw [x_cv_cat]; exact Nat.eq_of_beq_eq_true q) (k ls hl)⟩
  · cases hlen; obtain ⟨v, r, rfl, hj⟩ := x_v1_of hi
    obtain ⟨q, hj⟩ := x_bif hj
    exact ⟨_, _, _, x_go_of hj, fun k => lv_pop2_2 hx hb hd (by rw [x_cv_cat]; exact Nat.eq_of_beq_eq_true q) (k ls hl)⟩
  -- branches
  · cases hlen; obtain ⟨x, r, rfl, hj⟩ := x_i1_of hi; obtain ⟨t, ht, hj⟩ := x_br_of hj
    unfold x_cond at hj
    split at hj <;> split at hj <;> rename_i q
    · exact ⟨_, _, _, x_go_of hj, fun k => lv_if_eq hx hb hd ht (fun _ => k ls hl) (fun q' => absurd q q')⟩
    · exact ⟨_, _, _, x_go_of hj, fun k => lv_if_eq hx hb hd ht (fun q' => absurd q' q) (fun _ => k ls hl)⟩
    · exact ⟨_, _, _, x_go_of hj, fun k => lv_if_ne hx hb hd ht (fun _ => k ls hl) (fun q' => absurd q' q)⟩
    · exact ⟨_, _, _, x_go_of hj, fun k => lv_if_ne hx hb hd ht (fun q' => absurd q' q) (fun _ => k ls hl)⟩
    · exact ⟨_, _, _, x_go_of hj, fun k => lv_if_lt hx hb hd ht (fun _ => k ls hl) (fun q' => absurd q q')⟩
    · exact ⟨_, _, _, x_go_of hj, fun k => lv_if_lt hx hb hd ht (fun q' => absurd q' q) (fun _ => k ls hl)⟩
    · exact ⟨_, _, _, x_go_of hj, fun k => lv_if_ge hx hb hd ht (fun _ => k ls hl) (fun q' => absurd q q')⟩
    · exact ⟨_, _, _, x_go_of hj, fun k => lv_if_ge hx hb hd ht (fun q' => absurd q' q) (fun _ => k ls hl)⟩
    · exact ⟨_, _, _, x_go_of hj, fun k => lv_if_gt hx hb hd ht (fun _ => k ls hl) (fun q' => absurd q q')⟩
    · exact ⟨_, _, _, x_go_of hj, fun k => lv_if_gt hx hb hd ht (fun q' => absurd q' q) (fun _ => k ls hl)⟩
    · exact ⟨_, _, _, x_go_of hj, fun k => lv_if_le hx hb hd ht (fun _ => k ls hl) (fun q' => absurd q q')⟩
    · exact ⟨_, _, _, x_go_of hj, fun k => lv_if_le hx hb hd ht (fun q' => absurd q' q) (fun _ => k ls hl)⟩
  · cases hlen; obtain ⟨x, y, r, rfl, hj⟩ := x_i2_of hi; obtain ⟨t, ht, hj⟩ := x_br_of hj
    unfold x_cond at hj
    split at hj <;> split at hj <;> rename_i q
    · exact ⟨_, _, _, x_go_of hj, fun k => lv_icmp_eq hx hb hd ht (fun _ => k ls hl) (fun q' => absurd q q')⟩
    · exact ⟨_, _, _, x_go_of hj, fun k => lv_icmp_eq hx hb hd ht (fun q' => absurd q' q) (fun _ => k ls hl)⟩
    · exact ⟨_, _, _, x_go_of hj, fun k => lv_icmp_ne hx hb hd ht (fun _ => k ls hl) (fun q' => absurd q' q)⟩
    · exact ⟨_, _, _, x_go_of hj, fun k => lv_icmp_ne hx hb hd ht (fun q' => absurd q' q) (fun _ => k ls hl)⟩
    · exact ⟨_, _, _, x_go_of hj, fun k => lv_icmp_lt hx hb hd ht (fun _ => k ls hl) (fun q' => absurd q q')⟩
    · exact ⟨_, _, _, x_go_of hj, fun k => lv_icmp_lt hx hb hd ht (fun q' => absurd q' q) (fun _ => k ls hl)⟩
    · exact ⟨_, _, _, x_go_of hj, fun k => lv_icmp_ge hx hb hd ht (fun _ => k ls hl) (fun q' => absurd q q')⟩
    · exact ⟨_, _, _, x_go_of hj, fun k => lv_icmp_ge hx hb hd ht (fun q' => absurd q' q) (fun _ => k ls hl)⟩
    · exact ⟨_, _, _, x_go_of hj, fun k => lv_icmp_gt hx hb hd ht (fun _ => k ls hl) (fun q' => absurd q q')⟩
    · exact ⟨_, _, _, x_go_of hj, fun k => lv_icmp_gt hx hb hd ht (fun q' => absurd q' q) (fun _ => k ls hl)⟩
    · exact ⟨_, _, _, x_go_of hj, fun k => lv_icmp_le hx hb hd ht (fun _ => k ls hl) (fun q' => absurd q q')⟩
    · exact ⟨_, _, _, x_go_of hj, fun k => lv_icmp_le hx hb hd ht (fun q' => absurd q' q) (fun _ => k ls hl)⟩
  · cases hlen; obtain ⟨t, ht, hi⟩ := x_br_of hi
    exact ⟨_, _, _, x_go_of hi, fun k => lv_goto hx hb hd ht (k ls hl)⟩
  · obtain ⟨x, r, rfl, hj⟩ := x_i1_of hi
    split at hj
    · rename_i q; obtain ⟨t, ht, hj⟩ := x_br_of hj
      exact ⟨_, _, _, x_go_of hj, fun k => lv_tableOut hx hb hd q ht (k ls hl)⟩
    · rename_i q
      split at hj
      · rename_i off ho; obtain ⟨t, ht, hj⟩ := x_br_of hj
        exact ⟨_, _, _, x_go_of hj, fun k => lv_tableIn hx hb hd (fun z => q (Or.inl z)) (fun z => q (Or.inr z)) ho ht (k ls hl)⟩
      · cases hj
  · obtain ⟨x, r, rfl, hj⟩ := x_i1_of hi
    split at hj
    · rename_i q; obtain ⟨t, ht, hj⟩ := x_br_of hj
      exact ⟨_, _, _, x_go_of hj, fun k => lv_lookup hx hb hd q rfl ht (k ls hl)⟩
    · cases hj
  · cases hi
end XS
/-! ===== soundness: fields, arrays, new ===== -/
def x_okC : Prop := ∀ (ci : Nat) (C : String) (T : u_T) (N : Nat), (vwCl : List vw_C)[ci]? = some (C, T, N) → (∀ w ∈ u_ws C T N, w ∈ x_bw) ∧ (∀ k, k < N → parseFieldDescriptor (T k).2.2.1 = some (x_fty ci k)) ∧ (∀ a, a < N → ∀ b, b < N → a ≠ b → (T a).2.1 ≠ (T b).2.1) ∧ Cond.instantiable C N ∈ x_bw ∧ Cond.initialized C ∈ x_bw
def x_ok2 (own : String) (y : MethodName) (ins : Instr) (a b : Nat) : Prop := match ins with
  | .getfield i => ∃ (C : String) (T : u_T) (N : Nat), (vwCl : List vw_C)[a]? = some (C, T, N) ∧ b < N ∧ Cond.fieldLink own i (T b).1 (T b).2.1 (T b).2.2.1 ∈ x_bw
  | .putfield i => ∃ (C : String) (T : u_T) (N : Nat), (vwCl : List vw_C)[a]? = some (C, T, N) ∧ b < N ∧ Cond.fieldLink own i (T b).1 (T b).2.1 (T b).2.2.1 ∈ x_bw ∧ ((T b).2.2.2 = true → y.name = "<init>" ∧ (T b).1 = own)
  | .newarray t => Cond.arrayClass (newarray.typeOf t) ∈ x_bw
  | .anewarray i => ∃ (C : String) (T : u_T) (N : Nat), (vwCl : List vw_C)[a]? = some (C, T, N) ∧ Cond.classLink own i C ∈ x_bw ∧ C ∈ x_ao
  | .new i => ∃ (C : String) (T : u_T), (vwCl : List vw_C)[a]? = some (C, T, b) ∧ Cond.classLink own i C ∈ x_bw
  | _ => True
theorem x_K1 {D : va_G} {s : State} {cA : ClassId} {ty : FieldType} (hK : va_K D vwCl [] s) (h : ArrOfT s cA ty ∧ va_RA s cA ty) : va_K D vwCl [(cA, ty)] s := by
  refine ⟨hK.1, fun k q hq => ?_⟩
  have hz : k < 1 := (List.getElem?_eq_some_iff.mp hq).1
  rw [show k = 0 by omega] at hq
  cases hq
  exact h
theorem x_K2 {D : va_G} {s : State} {cA cB : ClassId} {ty : FieldType} (hK : va_K D vwCl [] s) (h : ArrOfT s cA ty ∧ va_RA s cA ty) (h2 : ArrOfT s cB ty ∧ va_RA s cB ty) : va_K D vwCl [(cA, ty), (cB, ty)] s := (x_K1 hK h).app (x_K1 hK h2)
theorem x_fit_of {ty : FieldType} {v : Value} (h : x_fit ty v = true) (ad : Nat → Nat) : narrow ty (x_cv ad v) = x_cv ad v ∧ fits ty (x_cv ad v) = true := by
  unfold x_fit at h
  split at h
  · exact ⟨rfl, rfl⟩
  · exact ⟨rfl, rfl⟩
  · rename_i x
    have h' : x = 0 ∨ x = 1 := by simpa using h
    rcases h' with rfl | rfl
    · show narrow .boolean (.int 0) = .int 0 ∧ fits .boolean (.int 0) = true
      exact ⟨by decide, by decide⟩
    · show narrow .boolean (.int 1) = .int 1 ∧ fits .boolean (.int 1) = true
      exact ⟨by decide, by decide⟩
  · exact ⟨rfl, rfl⟩
  · exact ⟨rfl, rfl⟩
  · cases h
theorem x_ft4 {c : Nat} {r : vw_C} (h : (vwCl : List vw_C)[c]? = some r) : x_ft (4 + c) = .object r.1 := by
  rw [Nat.add_comm]
  show FieldType.object _ = _
  unfold x_cls
  rw [h]
theorem x_ft4' {t : Nat} (h : 4 ≤ t) : ∃ C, x_ft t = .object C := by
  obtain ⟨c, rfl⟩ := Nat.exists_eq_add_of_le h
  rw [Nat.add_comm]
  exact ⟨_, rfl⟩
section XS2
variable {p : Program} {l : Launch} {e : Env} {R : Room} {s : State} {m : MethodId} {args : Array Value} {below : List Frame} {meth : Method} {c : Code} {H : Heap} {locs : List Loc} {cells slots : Nat} {Q : State → Prop}
variable {cc : ByteArray} {pc : Nat} {ls : Array Slot} {own : String} {y : MethodName} {ad : Nat → Nat} {nL : Nat} {L : xL} {st rest : List Value} {h : xH} {k z : Nat} {ins : Instr} {len a b base : Nat} {D : va_G}
/-- what is known where a step begins -/
def x_At (s : State) (m : MethodId) (args : Array Value) (own : String) (D : va_G) (base : Nat) (ad : Nat → Nat) (h : xH) (H : Heap) (locs : List Loc) : Prop :=
  s.vm.findClass own = some m.cls ∧ (∀ w ∈ x_bw, w.before args s = true) ∧ va_K D vwCl [] s ∧ base ≤ s.heap.size ∧ x_W ad base D h s H ∧ va_S (fun q => base ≤ q) s.heap H locs
/-- a field is written -/
theorem x_put (hC : x_okC) (hx : p.tables.exec = Jvm.exec) (hb : c.code = cc) (hmn : y.name = "<init>" → meth.name = "<init>") (X : x_At s m args own D base ad h H locs) {i q : Nat} {fs : List Value} {v : Value} {C : String} {T : u_T} {N : Nat} (hq : h[q]? = some (.inr (a, fs))) (hc : (vwCl : List vw_C)[a]? = some (C, T, N)) (hbN : b < N) (hlink : Cond.fieldLink own i (T b).1 (T b).2.1 (T b).2.2.1 ∈ x_bw) (hfin : (T b).2.2.2 = true → y.name = "<init>" ∧ (T b).1 = own) (hf : x_fit (x_fty a b) v = true) (hlt : b < fs.length)
    (hdg : decode cc pc = .ok (.putfield i, 3)) (kk : ∀ (H1 : Heap) (locs1 : List Loc), x_At s m args own D base ad (h.set q (.inr (a, fs.set b v))) H1 locs1 → W p l e R s m args below meth c H1 locs1 cells slots Q (F0 m (pc + 3) ls rest)) : W p l e R s m args below meth c H locs cells slots Q (F0 m pc ls (x_cv ad v :: .ref (ad q) :: rest)) := by
  obtain ⟨hown, hts, hK, hbase, w, hS⟩ := X
  obtain ⟨hin, hty, hnm, -, -⟩ := hC a C T N hc
  obtain ⟨-, -, -, cs, hP, -⟩ := id w
  obtain ⟨hn, hft⟩ := x_fit_of hf ad
  have he := x_cw_get (ad := ad) (cs := cs) hq
  have hap := va_apart (own := own) hts hin (x_fty a) hty hnm hK hc
  obtain ⟨r, h1, cell, q1, q2, q3, q4⟩ := hP q _ he
  have hr : r = (C, T, N) := Option.some.inj (h1.symm.trans hc)
  subst hr
  obtain ⟨hSl, hfc, kC, hkC, hkind⟩ := hK.1 a _ hc
  obtain ⟨cf, kf, fi, f, hi, hsl⟩ := hSl b hbN
  have hst := (u_facts hfc hkC (u_lays hts hin hbN) hi).1
  have hd := hty b hbN
  have fin : ∀ (H' : Heap), H'[ad q]? = some (cell.setSlot f.slot (x_cv ad v)) → H'.size = H.size → (∀ x, x ≠ ad q → H'[x]? = H[x]?) → W p l e R s m args below meth c H' (locs ++ [⟨ad q, f.slot⟩]) cells slots Q (F0 m (pc + 3) ls rest) := by
    intro H' e1 e2 e3
    refine kk H' _ ⟨hown, hts, hK, hbase, w.set hq rfl e2 e3 (fun cA _ => ?_), hS.put e2 e3 ?_⟩
    · rw [hsl] at e1
      refine ⟨_, hc, t_OB.to (V := updV (vp_V (fs.map (x_cv ad))) b (x_cv ad v)) ⟨_, e1, q2, q3, t_set q4 hap hbN (x_cv ad v)⟩ (fun j _ => ?_)⟩
      rw [vp_updV_set (by rw [List.length_map]; exact hlt), List.map_set]
    · have := (w.at hq).2.1
      show base ≤ ad q
      omega
  cases hfe : (T b).2.2.2 with
  | false =>
    have hlay := hts _ (hin _ (u_in_lay hbN))
    unfold u_lay at hlay
    rw [if_neg (by rw [hfe]; decide)] at hlay
    have h6 := u_store hfc hkC hkind hlay hi hd hn hft
    exact W.putK hx hb (f := f) ⟨hown, hts _ hlink, ⟨_, _, _, hi⟩, hst⟩ (by rw [q2]; exact h6) q1 q3 (by rw [hsl]; exact k2_hasslot (q4 b hbN)) rfl rfl hdg fin
  | true =>
    obtain ⟨hy, hdecl⟩ := hfin hfe
    have hlay := hts _ (hin _ (u_in_lay hbN))
    unfold u_lay at hlay
    rw [if_pos hfe] at hlay
    have hcf : m.cls = cf := by
      obtain ⟨_, _, c', _, _, _, -, -, hf', -, -, -, hown2, -⟩ := Cond.laysFinal_spec hlay
      have e1 : c' = cf := by have := hi.symm.trans hf'; simp at this; exact this.1.symm
      rw [hdecl] at hown2
      rw [← e1]; exact Option.some.inj (hown.symm.trans hown2)
    have h6 := u_fits hfc hkC hkind (Or.inr hlay) hi hd hn hft
    exact W.putFinK hx hb hown (hts _ hlink) hi hst hcf (hmn hy) (by rw [q2]; exact h6) q1 q3 (by rw [hsl]; exact k2_hasslot (q4 b hbN)) rfl rfl hdg fin
theorem x_base_of (X : x_At s m args own D base ad h H locs) {q : Nat} {e0 : xE} (hq : h[q]? = some e0) : base ≤ ad q := by
  have := (X.2.2.2.2.1.at hq).2.1
  omega
/-- a cell that is an array is written anew -/
theorem x_arr (X : x_At s m args own D base ad h H locs) {q j : Nat} {e0 e1 : xE} (hq : h[q]? = some e0) (ht : x_tg e1 = x_tg e0) {H1 : Heap} (z1 : H1.size = H.size) (o1 : ∀ x, x ≠ ad q → H1[x]? = H[x]?) (he : ∀ cA : ClassId, va_at D vwCl (ad q, x_ce ad cA e0) H → va_at D vwCl (ad q, x_ce ad cA e1) H1) : x_At s m args own D base ad (h.set q e1) H1 (locs ++ [⟨ad q, j⟩]) := by
  have hbq := x_base_of X hq
  obtain ⟨hown, hts, hK, hbase, w, hS⟩ := X
  exact ⟨hown, hts, hK, hbase, w.set hq ht z1 o1 he, hS.put z1 o1 hbq⟩
theorem x_upd_i (cA : ClassId) (n i : Nat) (f : Nat → Int32) (x : Int32) : (vp_cell cA (n, .inl f)).setSlot i (.int x) = vp_cell cA (n, .inl (upd f i x)) := by
  rw [vp_cell_i, vp_cell_i, arrV_store]
  congr 2
  funext q
  by_cases hq : q = i
  · subst hq; simp [updV, upd]
  · simp [updV, upd, hq]
theorem x_upd_l (cA : ClassId) (n i : Nat) (f : Nat → Int64) (x : Int64) : (vp_cell cA (n, .inr (.inl f))).setSlot i (.long x) = vp_cell cA (n, .inr (.inl (vp_updL f i x))) := by
  rw [vp_cell_l, vp_cell_l, arrV_store]
  congr 2
  funext q
  by_cases hq : q = i
  · subst hq; simp [updV, vp_updL]
  · simp [updV, vp_updL, hq]
theorem x_upd_q (cA : ClassId) (n i : Nat) (f : Nat → Option Nat) (x : Nat) : (vp_cell cA (n, .inr (.inr (.inr (.inr f))))).setSlot i (.ref x) = vp_cell cA (n, .inr (.inr (.inr (.inr (va_up f i (some x)))))) := by
  rw [vp_cell_q, vp_cell_q, arrV_store]
  congr 2
  funext q
  by_cases hq : q = i
  · subst hq; simp [updV, va_up, va_rf]
  · simp [updV, va_up, hq]
/-- what a step of this kind leaves to be shown -/
def x_N2 (p : Program) (l : Launch) (e : Env) (R : Room) (s : State) (m : MethodId) (args : Array Value) (below : List Frame) (meth : Method) (c : Code) (H : Heap) (locs : List Loc) (k z : Nat) (Q : State → Prop) (ls : Array Slot) (own : String) (D : va_G) (base : Nat) (ad : Nat → Nat) (L : xL) (st : List Value) (pc : Nat) (o : xC ⊕ ((Nat × List Value × List Value) ⊕ Option Value)) : Prop :=
  ∃ (pc' : Nat) (st' : List Value) (h' : xH) (k' z' : Nat), o = .inl (pc', L, st', h', k', z') ∧ k ≤ k' ∧ z ≤ z' ∧ (k' ≤ R.cells → z' ≤ R.slots → (∀ (H1 : Heap) (locs1 : List Loc), x_At s m args own D base ad h' H1 locs1 → W p l e R s m args below meth c H1 locs1 k' z' Q (F0 m pc' ls (st'.map (x_cv ad)))) → W p l e R s m args below meth c H locs k z Q (F0 m pc ls (st.map (x_cv ad))))
theorem x_N2.go {pc' : Nat} {st' : List Value} {h' : xH} {k' z' : Nat} {o} (hi : x_go pc' L st' h' k' z' = some o) (h1 : k ≤ k') (h2 : z ≤ z') (kk : k' ≤ R.cells → z' ≤ R.slots → (∀ (H1 : Heap) (locs1 : List Loc), x_At s m args own D base ad h' H1 locs1 → W p l e R s m args below meth c H1 locs1 k' z' Q (F0 m pc' ls (st'.map (x_cv ad)))) → W p l e R s m args below meth c H locs k z Q (F0 m pc ls (st.map (x_cv ad)))) : x_N2 p l e R s m args below meth c H locs k z Q ls own D base ad L st pc o :=
  ⟨pc', st', h', k', z', (Option.some.inj hi).symm, h1, h2, kk⟩
/-- the String constants -/
def x_St (s : State) (base : Nat) (ad : Nat → Nat) : Prop :=
  (∀ j : Nat, j < x_sbyt.length → va_O "java/lang/String" (ad (x_str + j)) (fun q => base ≤ q) s s.heap ∧ va_OF "java/lang/String" "coder" "B" (.int 0) (ad (x_str + j)) (fun q => base ≤ q) s s.heap ∧ va_OF "java/lang/String" "value" "[B" (.ref (ad (x_val + j))) (ad (x_str + j)) (fun q => base ≤ q) s s.heap ∧ va_T .byte (ad (x_val + j)) (x_sbyt.getD j []).length (fun i => .int ((x_sbyt.getD j []).getD i 0)) (fun q => base ≤ q) s s.heap) ∧
  va_Z "java/lang/String" "COMPACT_STRINGS" "Z" (.int 1) (fun q => base ≤ q) s s.heap ∧ va_Zq "jdk/internal/util/Preconditions" "SIOOBE_FORMATTER" "Ljava/util/function/BiFunction;" (fun q => base ≤ q) s s.heap ∧
  ∀ (j : Nat) (own : String) (k : Nat) (tx : String), x_lit[j]? = some (own, k, tx) → vk_R own k tx (ad (x_str + j)) s
theorem x_St.next {U : State} (hT : x_St s base ad) (hU : U.heap = H) (hW : s.WarmedH U.vm) (hS : va_S (fun q => base ≤ q) s.heap H locs) : x_St U base ad := by
  have hk := hS.2.1
  obtain ⟨h1, h2, h3, h4⟩ := hT
  unfold x_St
  rw [hU]
  refine ⟨fun j hj => ?_, va_Z.moved hW.alike (h2.kept hk), va_Zq.moved hW.alike (h3.kept hk), fun j own k tx e => vk_R.warm hW (h4 j own k tx e)⟩
  obtain ⟨a, b, c, d⟩ := h1 j hj
  exact ⟨va_O.moved hW.alike (a.kept hk), va_OF.moved hW.alike (b.kept hk), va_OF.moved hW.alike (c.kept hk), va_T.moved hW.alike (d.kept hk)⟩
theorem x_St.same {U : State} (hU : U.heap = s.heap) (hv : U.vm = s.vm) (hT : x_St s base ad) : x_St U base ad := by
  have ha : s.vm.Alike U.vm := by rw [hv]; exact Vm.Alike.refl s.vm
  obtain ⟨h1, h2, h3, h4⟩ := hT
  unfold x_St
  rw [hU]
  refine ⟨fun j hj => ?_, va_Z.moved ha h2, va_Zq.moved ha h3, fun j own k tx e => vk_R.same hv (h4 j own k tx e)⟩
  obtain ⟨a, b, c, d⟩ := h1 j hj
  exact ⟨va_O.moved ha a, va_OF.moved ha b, va_OF.moved ha c, va_T.moved ha d⟩
/-- the script, and the String constants -/
def x_Sc (S : Option xS) (s : State) (base : Nat) (ad : Nat → Nat) : Prop := (∀ (n : Nat) (f : Nat → Int32), S = some (n, f) → va_X (ad x_scr) n f s s.heap ∧ ad x_scr < s.heap.size ∧ ¬ base ≤ ad x_scr) ∧ x_St s base ad
theorem x_pushAt (X : x_At s m args own D base ad h H locs) {e1 : xE} {cA : ClassId} {H1 : Heap} (hl : ¬ x_scr ≤ h.length) (z1 : H1.size = H.size + 1) (o1 : ∀ q, q < H.size → H1[q]? = H[q]?) (he : va_at D vwCl (H.size, x_ce ad cA e1) H1) (ht : ∀ t, x_tg e1 = some t → ArrOfT s cA (x_ft t) ∧ va_RA s cA (x_ft t)) : x_At s m args own D base ad (h ++ [e1]) H1 locs ∧ ad h.length = H.size := by
  obtain ⟨hown, hts, hK, hbase, w, hS⟩ := X
  obtain ⟨w', ha⟩ := w.push hl z1 o1 he ht
  exact ⟨⟨hown, hts, hK, hbase, w', ⟨Nat.le_trans hS.1 (by omega), fun x h1 h2 => (o1 x (Nat.lt_of_lt_of_le h1 hS.1)).trans (hS.2.1 x h1 h2), hS.2.2⟩⟩, ha⟩
/-- new rows of numbers -/
theorem x_newa (hx : p.tables.exec = Jvm.exec) (hb : c.code = cc) (X : x_At s m args own D base ad h H locs) {atype : ArrayType} {n : Int32} {a0 : vp_A} {t : Nat} (harr : Cond.arrayClass (newarray.typeOf atype) ∈ x_bw) (hnq : ¬ (n < 0 ∨ 60000000 < n.toNatClampNeg ∨ x_scr ≤ h.length)) (hcb : componentBytes (newarray.typeOf atype) ≤ 8) (hft : x_ft t = newarray.typeOf atype)
    (ha : ∀ cA : ClassId, va_at D vwCl (H.size, x_ce ad cA (.inl (t, a0))) = fun H1 => H1[H.size]? = some (arrV cA n.toNatClampNeg (fun _ => defaultValue (newarray.typeOf atype)))) (hdg : decode cc pc = .ok (.newarray atype, 2)) (hc1 : k + 1 ≤ R.cells) (hs1 : z + n.toNatClampNeg ≤ R.slots)
    (kk : ∀ (H1 : Heap) (locs1 : List Loc), x_At s m args own D base ad (h ++ [.inl (t, a0)]) H1 locs1 → W p l e R s m args below meth c H1 locs1 (k + 1) (z + n.toNatClampNeg) Q (F0 m (pc + 2) ls (.ref (ad h.length) :: rest))) : W p l e R s m args below meth c H locs k z Q (F0 m pc ls (.int n :: rest)) := by
  obtain ⟨hown, hts, hK, hbase, w, hS⟩ := id X
  have g1 : ¬ n < 0 := fun q => hnq (Or.inl q)
  have g2 : ¬ 60000000 < n.toNatClampNeg := fun q => hnq (Or.inr (Or.inl q))
  have g3 : ¬ x_scr ≤ h.length := fun q => hnq (Or.inr (Or.inr q))
  refine va_newaK hx hb (hts _ harr) rfl hdg rfl g1 rfl (Nat.le_trans (Nat.mul_le_mul_left _ hcb) (by omega)) hc1 hs1 rfl fun H1 cA e1 z1 o1 hAr hNm => ?_
  obtain ⟨X', hadd⟩ := x_pushAt (e1 := .inl (t, a0)) (cA := cA) X g3 z1 o1 (by rw [ha]; exact e1) (fun t' ht' => by
    cases ht'
    rw [hft]
    exact ⟨hAr, by cases atype <;> exact hNm⟩)
  have := kk H1 locs X'
  rw [hadd] at this
  exact this
/-- a new row of references -/
theorem x_newq (hx : p.tables.exec = Jvm.exec) (hb : c.code = cc) (X : x_At s m args own D base ad h H locs) {n : Int32} {i : Nat} {C : String} {T : u_T} {N : Nat} (hc : (vwCl : List vw_C)[a]? = some (C, T, N)) (hcl : Cond.classLink own i C ∈ x_bw) (hov : C ∈ x_ao) (hnq : ¬ (n < 0 ∨ 60000000 < n.toNatClampNeg ∨ x_scr ≤ h.length)) (hdg : decode cc pc = .ok (.anewarray i, 3)) (hc1 : k + 1 ≤ R.cells) (hs1 : z + n.toNatClampNeg ≤ R.slots)
    (kk : ∀ (H1 : Heap) (locs1 : List Loc), x_At s m args own D base ad (h ++ [.inl (4 + a, n.toNatClampNeg, .inr (.inr (.inr (.inr (fun _ => none)))))]) H1 locs1 → W p l e R s m args below meth c H1 locs1 (k + 1) (z + n.toNatClampNeg) Q (F0 m (pc + 3) ls (.ref (ad h.length) :: rest))) : W p l e R s m args below meth c H locs k z Q (F0 m pc ls (.int n :: rest)) := by
  obtain ⟨hown, hts, hK, hbase, w, hS⟩ := id X
  have g1 : ¬ n < 0 := fun q => hnq (Or.inl q)
  have g2 : ¬ 60000000 < n.toNatClampNeg := fun q => hnq (Or.inr (Or.inl q))
  have g3 : ¬ x_scr ≤ h.length := fun q => hnq (Or.inr (Or.inr q))
  obtain ⟨-, -, -, -, -, -, hao⟩ := id w
  refine W.anew hx hb hown (hts _ hcl) (va_AO.use (hao _ hov)) rfl hdg rfl g1 (by omega) hc1 hs1 fun cA kA comp f1 f2 f3 f4 => ?_
  generalize hH1 : H.push ({ cls := cA, slots := Array.replicate n.toNatClampNeg .null, vm := .none } : Cell) = H1
  have z1 : H1.size = H.size + 1 := by rw [← hH1, Array.size_push]
  have e1 : H1[H.size]? = some (arrV cA n.toNatClampNeg (fun _ => .null)) := by rw [← hH1, Array.getElem?_push_size, ← arrV_new]
  have o1 : ∀ q : Nat, q < H.size → H1[q]? = H[q]? := fun q hq => by rw [← hH1, Array.getElem?_push, if_neg (Nat.ne_of_lt hq)]
  have hAr : ArrOfT s cA (.object C) := fun N z => ⟨(fun k h => by cases h), kA, f2, comp, f3⟩
  obtain ⟨X', hadd⟩ := x_pushAt (e1 := .inl (4 + a, n.toNatClampNeg, .inr (.inr (.inr (.inr (fun _ => none)))))) (cA := cA) X g3 z1 o1 (by
    show H1[H.size]? = some (vp_cell _ _)
    rw [vp_cell_q]
    exact e1) (fun t' ht' => by
    cases ht'
    rw [x_ft4 hc]
    exact ⟨hAr, kA, comp, f2, f3, f4, f1⟩)
  have := kk H1 locs X'
  rw [hadd] at this
  exact this
/-- a new object -/
theorem x_new (hC : x_okC) (hx : p.tables.exec = Jvm.exec) (hb : c.code = cc) (X : x_At s m args own D base ad h H locs) {i : Nat} {C : String} {T : u_T} (hc : (vwCl : List vw_C)[a]? = some (C, T, b)) (hcl : Cond.classLink own i C ∈ x_bw) (g3 : ¬ x_scr ≤ h.length) (hdg : decode cc pc = .ok (.new i, 3)) (hc1 : k + 1 ≤ R.cells) (hs1 : z + b ≤ R.slots)
    (kk : ∀ (H1 : Heap) (locs1 : List Loc), x_At s m args own D base ad (h ++ [.inr (a, (List.range b).map (fun j => defaultValue (x_fty a j)))]) H1 locs1 → W p l e R s m args below meth c H1 locs1 (k + 1) (z + b) Q (F0 m (pc + 3) ls (.ref (ad h.length) :: rest))) : W p l e R s m args below meth c H locs k z Q (F0 m pc ls rest) := by
  obtain ⟨hown, hts, hK, hbase, w, hS⟩ := id X
  obtain ⟨hin, hty, hnm, hins, hini⟩ := hC a C T b hc
  have hKn := hK.1 a _ hc
  refine W.newcK hx hb hown (hts _ hcl) (hts _ hins) (hts _ hini) rfl hdg hc1 hs1 hKn.2.1 rfl fun H1 kC hkC e1 z1 o1 => ?_
  obtain ⟨X', hadd⟩ := x_pushAt (e1 := .inr (a, (List.range b).map (fun j => defaultValue (x_fty a j)))) (cA := 0) X g3 z1 o1 (by
    refine ⟨_, hc, (u_born (x_fty a) hts hin hKn hkC e1 hty).to (fun j hj => ?_)⟩
    show defaultValue (x_fty a j) = vp_V (((List.range b).map (fun j => defaultValue (x_fty a j))).map (x_cv ad)) j
    unfold vp_V
    rw [List.getD_eq_getElem?_getD, List.getElem?_map, List.getElem?_map, List.getElem?_range hj]
    show defaultValue (x_fty a j) = x_cv ad (defaultValue (x_fty a j))
    cases x_fty a j <;> rfl) (fun t' ht' => by cases ht')
  have := kk H1 locs X'
  rw [hadd] at this
  exact this
end XS2
/-! ===== soundness of the second group, as one row ===== -/
section XS4
variable {p : Program} {l : Launch} {e : Env} {R : Room} {s : State} {m : MethodId} {args : Array Value} {below : List Frame} {meth : Method} {c : Code} {H : Heap} {locs : List Loc} {cells slots : Nat} {Q : State → Prop}
variable {cc : ByteArray} {pc : Nat} {ls : Array Slot} {own : String} {y : MethodName} {ad : Nat → Nat} {nL : Nat} {L : xL} {st rest : List Value} {h : xH} {k z : Nat} {ins : Instr} {len a b base : Nat} {D : va_G}
theorem x_cellOf (X : x_At s m args own D base ad h H locs) {q t : Nat} {x : vp_A} (hq : h[q]? = some (.inl (t, x))) : ∃ (cA : ClassId), va_at D vwCl (ad q, x_ce ad cA (.inl (t, x))) H ∧ ArrOfT s cA (x_ft t) ∧ va_RA s cA (x_ft t) := by
  obtain ⟨hown, hts, hK, hbase, w, hS⟩ := X
  obtain ⟨-, -, -, cs, hP, h5, -⟩ := w
  exact ⟨cs q, hP q _ (x_cw_get hq), h5 q _ t hq rfl⟩
theorem x_cellI (X : x_At s m args own D base ad h H locs) {q t n : Nat} {f : Nat → Int32} (hq : h[q]? = some (.inl (t, n, .inl f))) : ∃ (cA : ClassId), H[ad q]? = some (vp_cell cA (n, .inl f)) ∧ ArrOfT s cA (x_ft t) ∧ va_RA s cA (x_ft t) := x_cellOf X hq
theorem x_cellL (X : x_At s m args own D base ad h H locs) {q t n : Nat} {f : Nat → Int64} (hq : h[q]? = some (.inl (t, n, .inr (.inl f)))) : ∃ (cA : ClassId), H[ad q]? = some (vp_cell cA (n, .inr (.inl f))) ∧ ArrOfT s cA (x_ft t) ∧ va_RA s cA (x_ft t) := x_cellOf X hq
theorem x_cellF (X : x_At s m args own D base ad h H locs) {q t n : Nat} {f : Nat → UInt32} (hq : h[q]? = some (.inl (t, n, .inr (.inr (.inl f))))) : ∃ (cA : ClassId), H[ad q]? = some (vp_cell cA (n, .inr (.inr (.inl f)))) ∧ ArrOfT s cA (x_ft t) ∧ va_RA s cA (x_ft t) := x_cellOf X hq
theorem x_cellD (X : x_At s m args own D base ad h H locs) {q t n : Nat} {f : Nat → UInt64} (hq : h[q]? = some (.inl (t, n, .inr (.inr (.inr (.inl f)))))) : ∃ (cA : ClassId), H[ad q]? = some (vp_cell cA (n, .inr (.inr (.inr (.inl f))))) ∧ ArrOfT s cA (x_ft t) ∧ va_RA s cA (x_ft t) := x_cellOf X hq
theorem x_cellQ (X : x_At s m args own D base ad h H locs) {q t n : Nat} {f : Nat → Option Nat} (hq : h[q]? = some (.inl (t, n, .inr (.inr (.inr (.inr f)))))) : ∃ (cA : ClassId), H[ad q]? = some (vp_cell cA (n, .inr (.inr (.inr (.inr (fun j => (f j).map ad)))))) ∧ ArrOfT s cA (x_ft t) ∧ va_RA s cA (x_ft t) := x_cellOf X hq
theorem x_wrI (X : x_At s m args own D base ad h H locs) {q t n i : Nat} {f : Nat → Int32} {cA : ClassId} {x : Int32} (hq : h[q]? = some (.inl (t, n, .inl f))) (hat : H[ad q]? = some (vp_cell cA (n, .inl f))) {H1 : Heap} (e1 : H1[ad q]? = some ((vp_cell cA (n, .inl f)).setSlot i (.int x))) (z1 : H1.size = H.size) (o1 : ∀ y, y ≠ ad q → H1[y]? = H[y]?) : x_At s m args own D base ad (h.set q (.inl (t, n, .inl (upd f i x)))) H1 (locs ++ [⟨ad q, i⟩]) := by
  refine x_arr (e1 := (.inl (t, n, .inl (upd f i x)))) X hq rfl z1 o1 (fun cB hB => ?_)
  have hcc : vp_cell cB (n, .inl f) = vp_cell cA (n, .inl f) := Option.some.inj ((show H[ad q]? = some (vp_cell cB (n, .inl f)) from hB).symm.trans hat)
  show H1[ad q]? = some (vp_cell cB (n, .inl (upd f i x)))
  rw [e1, ← x_upd_i, hcc]
theorem x_wrL (X : x_At s m args own D base ad h H locs) {q t n i : Nat} {f : Nat → Int64} {cA : ClassId} {x : Int64} (hq : h[q]? = some (.inl (t, n, .inr (.inl f)))) (hat : H[ad q]? = some (vp_cell cA (n, .inr (.inl f)))) {H1 : Heap} (e1 : H1[ad q]? = some ((vp_cell cA (n, .inr (.inl f))).setSlot i (.long x))) (z1 : H1.size = H.size) (o1 : ∀ y, y ≠ ad q → H1[y]? = H[y]?) : x_At s m args own D base ad (h.set q (.inl (t, n, .inr (.inl (vp_updL f i x))))) H1 (locs ++ [⟨ad q, i⟩]) := by
  refine x_arr (e1 := (.inl (t, n, .inr (.inl (vp_updL f i x))))) X hq rfl z1 o1 (fun cB hB => ?_)
  have hcc : vp_cell cB (n, .inr (.inl f)) = vp_cell cA (n, .inr (.inl f)) := Option.some.inj ((show H[ad q]? = some (vp_cell cB (n, .inr (.inl f))) from hB).symm.trans hat)
  show H1[ad q]? = some (vp_cell cB (n, .inr (.inl (vp_updL f i x))))
  rw [e1, ← x_upd_l, hcc]
theorem x_wrQ (X : x_At s m args own D base ad h H locs) {q t n i x : Nat} {f : Nat → Option Nat} {cA : ClassId} (hq : h[q]? = some (.inl (t, n, .inr (.inr (.inr (.inr f)))))) (hat : H[ad q]? = some (vp_cell cA (n, .inr (.inr (.inr (.inr (fun j => (f j).map ad))))))) {H1 : Heap} (e1 : H1[ad q]? = some ((vp_cell cA (n, .inr (.inr (.inr (.inr (fun j => (f j).map ad)))))).setSlot i (.ref (ad x)))) (z1 : H1.size = H.size) (o1 : ∀ y, y ≠ ad q → H1[y]? = H[y]?) : x_At s m args own D base ad (h.set q (.inl (t, n, .inr (.inr (.inr (.inr (va_up f i (some x)))))))) H1 (locs ++ [⟨ad q, i⟩]) := by
  refine x_arr (e1 := (.inl (t, n, .inr (.inr (.inr (.inr (va_up f i (some x)))))))) X hq rfl z1 o1 (fun cB hB => ?_)
  have hcc : vp_cell cB (n, .inr (.inr (.inr (.inr (fun j => (f j).map ad))))) = vp_cell cA (n, .inr (.inr (.inr (.inr (fun j => (f j).map ad))))) := Option.some.inj ((show H[ad q]? = some (vp_cell cB (n, .inr (.inr (.inr (.inr (fun j => (f j).map ad)))))) from hB).symm.trans hat)
  have e2 : (fun j => (va_up f i (some x) j).map ad) = va_up (fun j => (f j).map ad) i (some (ad x)) := by
    funext j
    unfold va_up
    split <;> rfl
  show H1[ad q]? = some (vp_cell cB (n, .inr (.inr (.inr (.inr (fun j => (va_up f i (some x) j).map ad))))))
  rw [e1, e2, ← x_upd_q, hcc]
theorem x_in_arr {i : Int32} {n : Nat} {cA : ClassId} {f : Nat → Value} (hin : vp_in i n) : ¬ (i < 0 ∨ (arrV cA n f).slots.size ≤ i.toNatClampNeg) := by
  rw [arrV_size]
  exact hin
set_option maxHeartbeats 4000000 in
theorem x_s2 (hC : x_okC) (hx : p.tables.exec = Jvm.exec) (hb : c.code = cc) (hmn : y.name = "<init>" → meth.name = "<init>") (X : x_At s m args own D base ad h H locs) {S : Option xS} (hSc : x_Sc S s base ad) (hd : decode cc pc = .ok (ins, len)) (hlen : x_lok ins len) (hw : x_ok2 own y ins a b) {o} (hi : x_ins2 S ins pc a b L st h k z = some o) : x_N2 p l e R s m args below meth c H locs k z Q ls own D base ad L st pc o := by
  unfold x_ins2 at hi
  split at hi
  -- getfield
  · cases hlen
    obtain ⟨q, r, rfl, hj⟩ := x_a1_of hi
    obtain ⟨ci, fs, hq, hj⟩ := x_ob_of hj
    obtain ⟨hcb, hj2⟩ := x_bif hj
    have hci := Nat.eq_of_beq_eq_true hcb
    subst hci
    split at hj2
    · rename_i v hv
      obtain ⟨C, T, N, hc, hbN, hlink⟩ := hw
      refine x_N2.go hj2 (Nat.le_refl _) (Nat.le_refl _) fun _ _ kk => ?_
      obtain ⟨hown, hts, hK, hbase, w, hS⟩ := id X
      obtain ⟨-, -, -, cs, hP, -⟩ := w
      exact va_get hx hb hts (hC _ C T N hc).1 hown hK hP q (x_cw_get hq) hc b hbN (hts _ hlink) (fun _ h9 => h9) (by rw [List.getElem?_map, hv]; rfl) hd (kk H locs X)
    · cases hj2
  -- putfield
  · cases hlen
    obtain ⟨q, v, r, rfl, hj⟩ := x_av_of hi
    obtain ⟨ci, fs, hq, hj⟩ := x_ob_of hj
    obtain ⟨hcb, hj2⟩ := x_bif hj
    have hcb := Bool.and_eq_true_iff.mp hcb
    have hfb := Bool.and_eq_true_iff.mp hcb.2
    have hci := Nat.eq_of_beq_eq_true hcb.1
    subst hci
    obtain ⟨C, T, N, hc, hbN, hlink, hfin⟩ := hw
    refine x_N2.go hj2 (Nat.le_refl _) (Nat.le_refl _) fun _ _ kk => ?_
    exact x_put hC hx hb hmn X hq hc hbN hlink hfin hfb.1 (by simpa using hfb.2) hd kk
  -- iaload
  · cases hlen
    obtain ⟨q, i, r, rfl, hj⟩ := x_ai_of hi
    cases hb1 : Nat.beq q x_scr with
    | true =>
      rw [hb1] at hj
      have hqs := Nat.eq_of_beq_eq_true hb1
      subst hqs
      dsimp only [cond] at hj
      split at hj
      · rename_i n f
        obtain ⟨hin, hj⟩ := x_in_of hj
        obtain ⟨s1, s2, s3⟩ := hSc.1 n f rfl
        exact x_N2.go hj (Nat.le_refl _) (Nat.le_refl _) fun _ _ kk => va_sld hx hb s1 s2 s3 X.2.2.2.2.2 hin hd (kk H locs X)
      · cases hj
    | false =>
      rw [hb1] at hj
      obtain ⟨n, f, hq, hj⟩ := x_ari_of hj
      obtain ⟨hin, hj⟩ := x_in_of hj
      obtain ⟨cA, hat, ho⟩ := x_cellI X hq
      exact x_N2.go hj (Nat.le_refl _) (Nat.le_refl _) fun _ _ kk => W.iald (v := .int (f i.toNatClampNeg)) hx hb hat (ho.1 n (fun j => .int (f j))) (fun q => by cases q) (x_in_arr hin) (by show (arrV _ _ _).slots[_]? = _; rw [arrV_read _ _ (Nat.not_le.mp fun q => hin (Or.inr q))]) rfl rfl hd (kk H locs X)
  -- iastore
  · cases hlen
    obtain ⟨q, i, x, r, rfl, hj⟩ := x_aii_of hi
    obtain ⟨n, f, hq, hj⟩ := x_ari_of hj
    obtain ⟨hin, hj⟩ := x_in_of hj
    obtain ⟨cA, hat, ho⟩ := x_cellI X hq
    exact x_N2.go hj (Nat.le_refl _) (Nat.le_refl _) fun _ _ kk => W.iast hx hb hat (ho.1 n (fun j => .int (f j))) (fun q => by cases q) (x_in_arr hin) rfl rfl hd fun H1 e1 z1 o1 => kk H1 _ (x_wrI X hq hat e1 z1 o1)
  -- baload
  · cases hlen
    obtain ⟨q, i, r, rfl, hj⟩ := x_ai_of hi
    split at hj
    · rename_i n f hq
      obtain ⟨hin, hj⟩ := x_in_of hj
      obtain ⟨cA, hat, ho⟩ := x_cellI X hq
      exact x_N2.go hj (Nat.le_refl _) (Nat.le_refl _) fun _ _ kk => W.bald (v := .int (f i.toNatClampNeg)) hx hb hat (ho.1 n (fun j => .int (f j))) (fun q => by cases q) (x_in_arr hin) (by show (arrV _ _ _).slots[_]? = _; rw [arrV_read _ _ (Nat.not_le.mp fun q => hin (Or.inr q))]) rfl rfl hd (kk H locs X)
    · rename_i n f hq
      obtain ⟨hin, hj⟩ := x_in_of hj
      obtain ⟨cA, hat, ho⟩ := x_cellI X hq
      exact x_N2.go hj (Nat.le_refl _) (Nat.le_refl _) fun _ _ kk => W.zald (v := .int (f i.toNatClampNeg)) hx hb hat (ho.1 n (fun j => .int (f j))) (fun q => by cases q) (x_in_arr hin) (by show (arrV _ _ _).slots[_]? = _; rw [arrV_read _ _ (Nat.not_le.mp fun q => hin (Or.inr q))]) rfl rfl hd (kk H locs X)
    · cases hj
  -- bastore
  · cases hlen
    obtain ⟨q, i, x, r, rfl, hj⟩ := x_aii_of hi
    split at hj
    · rename_i n f hq
      obtain ⟨hin, hj⟩ := x_in_of hj
      obtain ⟨cA, hat, ho⟩ := x_cellI X hq
      exact x_N2.go hj (Nat.le_refl _) (Nat.le_refl _) fun _ _ kk => W.bast hx hb hat (ho.1 n (fun j => .int (f j))) (fun q => by cases q) (x_in_arr hin) rfl rfl hd fun H1 e1 z1 o1 => kk H1 _ (x_wrI X hq hat e1 z1 o1)
    · rename_i n f hq
      obtain ⟨hin, hj⟩ := x_in_of hj
      obtain ⟨cA, hat, ho⟩ := x_cellI X hq
      exact x_N2.go hj (Nat.le_refl _) (Nat.le_refl _) fun _ _ kk => W.zast hx hb hat (ho.1 n (fun j => .int (f j))) (fun q => by cases q) (x_in_arr hin) rfl rfl hd fun H1 e1 z1 o1 => kk H1 _ (x_wrI X hq hat e1 z1 o1)
    · cases hj
  -- laload
  · cases hlen
    obtain ⟨q, i, r, rfl, hj⟩ := x_ai_of hi
    obtain ⟨n, f, hq, hj⟩ := x_arl_of hj
    obtain ⟨hin, hj⟩ := x_in_of hj
    obtain ⟨cA, hat, ho⟩ := x_cellL X hq
    exact x_N2.go hj (Nat.le_refl _) (Nat.le_refl _) fun _ _ kk => W.lald (v := .long (f i.toNatClampNeg)) hx hb hat (ho.1 n (fun j => .long (f j))) (fun q => by cases q) (x_in_arr hin) (by show (arrV _ _ _).slots[_]? = _; rw [arrV_read _ _ (Nat.not_le.mp fun q => hin (Or.inr q))]) rfl rfl hd (kk H locs X)
  -- lastore
  · cases hlen
    obtain ⟨q, i, x, r, rfl, hj⟩ := x_ail_of hi
    obtain ⟨n, f, hq, hj⟩ := x_arl_of hj
    obtain ⟨hin, hj⟩ := x_in_of hj
    obtain ⟨cA, hat, ho⟩ := x_cellL X hq
    exact x_N2.go hj (Nat.le_refl _) (Nat.le_refl _) fun _ _ kk => W.last hx hb hat (ho.1 n (fun j => .long (f j))) (fun q => by cases q) (x_in_arr hin) rfl rfl hd fun H1 e1 z1 o1 => kk H1 _ (x_wrL X hq hat e1 z1 o1)
  -- aaload
  · cases hlen
    obtain ⟨q, i, r, rfl, hj⟩ := x_ai_of hi
    obtain ⟨t, n, f, hq, hj⟩ := x_arq_of hj
    obtain ⟨ht, hj⟩ := x_bif hj
    obtain ⟨hin, hj⟩ := x_in_of hj
    obtain ⟨cA, hat, ho⟩ := x_cellQ X hq
    obtain ⟨C, hC4⟩ := x_ft4' (Nat.le_of_ble_eq_true ht)
    rw [hC4] at ho
    refine x_N2.go hj (Nat.le_refl _) (Nat.le_refl _) fun _ _ kk => ?_
    have := kk H locs X
    rw [List.map_cons, x_cv_rf] at this
    exact W.aald (v := va_rf ((f i.toNatClampNeg).map ad)) (ty := .object C) hx hb hat (ho.1 n (fun j => va_rf ((f j).map ad))) rfl (fun q => by cases q) (x_in_arr hin) (by show (arrV _ _ _).slots[_]? = _; rw [arrV_read _ _ (Nat.not_le.mp fun q => hin (Or.inr q))]) rfl rfl hd this
  -- aastore
  · cases hlen
    obtain ⟨q, i, x, r, rfl, hj⟩ := x_aiq_of hi
    obtain ⟨t, n, f, hq, hj⟩ := x_arq_of hj
    obtain ⟨ci, fs, hv, hj⟩ := x_ob_of hj
    obtain ⟨ht, hj⟩ := x_bif hj
    have ht := Nat.eq_of_beq_eq_true ht
    subst ht
    obtain ⟨hin, hj⟩ := x_in_of hj
    obtain ⟨cA, hat, ho⟩ := x_cellQ X hq
    refine x_N2.go hj (Nat.le_refl _) (Nat.le_refl _) fun _ _ kk => ?_
    obtain ⟨hown, hts, hK, hbase, w, hS⟩ := id X
    obtain ⟨-, -, -, cs, hP, -⟩ := w
    obtain ⟨rc, hrc, cellV, g1, g2, g3, -⟩ := hP x _ (x_cw_get hv)
    rw [x_ft4 hrc] at ho
    have hcls := (hK.1 ci rc hrc).2
    obtain ⟨kA, comp, k1, k2, k3, -⟩ := ho.2
    have hcomp : comp = D.1 ci := Option.some.inj (k3.symm.trans hcls.1)
    subst hcomp
    obtain ⟨kC, hkC, -⟩ := hcls.2
    refine W.aast hx hb hat (fun q h => by cases h) (fun h => by cases h) k1 k2 rfl hkC ⟨fun q => hin (Or.inl q), by show _ < (arrV _ _ _).slots.size; rw [arrV_size]; exact Nat.not_le.mp fun q => hin (Or.inr q)⟩ g1 (fun q h => by rw [g3] at h; cases h) (by rw [g2]; exact hkC) (by rw [g2]; exact va_assign hcls) rfl rfl hd fun H1 e1 z1 o1 => kk H1 _ (x_wrQ X hq hat e1 z1 o1)
  -- arraylength
  · cases hlen
    obtain ⟨q, r, rfl, hj⟩ := x_a1_of hi
    cases hb1 : Nat.beq q x_scr with
    | true =>
      rw [hb1] at hj
      have hqs := Nat.eq_of_beq_eq_true hb1
      subst hqs
      dsimp only [cond] at hj
      split at hj
      · rename_i n f
        obtain ⟨s1, s2, s3⟩ := hSc.1 n f rfl
        exact x_N2.go hj (Nat.le_refl _) (Nat.le_refl _) fun _ _ kk => va_slen hx hb s1 s2 s3 X.2.2.2.2.2 hd (kk H locs X)
      · cases hj
    | false =>
      rw [hb1] at hj
      obtain ⟨t, n, y, hq, hj⟩ := x_ar_of hj
      refine x_N2.go hj (Nat.le_refl _) (Nat.le_refl _) fun _ _ kk => ?_
      obtain f | f | f | f | f := y
      · obtain ⟨cA, hat, ho⟩ := x_cellI X hq
        exact W.alen (n := Int32.ofNat n) hx hb hat (ho.1 n (fun j => .int (f j))) (by show (arrV _ _ _).slots.size.toInt32 = _; rw [arrV_size]) rfl rfl hd (kk H locs X)
      · obtain ⟨cA, hat, ho⟩ := x_cellL X hq
        exact W.alen (n := Int32.ofNat n) hx hb hat (ho.1 n (fun j => .long (f j))) (by show (arrV _ _ _).slots.size.toInt32 = _; rw [arrV_size]) rfl rfl hd (kk H locs X)
      · obtain ⟨cA, hat, ho⟩ := x_cellF X hq
        exact W.alen (n := Int32.ofNat n) hx hb hat (ho.1 n (fun j => .float (f j))) (by show (arrV _ _ _).slots.size.toInt32 = _; rw [arrV_size]) rfl rfl hd (kk H locs X)
      · obtain ⟨cA, hat, ho⟩ := x_cellD X hq
        exact W.alen (n := Int32.ofNat n) hx hb hat (ho.1 n (fun j => .double (f j))) (by show (arrV _ _ _).slots.size.toInt32 = _; rw [arrV_size]) rfl rfl hd (kk H locs X)
      · obtain ⟨cA, hat, ho⟩ := x_cellQ X hq
        exact W.alen (n := Int32.ofNat n) hx hb hat (ho.1 n (fun j => va_rf ((f j).map ad))) (by show (arrV _ _ _).slots.size.toInt32 = _; rw [arrV_size]) rfl rfl hd (kk H locs X)
  -- newarray
  · cases hlen
    obtain ⟨n, r, rfl, hj⟩ := x_i1_of hi
    split at hj
    · cases hj
    · rename_i hnq
      split at hj
      · exact x_N2.go hj (by omega) (by omega) fun h1 h2 kk => x_newa hx hb X hw hnq (by decide) rfl (fun cA => rfl) hd h1 h2 kk
      · exact x_N2.go hj (by omega) (by omega) fun h1 h2 kk => x_newa hx hb X hw hnq (by decide) rfl (fun cA => rfl) hd h1 h2 kk
      · exact x_N2.go hj (by omega) (by omega) fun h1 h2 kk => x_newa hx hb X hw hnq (by decide) rfl (fun cA => rfl) hd h1 h2 kk
      · exact x_N2.go hj (by omega) (by omega) fun h1 h2 kk => x_newa hx hb X hw hnq (by decide) rfl (fun cA => rfl) hd h1 h2 kk
      · cases hj
  -- anewarray
  · cases hlen
    obtain ⟨n, r, rfl, hj⟩ := x_i1_of hi
    split at hj
    · cases hj
    · rename_i hnq
      obtain ⟨C, T, N, hc, hcl, hov⟩ := hw
      exact x_N2.go hj (by omega) (by omega) fun h1 h2 kk => x_newq hx hb X hc hcl hov hnq hd h1 h2 kk
  -- new
  · cases hlen
    split at hi
    · cases hi
    · rename_i hnq
      obtain ⟨C, T, hc, hcl⟩ := hw
      exact x_N2.go hi (by omega) (by omega) fun h1 h2 kk => x_new hC hx hb X hc hcl hnq hd h1 h2 kk
  · cases hi
end XS4
/-! ===== calls: what a method's world is, and String's own methods on constants ===== -/
def x_Rm (R : Room) (d : Nat) : Prop := d + 5 ≤ R.frames ∧ 37 * (d + 5) ≤ R.locals
def x_room (d k z : Nat) : Room := { frames := d + 5, cells := k, slots := z, locals := 37 * (d + 5) }
def x_Pv (base : Nat) (ad : Nat → Nat) (D : va_G) (av : List Value) (h : xH) : Array Value → State → Prop := va_Pc av (fun U => x_W ad base D h U U.heap ∧ va_K D vwCl [] U ∧ x_St U base ad)
def x_Pc (base : Nat) (ad : Nat → Nat) (D : va_G) (vs : List Value) (h : xH) : Array Value → State → Prop := x_Pv base ad D (vs.map (x_cv ad)) h
def x_Qc (base : Nat) (ad : Nat → Nat) (D : va_G) (v : Option Value) (h' : xH) : Array Value → State → Outcome → State → Prop := fun _ st oc t => oc = .returned (v.map (x_cv ad)) ∧ x_W ad base D h' t t.heap ∧ va_F (fun q => base ≤ q) st t
theorem x_Pv_blind {base : Nat} {ad : Nat → Nat} {D : va_G} {av : List Value} {h : xH} : FrameBlind (x_Pv base ad D av h) := by
  intro a U g mk q
  exact ⟨q.1, x_W.moved (u := U) (U := U.calling g mk a) (Vm.Alike.refl U.vm) q.2.1, va_K.moved (u := U) (U := U.calling g mk a) (Vm.Alike.refl U.vm) q.2.2.1, x_St.same (U := U.calling g mk a) rfl rfl q.2.2.2⟩
theorem x_Pc_blind {base : Nat} {ad : Nat → Nat} {D : va_G} {vs : List Value} {h : xH} : FrameBlind (x_Pc base ad D vs h) := x_Pv_blind
section XS6a
variable {p : Program} {l : Launch} {e : Env} {R : Room} {s : State} {m : MethodId} {args : Array Value} {below : List Frame} {meth : Method} {c : Code} {H : Heap} {locs : List Loc} {cells slots : Nat} {Q : State → Prop}
variable {cc : ByteArray} {pc : Nat} {ls : Array Slot} {own : String} {y : MethodName} {ad : Nat → Nat} {nL : Nat} {L : xL} {st rest : List Value} {h : xH} {k z : Nat} {ins : Instr} {len a b base d : Nat} {D : va_G}
/-- behind a call -/
theorem x_cont (X : x_At s m args own D base ad h H locs) {v : Option Value} {h2 : xH} {mc ms : Nat} {a0 : Array Value} {st0 rest0 : List Value} (hr : va_Run p l e R s m args below meth c H locs k z mc ms (F0 m pc ls st0) rest0 (x_Qc base ad D v h2 a0) (fun q => base ≤ q))
    (kk : ∀ (H1 : Heap) (locs1 : List Loc), x_At s m args own D base ad h2 H1 locs1 → W p l e R s m args below meth c H1 locs1 (k + mc) (z + ms) Q (F0 m (pc + 3) ls ((v.map (x_cv ad)).toList ++ rest0))) : W p l e R s m args below meth c H locs k z Q (F0 m pc ls st0) := by
  obtain ⟨hown, hts, hK, hbase, w, hS⟩ := X
  intro T hT X
  obtain ⟨v', st₀, t, T', LL, h0, X', hL, e1, e2, ⟨hv, hw, hz, hk⟩, stp⟩ := hr T hT X
  have hv' : v' = v.map (x_cv ad) := Outcome.returned.inj hv
  subst hv'
  rw [h0] at hz hk
  have hal : s.vm.Alike t.vm := by rw [← e2]; exact X'.warmed.alike
  obtain ⟨t2, a1, b1⟩ := kk T'.heap (locs ++ LL) ⟨hown, hts, hK, hbase, by rw [e1]; exact x_W.moved hal.symm hw, ⟨Nat.le_trans hS.1 (by rw [e1]; exact hz), fun q h1 h2 => by rw [e1, hk q (Nat.lt_of_lt_of_le h1 hS.1) h2]; exact hS.2.1 q h1 h2, fun q hq => by
      rcases List.mem_append.mp hq with h | h
      · exact hS.2.2 q h
      · exact hL q h⟩⟩ T' rfl X'
  exact ⟨t2, stp t2 a1, b1⟩
/-- a contract out of a walk, where no row of the machine's own stands for the method (whatever its class) -/
theorem x_ofW {ws ws' : List Cond} {rm : Room} {Pc : Array Value → State → Prop} {Qc : Array Value → State → Outcome → State → Prop} {mc ms : Nat} {free : Addr → Prop} {maxL : Nat} {ret : Option FieldType} (hy : plainFor y = true) (hw : ws = Cond.code y cc maxL ret :: ws')
    (walk : ∀ (p : Program) (e : Env) (s : State) (m : MethodId) (args : Array Value) (below : List Frame) (meth : Method) (c : Code) (s₁ : State), BodyLoose p l y (headSpec ws rm) cc maxL ret e s m args below meth c s₁ → c.maxLocals = maxL → Pc args s → W p l e (headSpec ws rm).room s m args below meth c s.heap [] 0 0 (MQ below Qc args s mc ms free) (entryFrame m args maxL)) : Met l y ws rm Pc Qc mc ms free := by
  refine MetFree.of_bodySF (code := cc) (maxLocals := maxL) (ret := ret) hy (fun args s m h hn => ?_) (fun p e s m args below meth c s₁ B hml hP _ => ?_)
  · have hin : Cond.code y cc maxL ret ∈ ws := by rw [hw]; exact List.mem_cons_self
    obtain ⟨meth, c, q1, q2, q3, q4, q5, q6, -⟩ := Cond.code_spec hn (atoms_spec (ws := ws) h _ hin)
    exact ⟨meth, c, q1, q2, q3, q4, q5, q6⟩
  · have heq : s₁.heap = s.heap := by rw [B.state]; rfl
    obtain ⟨t, a1, o, b1, b2, b3⟩ := walk p e s m args below meth c s₁ B hml hP s₁ heq (Stand.of_body B)
    exact ⟨t, o, a1, b1, b2, b3.1, b3.2⟩
theorem x_jG {bytes : ByteArray} {maxL : Nat} {ret : Option FieldType} (hM : Cond.code y bytes maxL ret ∈ x_bw) : GoodIn x_bw (Cond.code y bytes maxL ret :: x_bw) := by
  intro w hw
  have h : w ∈ x_bw := by
    rcases List.mem_cons.mp hw with rfl | h
    · exact hM
    · exact h
  exact ⟨h, good_of_word (x_bw_good w h)⟩
def x_jr (f : Nat) : Room := { frames := f, cells := 0, slots := 0, locals := 37 * f }
theorem x_jpre {av : List Value} (X : x_At s m args own D base ad h H locs) (hT : x_St s base ad) : ∀ U : State, U.heap = H → s.WarmedH U.vm → x_Pv base ad D av h av.toArray U := by
  obtain ⟨hown, hts, hK, hbase, w, hS⟩ := X
  exact fun U hU hW => ⟨rfl, by rw [hU]; exact x_W.moved hW.alike w, va_K.moved hW.alike hK, hT.next hU hW hS⟩
/-- a call of a static method of the JDK -/
theorem x_jcS {i n f maxL : Nat} {bytes : ByteArray} {ret : Option FieldType} {av : List Value} {v : Option Value} (X : x_At s m args own D base ad h H locs) (hT : x_St s base ad) (hx : p.tables.exec = Jvm.exec) (hb : c.code = cc) (hml : c.maxLocals = nL) (hsz : ls.size = nL)
    (met : Met l y (Cond.code y bytes maxL ret :: x_bw) (x_jr f) (x_Pv base ad D av h) (x_Qc base ad D v h) 0 0 (fun q => base ≤ q)) (hcode : Cond.code y bytes maxL ret ∈ x_bw) (hini : Cond.initialized y.cls ∈ x_bw) (hlink : Cond.methodLink own i y ∈ x_bw) (hstat : Cond.static y ∈ x_bw)
    (hd3 : y.cls ≠ "java/lang/invoke/MethodHandle" ∧ y.cls ≠ "java/lang/invoke/VarHandle" ∧ (parseMethodDescriptor y.desc).map (fun d => d.parameters.length) = some n) (hroom : f + 1 ≤ R.frames ∧ 8 + (maxL + 11) + 37 * f ≤ R.locals) (hcells : k ≤ R.cells ∧ z ≤ R.slots) (hn : av.length = n) (h8 : (rest.map fun v => v.category).sum ≤ 8) (hdi : decode cc pc = .ok (.invokestatic i, 3))
    (kk : ∀ (H1 : Heap) (locs1 : List Loc), x_At s m args own D base ad h H1 locs1 → W p l e R s m args below meth c H1 locs1 k z Q (F0 m (pc + 3) ls ((v.map (x_cv ad)).toList ++ rest))) : W p l e R s m args below meth c H locs k z Q (F0 m pc ls (av.reverse ++ rest)) := by
  have hts := X.2.1
  have cb := callB_of (R := R) (s := s) (args := args) (own := own) (index := i) (y := y) (bytes := bytes) (maxL := maxL) (ret := ret) (ws := Cond.code y bytes maxL ret :: x_bw) (rm := x_jr f) (mc := 0) (ms := 0) n hts (x_jG hcode) rfl rfl rfl (hts _ hini) (hts _ hlink) hd3 hroom
  exact x_cont X (va_runS (As := av) (rest := rest) ⟨hx, hb, hml, X.1, hts⟩ met ⟨cb, hts _ hstat⟩ ⟨x_Pv_blind, x_jpre X hT⟩ rfl hn hsz rfl (lv_room h8) hdi hcells) kk
/-- a call of a method of String on a constant -/
theorem x_jcV {i n f maxL q : Nat} {bytes : ByteArray} {ret : Option FieldType} {av : List Value} {v : Option Value} (X : x_At s m args own D base ad h H locs) (hT : x_St s base ad) (hx : p.tables.exec = Jvm.exec) (hb : c.code = cc) (hml : c.maxLocals = nL) (hsz : ls.size = nL) (hq : ∃ cell : Cell, H[q]? = some cell ∧ cell.vm.isStatics = false ∧ s.vm.findClass y.cls = some cell.cls)
    (met : Met l y (Cond.code y bytes maxL ret :: x_bw) (x_jr f) (x_Pv base ad D (.ref q :: av) h) (x_Qc base ad D v h) 0 0 (fun q => base ≤ q)) (hcode : Cond.code y bytes maxL ret ∈ x_bw) (hini : Cond.initialized y.cls ∈ x_bw) (hlink : Cond.methodLink own i y ∈ x_bw) (hinst : Cond.instanceMethod y ∈ x_bw) (hsel : Cond.selects y.cls y y ∈ x_bw)
    (hd3 : y.cls ≠ "java/lang/invoke/MethodHandle" ∧ y.cls ≠ "java/lang/invoke/VarHandle" ∧ (parseMethodDescriptor y.desc).map (fun d => d.parameters.length) = some n) (hroom : f + 1 ≤ R.frames ∧ 8 + (maxL + 11) + 37 * f ≤ R.locals) (hcells : k ≤ R.cells ∧ z ≤ R.slots) (hn : av.length = n) (h8 : (rest.map fun v => v.category).sum ≤ 8) (hdi : decode cc pc = .ok (.invokevirtual i, 3))
    (kk : ∀ (H1 : Heap) (locs1 : List Loc), x_At s m args own D base ad h H1 locs1 → W p l e R s m args below meth c H1 locs1 k z Q (F0 m (pc + 3) ls ((v.map (x_cv ad)).toList ++ rest))) : W p l e R s m args below meth c H locs k z Q (F0 m pc ls (av.reverse ++ .ref q :: rest)) := by
  have hts := X.2.1
  have cb := callB_of (R := R) (s := s) (args := args) (own := own) (index := i) (y := y) (bytes := bytes) (maxL := maxL) (ret := ret) (ws := Cond.code y bytes maxL ret :: x_bw) (rm := x_jr f) (mc := 0) (ms := 0) n hts (x_jG hcode) rfl rfl rfl (hts _ hini) (hts _ hlink) hd3 hroom
  exact x_cont X (va_runV (As := av) (rest := rest) ⟨hx, hb, hml, X.1, hts⟩ met ⟨cb, hts _ hinst, hts _ hsel⟩ ⟨x_Pv_blind, hq, x_jpre X hT⟩ rfl hn hsz rfl (lv_room h8) hdi hcells) kk
/-- the beginning of a method of the JDK -/
theorem x_jb {f maxL : Nat} {bytes : ByteArray} {ret : Option FieldType} {av : List Value} {v : Option Value} (hy : plainFor y = true) (hcat : (lg_sl av).length ≤ maxL)
    (walk : ∀ (p : Program) (e : Env) (s : State) (m : MethodId) (args : Array Value) (below : List Frame) (meth : Method) (c : Code) (ls : Array Slot), p.tables.exec = Jvm.exec → c.code = bytes → c.maxLocals = maxL → meth.sig.returnType = ret → meth.locks = false → x_At s m args y.cls D base ad h s.heap [] → x_St s base ad → lv_has ls maxL (lv_args 0 av) → W p l e (x_jr f) s m args below meth c s.heap [] 0 0 (MQ below (x_Qc base ad D v h) args s 0 0 (fun q => base ≤ q)) (F0 m 0 ls [])) : Met l y (Cond.code y bytes maxL ret :: x_bw) (x_jr f) (x_Pv base ad D av h) (x_Qc base ad D v h) 0 0 (fun q => base ≤ q) := by
  refine x_ofW hy rfl ?_
  intro p e s m args below meth c s₁ B hml hv
  obtain ⟨rfl, hW, hK, hT⟩ := hv
  have hts := atoms_spec (ws := Cond.code y bytes maxL ret :: x_bw) B.pre
  have hl := lv_entry av (n := maxL) hcat
  rw [lg_entry_eq]
  generalize (lg_sl av ++ List.replicate (maxL - (lg_sl av).length) Slot.unset).toArray = ls at hl ⊢
  have hbase : base ≤ s.heap.size := by have := hW.2.2.1; omega
  exact walk p e s m _ below meth c ls B.exec B.bytes hml B.returns B.notSynchronized ⟨findClass_of_methodNamed B.named, fun w hw => hts w (List.mem_cons_of_mem _ hw), hK, hbase, hW, va_S.rf⟩ hT hl
theorem x_jfin {v : Option Value} (X : x_At s m args own D base ad h H locs) : ∀ t : State, t.heap = H → s.WarmedH t.vm → x_Qc base ad D v h args s (.returned (v.map (x_cv ad))) t := by
  obtain ⟨hown, hts, hK, hbase, w, hS⟩ := X
  exact fun t ht hW => ⟨rfl, by rw [ht]; exact x_W.moved hW.alike w, hS.F ht⟩
def x_jl : List Cond := [
  .code yJ0_coder_7d493 cJ0_coder_7d493 1 (some .byte), .instanceMethod yJ0_coder_7d493, .selects RJ0 yJ0_coder_7d493 yJ0_coder_7d493, .methodLink RJ0 335 yJ0_coder_7d493,
  .code yJ0_isLatin1_aae02 cJ0_isLatin1_aae02 1 (some .boolean), .instanceMethod yJ0_isLatin1_aae02, .selects RJ0 yJ0_isLatin1_aae02 yJ0_isLatin1_aae02, .methodLink RJ0 492 yJ0_isLatin1_aae02,
  .code yJ0_length_8abf5 cJ0_length_8abf5 1 (some .int), .instanceMethod yJ0_length_8abf5, .selects RJ0 yJ0_length_8abf5 yJ0_length_8abf5,
  .code yJ0_charAt_5068e cJ0_charAt_5068e 2 (some .char), .instanceMethod yJ0_charAt_5068e, .selects RJ0 yJ0_charAt_5068e yJ0_charAt_5068e,
  .code yJ0_checkIndex_df160 cJ0_checkIndex_df160 2 none, .static yJ0_checkIndex_df160, .methodLink RJ1 9 yJ0_checkIndex_df160,
  .code yJ1_charAt_3b067 cJ1_charAt_3b067 2 (some .char), .static yJ1_charAt_3b067, .methodLink RJ0 495 yJ1_charAt_3b067,
  .code yJ3_checkIndex_8e157 cJ3_checkIndex_8e157 3 (some .int), .static yJ3_checkIndex_8e157, .methodLink RJ0 1059 yJ3_checkIndex_8e157,
  .initialized RJ0, .initialized RJ1, .initialized RJ3,
  .fieldLink RJ0 9 "java/lang/String" "value" "[B", .fieldLink RJ0 15 "java/lang/String" "coder" "B", .fieldLink RJ0 38 "java/lang/String" "COMPACT_STRINGS" "Z", .fieldLink RJ0 1053 "jdk/internal/util/Preconditions" "SIOOBE_FORMATTER" "Ljava/util/function/BiFunction;"]
def x_JW : Prop := ∀ w ∈ x_jl, w ∈ x_bw
theorem x_jw (hJ : x_JW) {w : Cond} (j : Nat) (e : x_jl[j]? = some w) : w ∈ x_bw := hJ w (List.mem_of_getElem? e)
theorem x_jmem {l : List Int32} {k : Nat} (h : k < l.length) : l.getD k 0 ∈ l := by
  rw [List.getD_eq_getElem?_getD, List.getElem?_eq_getElem h]
  exact List.getElem_mem h
theorem x_jsh : ∀ j : Nat, j < x_sbyt.length → (Int32.ofNat (x_sbyt.getD j []).length) >>> ((0 : Int32) &&& 31) = Int32.ofNat (x_sbyt.getD j []).length := by decide +kernel
theorem x_jlen : ∀ j : Nat, j < x_sbyt.length → (x_sbyt.getD j []).length < 2 ^ 31 := by decide +kernel
theorem x_jch : ∀ j : Nat, j < x_sbyt.length → ∀ b ∈ x_sbyt.getD j [], ((b &&& (255 : Int32)).toUInt32 % 65536).toInt32 = b ∧ narrow .char (.int b) = .int b := by decide +kernel
set_option maxHeartbeats 4000000 in
theorem x_jcoder (hJ : x_JW) {j : Nat} (hj : j < x_sbyt.length) : Met l yJ0_coder_7d493 (Cond.code yJ0_coder_7d493 cJ0_coder_7d493 1 (some .byte) :: x_bw) (x_jr 0) (x_Pv base ad D [.ref (ad (x_str + j))] h) (x_Qc base ad D (some (.int 0)) h) 0 0 (fun q => base ≤ q) := by
  refine x_jb (by decide +kernel) (Nat.le_of_ble_eq_true rfl) ?_
  intro p e s m args below meth c ls hx hb hml hr hlk X hT hl
  obtain ⟨hown, hts, hK, hbase, w, hS⟩ := id X
  obtain ⟨hV, hZ, hq, -⟩ := id hT
  obtain ⟨o1, o2, o3, o4⟩ := hV j hj
  refine va_gets hx hb hZ hS hown (hts _ (x_jw hJ 28 rfl)) (fun _ h => h) (show decode cJ0_coder_7d493 0 = .ok (.getstatic 38, 3) by decide +kernel) ?_
  refine lv_if_eq hx hb (tgt := 13) (show decode cJ0_coder_7d493 3 = .ok (.ifCond .eq 10, 3) by decide +kernel) rfl (fun h => absurd h (by decide)) (fun _ => ?_)
  refine lv_aload_n hx hb (show decode cJ0_coder_7d493 6 = .ok (.aload_n 0, 1) by decide +kernel) rfl (lv_at hl 0 rfl) ?_
  refine vk_getf hx hb o2 hS hown (hts _ (x_jw hJ 27 rfl)) (fun _ h => h) (show decode cJ0_coder_7d493 7 = .ok (.getfield 15, 3) by decide +kernel) ?_
  refine lv_goto hx hb (tgt := 14) (show decode cJ0_coder_7d493 10 = .ok (.goto 4, 3) by decide +kernel) rfl ?_
  exact W.zret hx hb hr (ty := .byte) (by decide) (x_jfin (v := some (.int 0)) X) hS.2.2 (show decode cJ0_coder_7d493 14 = .ok (.ireturn, 1) by decide +kernel) hlk
set_option maxHeartbeats 4000000 in
theorem x_jlatin (hJ : x_JW) {j : Nat} (hj : j < x_sbyt.length) : Met l yJ0_isLatin1_aae02 (Cond.code yJ0_isLatin1_aae02 cJ0_isLatin1_aae02 1 (some .boolean) :: x_bw) (x_jr 0) (x_Pv base ad D [.ref (ad (x_str + j))] h) (x_Qc base ad D (some (.int 1)) h) 0 0 (fun q => base ≤ q) := by
  refine x_jb (by decide +kernel) (Nat.le_of_ble_eq_true rfl) ?_
  intro p e s m args below meth c ls hx hb hml hr hlk X hT hl
  obtain ⟨hown, hts, hK, hbase, w, hS⟩ := id X
  obtain ⟨hV, hZ, hq, -⟩ := id hT
  obtain ⟨o1, o2, o3, o4⟩ := hV j hj
  refine va_gets hx hb hZ hS hown (hts _ (x_jw hJ 28 rfl)) (fun _ h => h) (show decode cJ0_isLatin1_aae02 0 = .ok (.getstatic 38, 3) by decide +kernel) ?_
  refine lv_if_eq hx hb (tgt := 17) (show decode cJ0_isLatin1_aae02 3 = .ok (.ifCond .eq 14, 3) by decide +kernel) rfl (fun h => absurd h (by decide)) (fun _ => ?_)
  refine lv_aload_n hx hb (show decode cJ0_isLatin1_aae02 6 = .ok (.aload_n 0, 1) by decide +kernel) rfl (lv_at hl 0 rfl) ?_
  refine vk_getf hx hb o2 hS hown (hts _ (x_jw hJ 27 rfl)) (fun _ h => h) (show decode cJ0_isLatin1_aae02 7 = .ok (.getfield 15, 3) by decide +kernel) ?_
  refine lv_if_ne hx hb (tgt := 17) (show decode cJ0_isLatin1_aae02 10 = .ok (.ifCond .ne 7, 3) by decide +kernel) rfl (fun h => absurd rfl h) (fun _ => ?_)
  refine lv_iconst (v := 1) hx hb (show decode cJ0_isLatin1_aae02 13 = .ok (.iconst 1, 1) by decide +kernel) (by decide) ?_
  refine lv_goto hx hb (tgt := 18) (show decode cJ0_isLatin1_aae02 14 = .ok (.goto 4, 3) by decide +kernel) rfl ?_
  exact W.zret hx hb hr (ty := .boolean) (by decide) (x_jfin (v := some (.int 1)) X) hS.2.2 (show decode cJ0_isLatin1_aae02 18 = .ok (.ireturn, 1) by decide +kernel) hlk
theorem x_jrecv (X : x_At s m args own D base ad h H locs) (hT : x_St s base ad) {j : Nat} (hj : j < x_sbyt.length) : ∃ cell : Cell, H[ad (x_str + j)]? = some cell ∧ cell.vm.isStatics = false ∧ s.vm.findClass "java/lang/String" = some cell.cls := by
  obtain ⟨cell, h1, h2, h3, -⟩ := (hT.1 j hj).1.kept X.2.2.2.2.2.2.1
  exact ⟨cell, h1, h2, h3⟩
set_option maxHeartbeats 4000000 in
theorem x_jlength (hJ : x_JW) {j : Nat} (hj : j < x_sbyt.length) : Met l yJ0_length_8abf5 (Cond.code yJ0_length_8abf5 cJ0_length_8abf5 1 (some .int) :: x_bw) (x_jr 1) (x_Pv base ad D [.ref (ad (x_str + j))] h) (x_Qc base ad D (some (.int (Int32.ofNat (x_sbyt.getD j []).length))) h) 0 0 (fun q => base ≤ q) := by
  refine x_jb (by decide +kernel) (Nat.le_of_ble_eq_true rfl) ?_
  intro p e s m args below meth c ls hx hb hml hr hlk X hT hl
  obtain ⟨hown, hts, hK, hbase, w, hS⟩ := id X
  obtain ⟨hV, hZ, hq, -⟩ := id hT
  obtain ⟨o1, o2, o3, o4⟩ := hV j hj
  refine lv_aload_n hx hb (show decode cJ0_length_8abf5 0 = .ok (.aload_n 0, 1) by decide +kernel) rfl (lv_at hl 0 rfl) ?_
  refine vk_getf hx hb o3 hS hown (hts _ (x_jw hJ 26 rfl)) (fun _ h => h) (show decode cJ0_length_8abf5 1 = .ok (.getfield 9, 3) by decide +kernel) ?_
  refine va_tlen hx hb o4 hS (v := Int32.ofNat (x_sbyt.getD j []).length) rfl (show decode cJ0_length_8abf5 4 = .ok (.arraylength, 1) by decide +kernel) ?_
  refine lv_aload_n hx hb (show decode cJ0_length_8abf5 5 = .ok (.aload_n 0, 1) by decide +kernel) rfl (lv_at hl 0 rfl) ?_
  refine x_jcV (n := 0) (i := 335) (y := yJ0_coder_7d493) (av := []) (v := some (.int 0)) X hT hx hb hml hl.1 (x_jrecv X hT hj) (x_jcoder hJ hj) (x_jw hJ 0 rfl) (x_jw hJ 23 rfl) (x_jw hJ 3 rfl) (x_jw hJ 1 rfl) (x_jw hJ 2 rfl) ⟨by decide +kernel, by decide +kernel, by decide +kernel⟩ ⟨Nat.le_refl _, by decide⟩ ⟨Nat.le_refl _, Nat.le_refl _⟩ rfl (by show 1 ≤ 8; decide) (show decode cJ0_length_8abf5 6 = .ok (.invokevirtual 335, 3) by decide +kernel) (fun H1 locs1 X1 => ?_)
  refine lv_ishr hx hb (x := Int32.ofNat (x_sbyt.getD j []).length) (y := 0) (show decode cJ0_length_8abf5 9 = .ok (.ishr, 1) by decide +kernel) ?_
  rw [x_jsh j hj]
  exact W.iret hx hb hr (x_jfin (v := some (.int (Int32.ofNat (x_sbyt.getD j []).length))) X1) X1.2.2.2.2.2.2.2 (show decode cJ0_length_8abf5 10 = .ok (.ireturn, 1) by decide +kernel) hlk
set_option maxHeartbeats 4000000 in
theorem x_jpcheck (hJ : x_JW) {i n : Int32} (h0 : ¬ i < 0) (hn : i < n) {u : Value} (hu : u.category = 1) : Met l yJ3_checkIndex_8e157 (Cond.code yJ3_checkIndex_8e157 cJ3_checkIndex_8e157 3 (some .int) :: x_bw) (x_jr 0) (x_Pv base ad D [.int i, .int n, u] h) (x_Qc base ad D (some (.int i)) h) 0 0 (fun q => base ≤ q) := by
  refine x_jb (by decide +kernel) (by simp [lg_sl, hu, show ∀ q : Int32, (Value.int q).category = 1 from fun _ => rfl]) ?_
  intro p e s m args below meth c ls hx hb hml hr hlk X hT hl
  obtain ⟨hown, hts, hK, hbase, w, hS⟩ := id X
  have l0 : ls[0]? = some (.val (.int i)) := lv_at hl 0 rfl
  have l1 : ls[1]? = some (.val (.int n)) := lv_at hl 1 rfl
  refine lv_iload_n hx hb (show decode cJ3_checkIndex_8e157 0 = .ok (.iload_n 0, 1) by decide +kernel) rfl l0 ?_
  refine lv_if_lt hx hb (tgt := 9) (show decode cJ3_checkIndex_8e157 1 = .ok (.ifCond .lt 8, 3) by decide +kernel) rfl (fun h => absurd h h0) (fun _ => ?_)
  refine lv_iload_n hx hb (show decode cJ3_checkIndex_8e157 4 = .ok (.iload_n 0, 1) by decide +kernel) rfl l0 ?_
  refine lv_iload_n hx hb (show decode cJ3_checkIndex_8e157 5 = .ok (.iload_n 1, 1) by decide +kernel) rfl l1 ?_
  refine lv_icmp_lt hx hb (tgt := 16) (show decode cJ3_checkIndex_8e157 6 = .ok (.if_icmp .lt 10, 3) by decide +kernel) rfl (fun _ => ?_) (fun h => absurd hn h)
  refine lv_iload_n hx hb (show decode cJ3_checkIndex_8e157 16 = .ok (.iload_n 0, 1) by decide +kernel) rfl l0 ?_
  exact W.iret hx hb hr (x_jfin (v := some (.int i)) X) hS.2.2 (show decode cJ3_checkIndex_8e157 17 = .ok (.ireturn, 1) by decide +kernel) hlk
set_option maxHeartbeats 4000000 in
theorem x_jscheck (hJ : x_JW) {i n : Int32} (h0 : ¬ i < 0) (hn : i < n) : Met l yJ0_checkIndex_df160 (Cond.code yJ0_checkIndex_df160 cJ0_checkIndex_df160 2 none :: x_bw) (x_jr 1) (x_Pv base ad D [.int i, .int n] h) (x_Qc base ad D none h) 0 0 (fun q => base ≤ q) := by
  refine x_jb (by decide +kernel) (Nat.le_of_ble_eq_true rfl) ?_
  intro p e s m args below meth c ls hx hb hml hr hlk X hT hl
  obtain ⟨hown, hts, hK, hbase, w, hS⟩ := id X
  obtain ⟨hV, hZ, hq, -⟩ := id hT
  refine lv_iload_n hx hb (show decode cJ0_checkIndex_df160 0 = .ok (.iload_n 0, 1) by decide +kernel) rfl (lv_at hl 0 rfl) ?_
  refine lv_iload_n hx hb (show decode cJ0_checkIndex_df160 1 = .ok (.iload_n 1, 1) by decide +kernel) rfl (lv_at hl 1 rfl) ?_
  have go : ∀ u : Value, u.category = 1 → W p l e (x_jr 1) s m args below meth c s.heap [] 0 0 (MQ below (x_Qc base ad D none h) args s 0 0 (fun q => base ≤ q)) (F0 m 5 ls [u, .int n, .int i]) := by
    intro u hu
    refine x_jcS (n := 3) (i := 1059) (y := yJ3_checkIndex_8e157) (av := [.int i, .int n, u]) (rest := []) (v := some (.int i)) X hT hx hb hml hl.1 (x_jpcheck hJ h0 hn hu) (x_jw hJ 20 rfl) (x_jw hJ 25 rfl) (x_jw hJ 22 rfl) (x_jw hJ 21 rfl) ⟨by decide +kernel, by decide +kernel, by decide +kernel⟩ ⟨Nat.le_refl _, by decide⟩ ⟨Nat.le_refl _, Nat.le_refl _⟩ rfl (by decide) (show decode cJ0_checkIndex_df160 5 = .ok (.invokestatic 1059, 3) by decide +kernel) (fun H1 locs1 X1 => ?_)
    refine lv_pop hx hb (va := .int i) (show decode cJ0_checkIndex_df160 8 = .ok (.pop, 1) by decide +kernel) rfl ?_
    exact W.vret hx hb hr (x_jfin (v := none) X1) X1.2.2.2.2.2.2.2 (show decode cJ0_checkIndex_df160 9 = .ok (.return_, 1) by decide +kernel) hlk
  rcases hq with hz | ⟨t, hz⟩
  · exact va_gets hx hb hz hS hown (hts _ (x_jw hJ 29 rfl)) (fun _ h => h) (show decode cJ0_checkIndex_df160 2 = .ok (.getstatic 1053, 3) by decide +kernel) (go _ rfl)
  · exact va_gets hx hb hz hS hown (hts _ (x_jw hJ 29 rfl)) (fun _ h => h) (show decode cJ0_checkIndex_df160 2 = .ok (.getstatic 1053, 3) by decide +kernel) (go _ rfl)
set_option maxHeartbeats 4000000 in
theorem x_jlchar (hJ : x_JW) {j : Nat} (hj : j < x_sbyt.length) {i : Int32} (hi : vp_in i (x_sbyt.getD j []).length) : Met l yJ1_charAt_3b067 (Cond.code yJ1_charAt_3b067 cJ1_charAt_3b067 2 (some .char) :: x_bw) (x_jr 2) (x_Pv base ad D [.ref (ad (x_val + j)), .int i] h) (x_Qc base ad D (some (.int ((x_sbyt.getD j []).getD i.toNatClampNeg 0))) h) 0 0 (fun q => base ≤ q) := by
  refine x_jb (by decide +kernel) (Nat.le_of_ble_eq_true rfl) ?_
  intro p e s m args below meth c ls hx hb hml hr hlk X hT hl
  obtain ⟨hown, hts, hK, hbase, w, hS⟩ := id X
  obtain ⟨hV, hZ, hq, -⟩ := id hT
  obtain ⟨o1, o2, o3, o4⟩ := hV j hj
  have hlen := x_jlen j hj
  obtain ⟨q, hq1, hq2⟩ := vp_in_of hi hlen
  have h0 : ¬ i < 0 := fun z => hi (Or.inl z)
  have hlt : i < Int32.ofNat (x_sbyt.getD j []).length := by rw [hq2]; exact nI_lt hq1 hlen
  refine lv_iload_n hx hb (show decode cJ1_charAt_3b067 0 = .ok (.iload_n 1, 1) by decide +kernel) rfl (lv_at hl 1 rfl) ?_
  refine lv_aload_n hx hb (show decode cJ1_charAt_3b067 1 = .ok (.aload_n 0, 1) by decide +kernel) rfl (lv_at hl 0 rfl) ?_
  refine va_tlen hx hb o4 hS (v := Int32.ofNat (x_sbyt.getD j []).length) rfl (show decode cJ1_charAt_3b067 2 = .ok (.arraylength, 1) by decide +kernel) ?_
  refine x_jcS (n := 2) (i := 9) (y := yJ0_checkIndex_df160) (av := [.int i, .int (Int32.ofNat (x_sbyt.getD j []).length)]) (rest := []) (v := none) X hT hx hb hml hl.1 (x_jscheck hJ h0 hlt) (x_jw hJ 14 rfl) (x_jw hJ 23 rfl) (x_jw hJ 16 rfl) (x_jw hJ 15 rfl) ⟨by decide +kernel, by decide +kernel, by decide +kernel⟩ ⟨Nat.le_refl _, by decide⟩ ⟨Nat.le_refl _, Nat.le_refl _⟩ rfl (by decide) (show decode cJ1_charAt_3b067 3 = .ok (.invokestatic 9, 3) by decide +kernel) (fun H1 locs1 X1 => ?_)
  have hS1 := X1.2.2.2.2.2
  refine lv_aload_n hx hb (show decode cJ1_charAt_3b067 6 = .ok (.aload_n 0, 1) by decide +kernel) rfl (lv_at hl 0 rfl) ?_
  refine lv_iload_n hx hb (show decode cJ1_charAt_3b067 7 = .ok (.iload_n 1, 1) by decide +kernel) rfl (lv_at hl 1 rfl) ?_
  refine va_tb hx hb o4 hS1 hi (v := .int ((x_sbyt.getD j []).getD i.toNatClampNeg 0)) rfl (show decode cJ1_charAt_3b067 8 = .ok (.baload, 1) by decide +kernel) ?_
  refine lv_sipush (v := 255) hx hb (show decode cJ1_charAt_3b067 9 = .ok (.sipush 255, 3) by decide +kernel) (by decide) ?_
  refine lv_iand hx hb (show decode cJ1_charAt_3b067 12 = .ok (.iand, 1) by decide +kernel) ?_
  have hmem : (x_sbyt.getD j []).getD i.toNatClampNeg 0 ∈ x_sbyt.getD j [] := by
    have hz : i.toNatClampNeg < (x_sbyt.getD j []).length := by rw [hq2, nI_clamp (by omega)]; exact hq1
    exact x_jmem hz
  obtain ⟨g1, g2⟩ := x_jch j hj _ hmem
  refine lv_i2c hx hb (v := (x_sbyt.getD j []).getD i.toNatClampNeg 0) (show decode cJ1_charAt_3b067 13 = .ok (.i2c, 1) by decide +kernel) g1 ?_
  exact W.zret hx hb hr (ty := .char) g2 (x_jfin (v := some (.int ((x_sbyt.getD j []).getD i.toNatClampNeg 0))) X1) hS1.2.2 (show decode cJ1_charAt_3b067 14 = .ok (.ireturn, 1) by decide +kernel) hlk
set_option maxHeartbeats 4000000 in
theorem x_jcharAt (hJ : x_JW) {j : Nat} (hj : j < x_sbyt.length) {i : Int32} (hi : vp_in i (x_sbyt.getD j []).length) : Met l yJ0_charAt_5068e (Cond.code yJ0_charAt_5068e cJ0_charAt_5068e 2 (some .char) :: x_bw) (x_jr 3) (x_Pv base ad D [.ref (ad (x_str + j)), .int i] h) (x_Qc base ad D (some (.int ((x_sbyt.getD j []).getD i.toNatClampNeg 0))) h) 0 0 (fun q => base ≤ q) := by
  refine x_jb (by decide +kernel) (Nat.le_of_ble_eq_true rfl) ?_
  intro p e s m args below meth c ls hx hb hml hr hlk X hT hl
  obtain ⟨hown, hts, hK, hbase, w, hS⟩ := id X
  obtain ⟨hV, hZ, hq, -⟩ := id hT
  obtain ⟨o1, o2, o3, o4⟩ := hV j hj
  refine lv_aload_n hx hb (show decode cJ0_charAt_5068e 0 = .ok (.aload_n 0, 1) by decide +kernel) rfl (lv_at hl 0 rfl) ?_
  refine x_jcV (n := 0) (i := 492) (y := yJ0_isLatin1_aae02) (av := []) (rest := []) (v := some (.int 1)) X hT hx hb hml hl.1 (x_jrecv X hT hj) (x_jlatin hJ hj) (x_jw hJ 4 rfl) (x_jw hJ 23 rfl) (x_jw hJ 7 rfl) (x_jw hJ 5 rfl) (x_jw hJ 6 rfl) ⟨by decide +kernel, by decide +kernel, by decide +kernel⟩ ⟨by decide, by decide⟩ ⟨Nat.le_refl _, Nat.le_refl _⟩ rfl (by decide) (show decode cJ0_charAt_5068e 1 = .ok (.invokevirtual 492, 3) by decide +kernel) (fun H1 locs1 X1 => ?_)
  have hS1 := X1.2.2.2.2.2
  refine lv_if_eq hx hb (x := 1) (tgt := 16) (show decode cJ0_charAt_5068e 4 = .ok (.ifCond .eq 12, 3) by decide +kernel) rfl (fun h => absurd h (by decide)) (fun _ => ?_)
  refine lv_aload_n hx hb (show decode cJ0_charAt_5068e 7 = .ok (.aload_n 0, 1) by decide +kernel) rfl (lv_at hl 0 rfl) ?_
  refine vk_getf hx hb o3 hS1 hown (hts _ (x_jw hJ 26 rfl)) (fun _ h => h) (show decode cJ0_charAt_5068e 8 = .ok (.getfield 9, 3) by decide +kernel) ?_
  refine lv_iload_n hx hb (show decode cJ0_charAt_5068e 11 = .ok (.iload_n 1, 1) by decide +kernel) rfl (lv_at hl 1 rfl) ?_
  refine x_jcS (n := 2) (i := 495) (y := yJ1_charAt_3b067) (av := [.ref (ad (x_val + j)), .int i]) (rest := []) (v := some (.int ((x_sbyt.getD j []).getD i.toNatClampNeg 0))) X1 hT hx hb hml hl.1 (x_jlchar hJ hj hi) (x_jw hJ 17 rfl) (x_jw hJ 24 rfl) (x_jw hJ 19 rfl) (x_jw hJ 18 rfl) ⟨by decide +kernel, by decide +kernel, by decide +kernel⟩ ⟨by decide, by decide⟩ ⟨Nat.le_refl _, Nat.le_refl _⟩ rfl (by decide) (show decode cJ0_charAt_5068e 12 = .ok (.invokestatic 495, 3) by decide +kernel) (fun H2 locs2 X2 => ?_)
  obtain ⟨b, hb1, g2⟩ : ∃ b : Int32, (x_sbyt.getD j []).getD i.toNatClampNeg 0 = b ∧ narrow .char (.int b) = .int b := by
    have hlen := x_jlen j hj
    obtain ⟨q, hq1, hq2⟩ := vp_in_of hi hlen
    have hz : i.toNatClampNeg < (x_sbyt.getD j []).length := by rw [hq2, nI_clamp (by omega)]; exact hq1
    refine ⟨_, rfl, (x_jch j hj _ ?_).2⟩
    exact x_jmem hz
  exact W.zret hx hb hr (ty := .char) (by rw [hb1]; exact g2) (x_jfin (v := some (.int ((x_sbyt.getD j []).getD i.toNatClampNeg 0))) X2) X2.2.2.2.2.2.2.2 (show decode cJ0_charAt_5068e 15 = .ok (.ireturn, 1) by decide +kernel) hlk
end XS6a
/-! ===== soundness: calls, and the walk of a whole method ===== -/
def x_okK (own : String) (i a b : Nat) (mt : List xM) (sp : Bool) (st : Bool) : Prop := ∃ M : xM, mt[a]? = some M ∧ Cond.methodLink own i (x_nm M) ∈ x_bw ∧ x_sta M = st ∧ (sp = true → (x_nm M).name = "<init>" ∧ x_rt M = none) ∧ (sp = false → (x_nm M).name ≠ "<init>") ∧ (parseMethodDescriptor (x_nm M).desc).map (fun d => d.parameters.length) = some b
def x_ok3 (own : String) (mt : List xM) (ins : Instr) (a b : Nat) : Prop := match ins with
  | .invokespecial i => (a = 9000 ∧ Cond.methodLink own i Lib.objectInit ∈ x_bw ∧ Cond.instanceMethod Lib.objectInit ∈ x_bw ∧ Cond.code Lib.objectInit ⟨#[0xb1]⟩ 1 none ∈ x_bw) ∨ (a < 9000 ∧ x_okK own i a b mt true false)
  | .invokevirtual i => (a = 9006 ∧ x_JW ∧ Cond.methodLink own i yJ0_length_8abf5 ∈ x_bw) ∨ (a = 9007 ∧ x_JW ∧ Cond.methodLink own i yJ0_charAt_5068e ∈ x_bw) ∨ (a < 9000 ∧ x_okK own i a b mt false false)
  | .invokestatic i => (a = 9001 ∧ Cond.methodLink own i Lib.Math.max.name ∈ x_bw ∧ Cond.static Lib.Math.max.name ∈ x_bw ∧ Cond.initialized "java/lang/Math" ∈ x_bw ∧ Cond.code Lib.Math.max.name Lib.Math.max.code 2 (some .int) ∈ x_bw)
      ∨ (a = 9002 ∧ Cond.methodLink own i Lib.Math.min.name ∈ x_bw ∧ Cond.static Lib.Math.min.name ∈ x_bw ∧ Cond.initialized "java/lang/Math" ∈ x_bw ∧ Cond.code Lib.Math.min.name Lib.Math.min.code 2 (some .int) ∈ x_bw)
      ∨ (a = 9003 ∧ Cond.methodLink own i Lib.Math.abs.name ∈ x_bw ∧ Cond.static Lib.Math.abs.name ∈ x_bw ∧ Cond.initialized "java/lang/Math" ∈ x_bw ∧ Cond.code Lib.Math.abs.name Lib.Math.abs.code 1 (some .int) ∈ x_bw)
      ∨ ((a = 9004 ∨ a = 9005) ∧ Cond.methodLink own i arraycopyName ∈ x_bw ∧ Cond.native arraycopyName ∈ x_bw ∧ Cond.static arraycopyName ∈ x_bw ∧ Cond.initialized "java/lang/System" ∈ x_bw)
      ∨ (a < 9000 ∧ x_okK own i a b mt false true)
  | _ => True
section XS5
variable {p : Program} {l : Launch} {e : Env} {R : Room} {s : State} {m : MethodId} {args : Array Value} {below : List Frame} {meth : Method} {c : Code} {H : Heap} {locs : List Loc} {cells slots : Nat} {Q : State → Prop}
variable {cc : ByteArray} {pc : Nat} {ls : Array Slot} {own : String} {y : MethodName} {ad : Nat → Nat} {nL : Nat} {L : xL} {st rest : List Value} {h : xH} {k z : Nat} {ins : Instr} {len a b base d : Nat} {D : va_G}
theorem x_nn {q : Int32} (hq : ¬ q < 0) : q.toInt = (q.toNatClampNeg : Int) := by
  have hz0 : (0 : Int) ≤ q.toInt := by
    have := Int32.not_lt.mp hq
    simpa using Int32.le_iff_toInt_le.mp this
  show q.toInt = ((q.toInt.toNat : Nat) : Int)
  omega
/-- System.arraycopy of numbers, told of any kind of row -/
theorem x_copy (hx : p.tables.exec = Jvm.exec) (hb : c.code = cc) (hml : c.maxLocals = ls.size) (X : x_At s m args own D base ad h H locs) (hR : x_Rm R d) {i : Nat} (hlink : Cond.methodLink own i arraycopyName ∈ x_bw) (hnat : Cond.native arraycopyName ∈ x_bw) (hstat : Cond.static arraycopyName ∈ x_bw) (hini : Cond.initialized "java/lang/System" ∈ x_bw)
    {α : Type} (inj : α → Value) (mk : (Nat → α) → xE) {q0 q1 n0 n1 t : Nat} {c0 c1 : ClassId} {f g : Nat → α} (h0 : H[ad q0]? = some (arrV c0 n0 (fun j => inj (f j)))) (hq1 : h[q1]? = some (mk g)) (h1 : H[ad q1]? = some (arrV c1 n1 (fun j => inj (g j)))) (htg : ∀ u, x_tg (mk u) = some t) (hmk : ∀ (cA : ClassId) (u : Nat → α) (H1 : Heap), va_at D vwCl (ad q1, x_ce ad cA (mk u)) H1 = (H1[ad q1]? = some (arrV cA n1 (fun j => inj (u j)))))
    {ty : FieldType} (ho0 : ArrOfT s c0 ty) (ho1 : ArrOfT s c1 ty) (hprim : refKind ty = false) (hfit : ∀ u : α, fits ty (inj u) = true) (hv : ∀ u : α, (∃ x, inj u = .int x) ∨ ∃ x, inj u = .long x)
    {sp dp n : Int32} (hno : ¬ (sp < 0 ∨ dp < 0 ∨ n < 0 ∨ n0 < sp.toNatClampNeg + n.toNatClampNeg ∨ n1 < dp.toNatClampNeg + n.toNatClampNeg)) (hcat : x_cat rest ≤ 8)
    (cop : copied (arrV c0 n0 (fun j => inj (f j))) (arrV c1 n1 (fun j => inj (g j))) sp dp n = arrV c1 n1 (fun j => inj (va_cpy f g sp.toNatClampNeg dp.toNatClampNeg n.toNatClampNeg j)))
    (hdg : decode cc pc = .ok (.invokestatic i, 3))
    (kk : ∀ (H1 : Heap) (locs1 : List Loc), x_At s m args own D base ad (h.set q1 (mk (va_cpy f g sp.toNatClampNeg dp.toNatClampNeg n.toNatClampNeg))) H1 locs1 → W p l e R s m args below meth c H1 locs1 k z Q (F0 m (pc + 3) ls (rest.map (x_cv ad)))) : W p l e R s m args below meth c H locs k z Q (F0 m pc ls (.int n :: .int dp :: .ref (ad q1) :: .int sp :: .ref (ad q0) :: rest.map (x_cv ad))) := by
  have g1 : ¬ sp < 0 := fun q => hno (Or.inl q)
  have g2 : ¬ dp < 0 := fun q => hno (Or.inr (Or.inl q))
  have g3 : ¬ n < 0 := fun q => hno (Or.inr (Or.inr (Or.inl q)))
  have g4 : ¬ n0 < sp.toNatClampNeg + n.toNatClampNeg := fun q => hno (Or.inr (Or.inr (Or.inr (Or.inl q))))
  have g5 : ¬ n1 < dp.toNatClampNeg + n.toNatClampNeg := fun q => hno (Or.inr (Or.inr (Or.inr (Or.inr q))))
  obtain ⟨hown, hts, hK, hbase, w, hS⟩ := id X
  intro T hT XX
  obtain ⟨-, k0, hk0, cm0, hkk0⟩ := ho0 n0 (fun j => inj (f j))
  obtain ⟨-, k1, hk1, cm1, hkk1⟩ := ho1 n1 (fun j => inj (g j))
  obtain ⟨vm', X', step⟩ := XX.arraycopy hx hown (hts _ hlink) (hts _ hnat) (hts _ hstat) (hts _ hini) (src := ad q0) (dst := ad q1) (cs := arrV c0 n0 (fun j => inj (f j))) (cd := arrV c1 n1 (fun j => inj (g j))) (srcPos := sp) (destPos := dp) (n := n) (by rw [hT]; exact h0) (by rw [hT]; exact h1)
    (fun _ h => by cases h) (fun _ h => by cases h) (fun h => by cases h) (fun h => by cases h) hk0 hk1 hkk0 hkk1 (by simp [hprim]) g1 g2 g3
    (by rw [x_nn g1, x_nn g3, arrV_size]; omega)
    (by rw [x_nn g2, x_nn g3, arrV_size]; omega)
    (fun vm₁ _ i hi => by
      have e : (arrV c0 n0 (fun j => inj (f j))).slots.getD (sp.toNatClampNeg + i) .null = inj (f (sp.toNatClampNeg + i)) := by
        rw [Array.getD_eq_getD_getElem?, arrV_read _ _ (by omega)]
        rfl
      refine ⟨?_, ?_⟩
      · rw [e]
        exact hfit _
      · rw [e]
        rcases hv (f (sp.toNatClampNeg + i)) with ⟨x, hx⟩ | ⟨x, hx⟩ <;> (rw [hx]; exact trivial))
    (g := F0 m pc ls (.int n :: .int dp :: .ref (ad q1) :: .int sp :: .ref (ad q0) :: rest.map (x_cv ad))) rfl (by rw [hml]) (rest := rest.map (x_cv ad)) rfl (by rw [hb]; exact hdg) (by have := hR.1; omega) (by
      rw [x_cat_map]
      have h2 := hR.2
      have : nativeFrameWords "java/lang/System" "arraycopy" 5 + 11 ≤ 29 := by decide
      show 2 * 0 + _ + _ ≤ _
      omega)
  rw [cop] at X' step
  have hl : ad q1 < H.size := (Array.getElem?_eq_some_iff.mp h1).1
  generalize hnew : arrV c1 n1 (fun j => inj (va_cpy f g sp.toNatClampNeg dp.toNatClampNeg n.toNatClampNeg j)) = new at X' step
  have hheap : ((T.setVm vm').setCell (ad q1) new).heap = H.setIfInBounds (ad q1) new := by rw [← hT]; rfl
  have oq : ∀ q : Nat, q ≠ ad q1 → (H.setIfInBounds (ad q1) new)[q]? = H[q]? := fun q hq => by simp [Array.getElem?_setIfInBounds, Ne.symm hq]
  have z1 : (H.setIfInBounds (ad q1) new).size = H.size := by simp
  have e1 : (H.setIfInBounds (ad q1) new)[ad q1]? = some new := by simp [Array.getElem?_setIfInBounds, hl]
  have hbq := x_base_of X hq1
  have w' := w.set (e := mk (va_cpy f g sp.toNatClampNeg dp.toNatClampNeg n.toNatClampNeg)) hq1 (by rw [htg, htg]) z1 oq (fun cB hB => by
    rw [hmk] at hB ⊢
    have hcc : arrV cB n1 (fun j => inj (g j)) = arrV c1 n1 (fun j => inj (g j)) := Option.some.inj (hB.symm.trans h1)
    have hcl : cB = c1 := congrArg Cell.cls hcc
    rw [e1, ← hnew, hcl])
  obtain ⟨t, a1, b1⟩ := kk _ _ ⟨hown, hts, hK, hbase, w', ⟨by rw [z1]; exact hS.1, fun q g1 g2 => by
      rw [oq q (fun e => g2 (by rw [e]; exact hbq))]
      exact hS.2.1 q g1 g2, fun q hq => by
      rcases List.mem_append.mp hq with h | h
      · exact hS.2.2 q h
      · obtain ⟨z, -, hz⟩ := List.mem_map.mp h
        rw [← hz]
        exact hbq⟩⟩ _ hheap X'
  exact ⟨t, step t a1, b1⟩
theorem x_cal_of {static : Bool} {a n : Nat} {st : List Value} {o} (hi : x_cal static a n st = some o) : ∃ (vs rest : List Value), x_cat rest ≤ 8 ∧ vs.length = n ∧ ((static = true ∧ o = .inr (.inl (a, vs, rest)) ∧ st = vs.reverse ++ rest) ∨ (static = false ∧ ∃ q, o = .inr (.inl (a, .ref q :: vs, rest)) ∧ st = vs.reverse ++ .ref q :: rest)) := by
  unfold x_cal at hi
  cases static with
  | true =>
    dsimp only [cond] at hi
    cases hb : (Nat.ble n st.length && Nat.ble (x_cat (st.drop n)) 8) with
    | false => rw [hb] at hi; cases hi
    | true =>
      rw [hb] at hi
      have q := Bool.and_eq_true_iff.mp hb
      have h1 := Nat.le_of_ble_eq_true q.1
      refine ⟨(st.take n).reverse, st.drop n, Nat.le_of_ble_eq_true q.2, by simp [h1], Or.inl ⟨rfl, (Option.some.inj hi).symm, ?_⟩⟩
      rw [List.reverse_reverse, List.take_append_drop]
  | false =>
    dsimp only [cond] at hi
    split at hi
    · rename_i q r hdr
      cases hb : Nat.ble (x_cat r) 8 with
      | false => rw [hb] at hi; cases hi
      | true =>
        rw [hb] at hi
        have hlen : n < st.length := by
          rcases Nat.lt_or_ge n st.length with h | h
          · exact h
          · rw [List.drop_eq_nil_of_le h] at hdr; cases hdr
        refine ⟨(st.take n).reverse, r, Nat.le_of_ble_eq_true hb, by simp; omega, Or.inr ⟨rfl, q, (Option.some.inj hi).symm, ?_⟩⟩
        rw [List.reverse_reverse, ← hdr, List.take_append_drop]
    · cases hi
/-- the third group: what the kit's own rows do, or a call -/
def x_N3 (p : Program) (l : Launch) (e : Env) (R : Room) (s : State) (m : MethodId) (args : Array Value) (below : List Frame) (meth : Method) (c : Code) (H : Heap) (locs : List Loc) (k z : Nat) (Q : State → Prop) (ls : Array Slot) (own : String) (D : va_G) (base : Nat) (ad : Nat → Nat) (L : xL) (st : List Value) (pc : Nat) (cc : ByteArray) (mt : List xM) (a b : Nat) (o : xC ⊕ ((Nat × List Value × List Value) ⊕ Option Value)) : Prop :=
  x_N2 p l e R s m args below meth c H locs k z Q ls own D base ad L st pc o ∨ ∃ (i : Nat) (vs rest : List Value), x_cat rest ≤ 8 ∧ vs.length = b ∧
    ((decode cc pc = .ok (.invokestatic i, 3) ∧ x_okK own i a b mt false true ∧ o = .inr (.inl (a, vs, rest)) ∧ st = vs.reverse ++ rest) ∨ (∃ q sp, ((sp = false ∧ decode cc pc = .ok (.invokevirtual i, 3)) ∨ (sp = true ∧ decode cc pc = .ok (.invokespecial i, 3))) ∧ x_okK own i a b mt sp false ∧ o = .inr (.inl (a, .ref q :: vs, rest)) ∧ st = vs.reverse ++ .ref q :: rest))
theorem x_beqF {a b : Nat} (h : a ≠ b) : Nat.beq a b = false := by
  cases e : Nat.beq a b with
  | false => rfl
  | true => exact absurd (Nat.eq_of_beq_eq_true e) h
set_option maxHeartbeats 4000000 in
theorem x_s3 (hx : p.tables.exec = Jvm.exec) (hb : c.code = cc) (hml : c.maxLocals = ls.size) (X : x_At s m args own D base ad h H locs) (hT : x_St s base ad) (hR : x_Rm R d) {mt : List xM} (hd : decode cc pc = .ok (ins, len)) (hlen : x_lok ins len) (hw : x_ok3 own mt ins a b) {o} (hi : x_ins3 ins pc a b L st h k z = some o) (hk : k ≤ R.cells) (hz : z ≤ R.slots) : x_N3 p l e R s m args below meth c H locs k z Q ls own D base ad L st pc cc mt a b o := by
  have hown := X.1
  have hts := X.2.1
  have hR1 := hR.1
  have hR2 := hR.2
  unfold x_ins3 at hi
  split at hi
  · cases hlen
    rcases hw with ⟨rfl, w1, w2, w3⟩ | ⟨w0, w1⟩
    · left
      rw [show Nat.beq 9000 9000 = true from rfl] at hi
      obtain ⟨q, r, rfl, hj⟩ := x_a1_of hi
      obtain ⟨hc8, hj2⟩ := x_bif hj
      have hc8 := Nat.le_of_ble_eq_true hc8
      refine x_N2.go hj2 (Nat.le_refl _) (Nat.le_refl _) fun _ _ kk => W.objInit hx hb hown (hts _ w1) (hts _ w2) (hts _ w3) rfl (by rw [hml]) rfl hd (by omega) (by rw [x_cat_map]; show 2 * 0 + _ + 12 ≤ _; omega) (kk H locs X)
    · right
      rw [x_beqF (by omega)] at hi
      dsimp only [cond] at hi
      obtain ⟨vs, rest, h8, hvl, hh⟩ := x_cal_of hi
      rcases hh with ⟨q, -⟩ | ⟨-, q, ho, hst⟩
      · cases q
      · exact ⟨_, vs, rest, h8, hvl, Or.inr ⟨q, true, Or.inr ⟨rfl, hd⟩, w1, ho, hst⟩⟩
  · cases hlen
    rcases hw with ⟨rfl, hJ, w1⟩ | ⟨rfl, hJ, w1⟩ | ⟨w0, w1⟩
    · left
      rw [show Nat.beq 9006 9006 = true from rfl] at hi
      obtain ⟨q, r, rfl, hj⟩ := x_a1_of hi
      obtain ⟨hc8, hj2⟩ := x_bif hj
      have hc8 := Bool.and_eq_true_iff.mp hc8
      have h8 := Nat.le_of_ble_eq_true hc8.1
      have hq := Nat.le_of_ble_eq_true hc8.2
      split at hj2
      · rename_i bs hbs
        obtain ⟨j, rfl⟩ := Nat.exists_eq_add_of_le hq
        rw [Nat.add_sub_cancel_left] at hbs
        have hjl := (List.getElem?_eq_some_iff.mp hbs).1
        have hbd : x_sbyt.getD j [] = bs := by rw [List.getD_eq_getElem?_getD, hbs]; rfl
        refine x_N2.go hj2 (Nat.le_refl _) (Nat.le_refl _) fun _ _ kk => ?_
        exact x_jcV (n := 0) (y := yJ0_length_8abf5) (av := []) (rest := r.map (x_cv ad)) (v := some (.int (Int32.ofNat (x_sbyt.getD j []).length))) X hT hx hb hml rfl (x_jrecv X hT hjl) (x_jlength hJ hjl) (x_jw hJ 8 rfl) (x_jw hJ 23 rfl) w1 (x_jw hJ 9 rfl) (x_jw hJ 10 rfl) ⟨by decide +kernel, by decide +kernel, by decide +kernel⟩ ⟨by omega, by omega⟩ ⟨hk, hz⟩ rfl (by rw [x_cat_map]; exact h8) hd (fun H1 locs1 X1 => by rw [hbd]; exact kk H1 locs1 X1)
      · cases hj2
    · left
      rw [show Nat.beq 9007 9006 = false from rfl, show Nat.beq 9007 9007 = true from rfl] at hi
      obtain ⟨q, i, r, rfl, hj⟩ := x_ai_of hi
      obtain ⟨hc8, hj2⟩ := x_bif hj
      have hc8 := Bool.and_eq_true_iff.mp hc8
      have h8 := Nat.le_of_ble_eq_true hc8.1
      have hq := Nat.le_of_ble_eq_true hc8.2
      split at hj2
      · rename_i bs hbs
        obtain ⟨hin, hj2⟩ := x_in_of hj2
        obtain ⟨j, rfl⟩ := Nat.exists_eq_add_of_le hq
        rw [Nat.add_sub_cancel_left] at hbs
        have hjl := (List.getElem?_eq_some_iff.mp hbs).1
        have hbd : x_sbyt.getD j [] = bs := by rw [List.getD_eq_getElem?_getD, hbs]; rfl
        refine x_N2.go hj2 (Nat.le_refl _) (Nat.le_refl _) fun _ _ kk => ?_
        exact x_jcV (n := 1) (y := yJ0_charAt_5068e) (av := [.int i]) (rest := r.map (x_cv ad)) (v := some (.int ((x_sbyt.getD j []).getD i.toNatClampNeg 0))) X hT hx hb hml rfl (x_jrecv X hT hjl) (x_jcharAt hJ hjl (by rw [hbd]; exact hin)) (x_jw hJ 11 rfl) (x_jw hJ 23 rfl) w1 (x_jw hJ 12 rfl) (x_jw hJ 13 rfl) ⟨by decide +kernel, by decide +kernel, by decide +kernel⟩ ⟨by omega, by omega⟩ ⟨hk, hz⟩ rfl (by rw [x_cat_map]; exact h8) hd (fun H1 locs1 X1 => by rw [hbd]; exact kk H1 locs1 X1)
      · cases hj2
    · right
      rw [x_beqF (by omega), x_beqF (by omega)] at hi
      dsimp only [cond] at hi
      obtain ⟨vs, rest, h8, hvl, hh⟩ := x_cal_of hi
      rcases hh with ⟨q, -⟩ | ⟨-, q, ho, hst⟩
      · cases q
      · exact ⟨_, vs, rest, h8, hvl, Or.inr ⟨q, false, Or.inl ⟨rfl, hd⟩, w1, ho, hst⟩⟩
  · cases hlen
    rcases hw with ⟨rfl, w1, w2, w3, w4⟩ | ⟨rfl, w1, w2, w3, w4⟩ | ⟨rfl, w1, w2, w3, w4⟩ | ⟨w0, w1, w2, w3, w4⟩ | ⟨w0, w1⟩
    · left
      rw [show Nat.beq 9001 9001 = true from rfl] at hi
      obtain ⟨x, y, r, rfl, hj⟩ := x_i2_of hi
      obtain ⟨hc8, hj2⟩ := x_bif hj
      have hc8 := Nat.le_of_ble_eq_true hc8
      exact x_N2.go hj2 (Nat.le_refl _) (Nat.le_refl _) fun _ _ kk => va_mmax hx hb hml hown (hts _ w1) (hts _ w2) (hts _ w3) (hts _ w4) (by omega) (by rw [x_cat_map]; omega) hk hz hd (kk H locs X)
    · left
      rw [show Nat.beq 9002 9001 = false from rfl, show Nat.beq 9002 9002 = true from rfl] at hi
      obtain ⟨x, y, r, rfl, hj⟩ := x_i2_of hi
      obtain ⟨hc8, hj2⟩ := x_bif hj
      have hc8 := Nat.le_of_ble_eq_true hc8
      exact x_N2.go hj2 (Nat.le_refl _) (Nat.le_refl _) fun _ _ kk => va_mmin hx hb hml hown (hts _ w1) (hts _ w2) (hts _ w3) (hts _ w4) (by omega) (by rw [x_cat_map]; omega) hk hz hd (kk H locs X)
    · left
      rw [show Nat.beq 9003 9001 = false from rfl, show Nat.beq 9003 9002 = false from rfl, show Nat.beq 9003 9003 = true from rfl] at hi
      obtain ⟨x, r, rfl, hj⟩ := x_i1_of hi
      obtain ⟨hc8, hj2⟩ := x_bif hj
      have hc8 := Nat.le_of_ble_eq_true hc8
      exact x_N2.go hj2 (Nat.le_refl _) (Nat.le_refl _) fun _ _ kk => va_mabs hx hb hml hown (hts _ w1) (hts _ w2) (hts _ w3) (hts _ w4) (by omega) (by rw [x_cat_map]; omega) hk hz hd (kk H locs X)
    · left
      rcases w0 with rfl | rfl
      · rw [show Nat.beq 9004 9001 = false from rfl, show Nat.beq 9004 9002 = false from rfl, show Nat.beq 9004 9003 = false from rfl, show Nat.beq 9004 9004 = true from rfl] at hi
        obtain ⟨a0, sp, a1, dp, n, r, rfl, hj⟩ := x_cp_of hi
        obtain ⟨hc8, hj2⟩ := x_bif hj
        have hc8 := Nat.le_of_ble_eq_true hc8
        obtain ⟨n0, f, hq0, hj3⟩ := x_ari_of hj2
        obtain ⟨n1, g, hq1, hj4⟩ := x_ari_of hj3
        split at hj4
        · cases hj4
        · rename_i hno
          obtain ⟨c0, h0, o0⟩ := x_cellI X hq0
          obtain ⟨c1, h1, o1⟩ := x_cellI X hq1
          exact x_N2.go hj4 (Nat.le_refl _) (Nat.le_refl _) fun _ _ kk => x_copy (t := 0) hx hb hml X hR w1 w2 w3 w4 (fun x => .int x) (fun u => .inl (0, n1, .inl u)) h0 hq1 h1 (fun u => rfl) (fun cA u H1 => rfl) (ty := .int) o0.1 o1.1 rfl (fun u => rfl) (fun u => Or.inl ⟨u, rfl⟩) hno hc8 (va_copied (fun z => .int z) c0 c1 f g (by omega)) hd kk
      · rw [show Nat.beq 9005 9001 = false from rfl, show Nat.beq 9005 9002 = false from rfl, show Nat.beq 9005 9003 = false from rfl, show Nat.beq 9005 9004 = false from rfl, show Nat.beq 9005 9005 = true from rfl] at hi
        obtain ⟨a0, sp, a1, dp, n, r, rfl, hj⟩ := x_cp_of hi
        obtain ⟨hc8, hj2⟩ := x_bif hj
        have hc8 := Nat.le_of_ble_eq_true hc8
        obtain ⟨n0, f, hq0, hj3⟩ := x_arl_of hj2
        obtain ⟨n1, g, hq1, hj4⟩ := x_arl_of hj3
        split at hj4
        · cases hj4
        · rename_i hno
          obtain ⟨c0, h0, o0⟩ := x_cellL X hq0
          obtain ⟨c1, h1, o1⟩ := x_cellL X hq1
          exact x_N2.go hj4 (Nat.le_refl _) (Nat.le_refl _) fun _ _ kk => x_copy (t := 1) hx hb hml X hR w1 w2 w3 w4 (fun x => .long x) (fun u => .inl (1, n1, .inr (.inl u))) h0 hq1 h1 (fun u => rfl) (fun cA u H1 => rfl) (ty := .long) o0.1 o1.1 rfl (fun u => rfl) (fun u => Or.inr ⟨u, rfl⟩) hno hc8 (va_copied (fun z => .long z) c0 c1 f g (by omega)) hd kk
    · right
      rw [x_beqF (by omega), x_beqF (by omega), x_beqF (by omega), x_beqF (by omega), x_beqF (by omega)] at hi
      dsimp only [cond] at hi
      obtain ⟨vs, rest, h8, hvl, hh⟩ := x_cal_of hi
      rcases hh with ⟨-, ho, hst⟩ | ⟨q, -⟩
      · exact ⟨_, vs, rest, h8, hvl, Or.inl ⟨hd, w1, ho, hst⟩⟩
      · cases q
  · cases hi
end XS5
/-! ===== the walk ===== -/
def x_okR (mt : List xM) (M : xM) (r : xR) : Prop := decode (x_cc M) r.1 = .ok (r.2.1, r.2.2.1) ∧ x_lok r.2.1 r.2.2.1 ∧ (match x_grp r.2.1 with
  | 1 => x_ok1 (x_own M) (x_ml M) r.2.1 r.2.2.2.1
  | 2 => x_ok2 (x_own M) (x_nm M) r.2.1 r.2.2.2.1 r.2.2.2.2.1
  | 3 => x_ok3 (x_own M) mt r.2.1 r.2.2.2.1 r.2.2.2.2.1
  | _ => True)
def x_okM (mt : List xM) (M : xM) : Prop := plainFor (x_nm M) = true ∧ (x_nm M).cls = x_own M ∧ ((x_nm M).cls ≠ "java/lang/invoke/MethodHandle" ∧ (x_nm M).cls ≠ "java/lang/invoke/VarHandle") ∧ x_ml M ≤ 18 ∧
  Cond.code (x_nm M) (x_cc M) (x_ml M) (x_rt M) ∈ x_bw ∧ Cond.initialized (x_nm M).cls ∈ x_bw ∧ (x_sta M = true → Cond.static (x_nm M) ∈ x_bw) ∧ (x_sta M = false → Cond.instanceMethod (x_nm M) ∈ x_bw ∧ ∃ (T : u_T) (N : Nat), (vwCl : List vw_C)[M.2.2.2.2.2.2.1]? = some (x_own M, T, N)) ∧ (x_sta M = false → (x_nm M).name ≠ "<init>" → Cond.selects (x_nm M).cls (x_nm M) (x_nm M) ∈ x_bw) ∧
  ∀ q ∈ x_rws M, ∀ r ∈ q.2, x_okR mt M r
def x_ws (M : xM) : List Cond := Cond.code (x_nm M) (x_cc M) (x_ml M) (x_rt M) :: x_bw
section XS6
variable {p : Program} {l : Launch} {e : Env} {R : Room} {s : State} {m : MethodId} {args : Array Value} {below : List Frame} {meth : Method} {c : Code} {H : Heap} {locs : List Loc} {cells slots : Nat} {Q : State → Prop}
variable {cc : ByteArray} {pc : Nat} {ls : Array Slot} {own : String} {y : MethodName} {ad : Nat → Nat} {nL : Nat} {L : xL} {st rest : List Value} {h : xH} {k z : Nat} {ins : Instr} {len a b base d : Nat} {D : va_G}
/-- a run of the interpreter is a walk of the machine -/
def x_Wk (mt : List xM) (d : Nat) (M : xM) (S : Option xS) (c0 : xC) (v : Option Value) (h' : xH) (k' z' : Nat) : Prop :=
  c0.2.2.2.2.1 ≤ k' ∧ c0.2.2.2.2.2 ≤ z' ∧ ∀ {p : Program} {l : Launch} {e : Env} {R : Room} {s : State} {m : MethodId} {args : Array Value} {below : List Frame} {meth : Method} {c : Code} {Q : State → Prop} {base : Nat} {ad : Nat → Nat} {D : va_G} {H : Heap} {locs : List Loc} {ls : Array Slot},
    p.tables.exec = Jvm.exec → c.code = x_cc M → c.maxLocals = x_ml M → ((x_nm M).name = "<init>" → meth.name = "<init>") → x_At s m args (x_own M) D base ad c0.2.2.2.1 H locs → x_Sc S s base ad → x_Rm R d → k' ≤ R.cells → z' ≤ R.slots → lv_has ls (x_ml M) (x_cl ad c0.2.1) →
    (∀ (H1 : Heap) (locs1 : List Loc) (ls1 : Array Slot) (pc1 : Nat) (ins : Instr) (st1 : List Value), decode (x_cc M) pc1 = .ok (ins, 1) → x_ret (x_rt M) ins st1 = some v → x_At s m args (x_own M) D base ad h' H1 locs1 → W p l e R s m args below meth c H1 locs1 k' z' Q (F0 m pc1 ls1 (st1.map (x_cv ad)))) →
    W p l e R s m args below meth c H locs c0.2.2.2.2.1 c0.2.2.2.2.2 Q (F0 m c0.1 ls (c0.2.2.1.map (x_cv ad)))
/-- the end of a method -/
theorem x_end {v : Option Value} {h' : xH} {k' z' pc1 : Nat} {ls1 : Array Slot} {st1 : List Value} {rt : Option FieldType} (hx : p.tables.exec = Jvm.exec) (hb : c.code = cc) (hr : meth.sig.returnType = rt) (hlk : meth.locks = false) (X : x_At s m args own D base ad h' H locs) (hd : decode cc pc1 = .ok (ins, 1)) (hv : x_ret rt ins st1 = some v) : W p l e R s m args below meth c H locs k' z' (MQ below (x_Qc base ad D v h') args s k' z' (fun q => base ≤ q)) (F0 m pc1 ls1 (st1.map (x_cv ad))) := by
  obtain ⟨hown, hts, hK, hbase, w, hS⟩ := X
  have fin : ∀ (t : State), t.heap = H → s.WarmedH t.vm → ∀ (u : Option Value), u = v.map (x_cv ad) → x_Qc base ad D v h' args s (.returned u) t := by
    intro t ht hW u hu
    exact ⟨by rw [hu], by rw [ht]; exact x_W.moved hW.alike w, hS.F ht⟩
  unfold x_ret at hv
  split at hv
  · split at hv
    · cases hv
      exact W.iret hx hb hr (fun t ht hW => fin t ht hW _ rfl) hS.2.2 hd
    · rename_i x
      cases hb1 : (x == 0 || x == 1) with
      | false => rw [hb1] at hv; cases hv
      | true =>
        rw [hb1] at hv
        cases hv
        have hn : narrow .boolean (.int x) = .int x := by
          have h' : x = 0 ∨ x = 1 := by simpa using hb1
          rcases h' with rfl | rfl <;> decide
        exact W.zret hx hb hr hn (fun t ht hW => fin t ht hW _ rfl) hS.2.2 hd
    · cases hv
  · split at hv
    · cases hv
      exact W.lret hx hb hr (fun t ht hW => fin t ht hW _ rfl) hS.2.2 hd
    · cases hv
  · split at hv
    · cases hv
      exact W.aret hx hb hr (Or.inl ⟨_, rfl⟩) (Or.inr ⟨_, rfl⟩) (fun t ht hW => fin t ht hW _ rfl) hS.2.2 hd
    · cases hv
  · split at hv
    · cases hv
      exact W.vret hx hb hr (fun t ht hW => fin t ht hW _ rfl) hS.2.2 hd
    · cases hv
  · cases hv
/-- a method's contract out of a walk of its body -/
theorem x_met {mt : List xM} {M : xM} (hM : x_okM mt M) {vs : List Value} {v : Option Value} {h' : xH} {k' z' : Nat} (hk : x_Wk mt d M none (0, lv_args 0 vs, [], h, 0, 0) v h' k' z') (hcat : x_cat vs ≤ x_ml M) : Met l (x_nm M) (x_ws M) (x_room d k' z') (x_Pc base ad D vs h) (x_Qc base ad D v h') k' z' (fun q => base ≤ q) := by
  obtain ⟨m1, m2, -, m4, -⟩ := hM
  refine x_ofW (cc := x_cc M) (maxL := x_ml M) (ret := x_rt M) m1 rfl ?_
  intro p e s m args below meth c s₁ B hml hv
  obtain ⟨rfl, hW, hK, hT⟩ := hv
  have hx := B.exec
  have hb := B.bytes
  have hr := B.returns
  have hts := atoms_spec (ws := x_ws M) B.pre
  have hown : s.vm.findClass (x_own M) = some m.cls := by rw [← m2]; exact findClass_of_methodNamed B.named
  have hlocks := B.notSynchronized
  have hmn : (x_nm M).name = "<init>" → meth.name = "<init>" := fun h => (name_of_methodNamed B.named B.method).1.trans h
  have hl := lv_entry (vs.map (x_cv ad)) (n := x_ml M) (by rw [x_lg_len]; simpa [← x_cat_map ad vs] using (show x_cat (vs.map (x_cv ad)) ≤ x_ml M by
    have e : ∀ ws : List Value, x_cat (ws.map (x_cv ad)) = x_cat ws := by
      intro ws
      induction ws with
      | nil => rfl
      | cons q qs ih => simp only [List.map_cons, x_cat, x_cv_cat, ih]
    rw [e]; exact hcat))
  rw [lg_entry_eq]
  generalize (lg_sl (vs.map (x_cv ad)) ++ List.replicate (x_ml M - (lg_sl (vs.map (x_cv ad))).length) Slot.unset).toArray = ls at hl ⊢
  rw [x_cl_args] at hl
  have hbase : base ≤ s.heap.size := by have := hW.2.2.1; omega
  exact hk.2.2 hx hb hml hmn ⟨hown, fun w hw => hts w (List.mem_cons_of_mem _ hw), hK, hbase, hW, va_S.rf⟩ ⟨(fun n f q => by cases q), hT⟩ ⟨Nat.le_refl _, Nat.le_refl _⟩ (Nat.le_refl _) (Nat.le_refl _) hl
    (fun H1 locs1 ls1 pc1 ins st1 hd hv X => x_end hx hb hr hlocks X hd hv)
end XS6
/-! ===== what is made only grows; the walk ===== -/
def x_ge (k z : Nat) (o : xC ⊕ ((Nat × List Value × List Value) ⊕ Option Value)) : Prop := match o with
  | .inl c' => k ≤ c'.2.2.2.2.1 ∧ z ≤ c'.2.2.2.2.2
  | .inr _ => True
section XG
variable {pc : Nat} {L : xL} {st : List Value} {h h1 : xH} {k z k1 z1 : Nat} {ins : Instr} {a b : Nat} {o : xC ⊕ ((Nat × List Value × List Value) ⊕ Option Value)}
theorem x_ge_go {pc' : Nat} {L' : xL} {st' : List Value} (hi : x_go pc' L' st' h1 k1 z1 = some o) (hk : k ≤ k1 := by omega) (hz : z ≤ z1 := by omega) : x_ge k z o := by
  have := x_go_of hi
  subst this
  exact ⟨hk, hz⟩
theorem x_ge_i1 {f : Int32 → List Value → xO} (hi : x_i1 st f = some o) (hf : ∀ x r, f x r = some o → x_ge k z o) : x_ge k z o := by obtain ⟨x, r, -, hj⟩ := x_i1_of hi; exact hf _ _ hj
theorem x_ge_i2 {f : Int32 → Int32 → List Value → xO} (hi : x_i2 st f = some o) (hf : ∀ x y r, f x y r = some o → x_ge k z o) : x_ge k z o := by obtain ⟨x, y, r, -, hj⟩ := x_i2_of hi; exact hf _ _ _ hj
theorem x_ge_l1 {f : Int64 → List Value → xO} (hi : x_l1 st f = some o) (hf : ∀ x r, f x r = some o → x_ge k z o) : x_ge k z o := by obtain ⟨x, r, -, hj⟩ := x_l1_of hi; exact hf _ _ hj
theorem x_ge_l2 {f : Int64 → Int64 → List Value → xO} (hi : x_l2 st f = some o) (hf : ∀ x y r, f x y r = some o → x_ge k z o) : x_ge k z o := by obtain ⟨x, y, r, -, hj⟩ := x_l2_of hi; exact hf _ _ _ hj
theorem x_ge_li {f : Int64 → Int32 → List Value → xO} (hi : x_li st f = some o) (hf : ∀ x y r, f x y r = some o → x_ge k z o) : x_ge k z o := by obtain ⟨x, y, r, -, hj⟩ := x_li_of hi; exact hf _ _ _ hj
theorem x_ge_a1 {f : Nat → List Value → xO} (hi : x_a1 st f = some o) (hf : ∀ x r, f x r = some o → x_ge k z o) : x_ge k z o := by obtain ⟨x, r, -, hj⟩ := x_a1_of hi; exact hf _ _ hj
theorem x_ge_ai {f : Nat → Int32 → List Value → xO} (hi : x_ai st f = some o) (hf : ∀ x i r, f x i r = some o → x_ge k z o) : x_ge k z o := by obtain ⟨x, i, r, -, hj⟩ := x_ai_of hi; exact hf _ _ _ hj
theorem x_ge_aii {f : Nat → Int32 → Int32 → List Value → xO} (hi : x_aii st f = some o) (hf : ∀ q i x r, f q i x r = some o → x_ge k z o) : x_ge k z o := by obtain ⟨q, i, x, r, -, hj⟩ := x_aii_of hi; exact hf _ _ _ _ hj
theorem x_ge_ail {f : Nat → Int32 → Int64 → List Value → xO} (hi : x_ail st f = some o) (hf : ∀ q i x r, f q i x r = some o → x_ge k z o) : x_ge k z o := by obtain ⟨q, i, x, r, -, hj⟩ := x_ail_of hi; exact hf _ _ _ _ hj
theorem x_ge_aiq {f : Nat → Int32 → Nat → List Value → xO} (hi : x_aiq st f = some o) (hf : ∀ q i x r, f q i x r = some o → x_ge k z o) : x_ge k z o := by obtain ⟨q, i, x, r, -, hj⟩ := x_aiq_of hi; exact hf _ _ _ _ hj
theorem x_ge_av {f : Nat → Value → List Value → xO} (hi : x_av st f = some o) (hf : ∀ q v r, f q v r = some o → x_ge k z o) : x_ge k z o := by obtain ⟨q, v, r, -, hj⟩ := x_av_of hi; exact hf _ _ _ hj
theorem x_ge_v1 {f : Value → List Value → xO} (hi : x_v1 st f = some o) (hf : ∀ v r, f v r = some o → x_ge k z o) : x_ge k z o := by obtain ⟨v, r, -, hj⟩ := x_v1_of hi; exact hf _ _ hj
theorem x_ge_v2 {f : Value → Value → List Value → xO} (hi : x_v2 st f = some o) (hf : ∀ v w r, f v w r = some o → x_ge k z o) : x_ge k z o := by obtain ⟨v, w, r, -, hj⟩ := x_v2_of hi; exact hf _ _ _ hj
theorem x_ge_cp {f : Nat → Int32 → Nat → Int32 → Int32 → List Value → xO} (hi : x_cp st f = some o) (hf : ∀ a0 sp a1 dp n r, f a0 sp a1 dp n r = some o → x_ge k z o) : x_ge k z o := by obtain ⟨a0, sp, a1, dp, n, r, -, hj⟩ := x_cp_of hi; exact hf _ _ _ _ _ _ hj
theorem x_ge_br {off : Int} {f : Nat → xO} (hi : x_br pc off f = some o) (hf : ∀ t, f t = some o → x_ge k z o) : x_ge k z o := by obtain ⟨t, -, hj⟩ := x_br_of hi; exact hf _ hj
theorem x_ge_ob {q : Nat} {f : Nat → List Value → xO} (hi : x_ob h q f = some o) (hf : ∀ c fs, f c fs = some o → x_ge k z o) : x_ge k z o := by obtain ⟨c, fs, -, hj⟩ := x_ob_of hi; exact hf _ _ hj
theorem x_ge_ari {t q : Nat} {f : Nat → (Nat → Int32) → xO} (hi : x_ari t h q f = some o) (hf : ∀ n g, f n g = some o → x_ge k z o) : x_ge k z o := by obtain ⟨n, g, -, hj⟩ := x_ari_of hi; exact hf _ _ hj
theorem x_ge_arl {q : Nat} {f : Nat → (Nat → Int64) → xO} (hi : x_arl h q f = some o) (hf : ∀ n g, f n g = some o → x_ge k z o) : x_ge k z o := by obtain ⟨n, g, -, hj⟩ := x_arl_of hi; exact hf _ _ hj
theorem x_ge_arq {q : Nat} {f : Nat → Nat → (Nat → Option Nat) → xO} (hi : x_arq h q f = some o) (hf : ∀ t n g, f t n g = some o → x_ge k z o) : x_ge k z o := by obtain ⟨t, n, g, -, hj⟩ := x_arq_of hi; exact hf _ _ _ hj
theorem x_ge_ar {q : Nat} {f : Nat → xO} (hi : x_ar h q f = some o) (hf : ∀ n, f n = some o → x_ge k z o) : x_ge k z o := by obtain ⟨t, n, y, -, hj⟩ := x_ar_of hi; exact hf _ hj
theorem x_ge_in {i : Int32} {n : Nat} {u : xO} (hi : x_in i n u = some o) (hf : u = some o → x_ge k z o) : x_ge k z o := hf (x_in_of hi).2
theorem x_ge_bif {c : Bool} {u u' : xO} (hi : (bif c then u else u') = some o) (hf : u = some o → x_ge k z o) (hf' : u' = some o → x_ge k z o) : x_ge k z o := by
  cases c with
  | true => exact hf hi
  | false => exact hf' hi
theorem x_ge_ite {c : Prop} [Decidable c] {u u' : xO} (hi : (if c then u else u') = some o) (hf : u = some o → x_ge k z o) (hf' : u' = some o → x_ge k z o) : x_ge k z o := by
  split at hi
  · exact hf hi
  · exact hf' hi
theorem x_ge_none (hi : (none : xO) = some o) : x_ge k z o := by cases hi
theorem x_ge_cond {op : ClassFile.Cond} {x y : Int32} {u u' : xO} (hi : x_cond op x y u u' = some o) (hf : u = some o → x_ge k z o) (hf' : u' = some o → x_ge k z o) : x_ge k z o := by
  unfold x_cond at hi
  split at hi <;> exact x_ge_ite hi hf hf'
set_option maxHeartbeats 4000000 in
theorem x_ge1 (hi : x_ins1 ins pc a L st h k z = some o) : x_ge k z o := by
  unfold x_ins1 at hi
  split at hi
  all_goals first
    | exact x_ge_go hi
    | exact x_ge_none hi
    | exact x_ge_bif hi (fun hj => x_ge_go hj) (fun hj => x_ge_go hj)
    | exact x_ge_i1 hi fun _ _ hj => x_ge_go hj
    | exact x_ge_i2 hi fun _ _ _ hj => x_ge_go hj
    | exact x_ge_l1 hi fun _ _ hj => x_ge_go hj
    | exact x_ge_l2 hi fun _ _ _ hj => x_ge_go hj
    | exact x_ge_li hi fun _ _ _ hj => x_ge_go hj
    | exact x_ge_a1 hi fun _ _ hj => x_ge_go hj
    | exact x_ge_i2 hi fun _ _ _ hj => x_ge_ite hj x_ge_none fun hj => x_ge_go hj
    | exact x_ge_l2 hi fun _ _ _ hj => x_ge_ite hj x_ge_none fun hj => x_ge_go hj
    | exact x_ge_v1 hi fun _ _ hj => x_ge_bif hj (fun hj => x_ge_go hj) x_ge_none
    | exact x_ge_v2 hi fun _ _ _ hj => x_ge_bif hj (fun hj => x_ge_go hj) x_ge_none
    | exact x_ge_br hi fun _ hj => x_ge_go hj
    | exact x_ge_i1 hi fun _ _ hj => x_ge_br hj fun _ hj => x_ge_cond hj (fun hj => x_ge_go hj) (fun hj => x_ge_go hj)
    | exact x_ge_i2 hi fun _ _ _ hj => x_ge_br hj fun _ hj => x_ge_cond hj (fun hj => x_ge_go hj) (fun hj => x_ge_go hj)
    | exact x_ge_i1 hi fun _ _ hj => x_ge_ite hj (fun hj => x_ge_br hj fun _ hj => x_ge_go hj) x_ge_none
    | exact x_ge_i1 hi fun _ _ hj => x_ge_ite hj (fun hj => x_ge_br hj fun _ hj => x_ge_go hj) (fun hj => by
        split at hj
        · exact x_ge_br hj fun _ hj => x_ge_go hj
        · exact x_ge_none hj)
    | (split at hi
       · exact x_ge_go hi
       · exact x_ge_none hi)
set_option maxHeartbeats 4000000 in
theorem x_ge2 {S : Option xS} (hi : x_ins2 S ins pc a b L st h k z = some o) : x_ge k z o := by
  unfold x_ins2 at hi
  split at hi
  · exact x_ge_a1 hi fun _ _ hj => x_ge_ob hj fun _ _ hj => x_ge_bif hj (fun hj => by
      split at hj
      · exact x_ge_go hj
      · exact x_ge_none hj) x_ge_none
  · exact x_ge_av hi fun _ _ _ hj => x_ge_ob hj fun _ _ hj => x_ge_bif hj (fun hj => x_ge_go hj) x_ge_none
  · exact x_ge_ai hi fun _ _ _ hj => x_ge_bif hj (fun hj => by
      split at hj
      · exact x_ge_in hj fun hj => x_ge_go hj
      · exact x_ge_none hj) (fun hj => x_ge_ari hj fun _ _ hj => x_ge_in hj fun hj => x_ge_go hj)
  · exact x_ge_aii hi fun _ _ _ _ hj => x_ge_ari hj fun _ _ hj => x_ge_in hj fun hj => x_ge_go hj
  · refine x_ge_ai hi fun _ _ _ hj => ?_
    split at hj
    · exact x_ge_in hj fun hj => x_ge_go hj
    · exact x_ge_in hj fun hj => x_ge_go hj
    · exact x_ge_none hj
  · refine x_ge_aii hi fun _ _ _ _ hj => ?_
    split at hj
    · exact x_ge_in hj fun hj => x_ge_go hj
    · exact x_ge_in hj fun hj => x_ge_go hj
    · exact x_ge_none hj
  · exact x_ge_ai hi fun _ _ _ hj => x_ge_arl hj fun _ _ hj => x_ge_in hj fun hj => x_ge_go hj
  · exact x_ge_ail hi fun _ _ _ _ hj => x_ge_arl hj fun _ _ hj => x_ge_in hj fun hj => x_ge_go hj
  · exact x_ge_ai hi fun _ _ _ hj => x_ge_arq hj fun _ _ _ hj => x_ge_bif hj (fun hj => x_ge_in hj fun hj => x_ge_go hj) x_ge_none
  · exact x_ge_aiq hi fun _ _ _ _ hj => x_ge_arq hj fun _ _ _ hj => x_ge_ob hj fun _ _ hj => x_ge_bif hj (fun hj => x_ge_in hj fun hj => x_ge_go hj) x_ge_none
  · exact x_ge_a1 hi fun _ _ hj => x_ge_bif hj (fun hj => by
      split at hj
      · exact x_ge_go hj
      · exact x_ge_none hj) (fun hj => x_ge_ar hj fun _ hj => x_ge_go hj)
  · refine x_ge_i1 hi fun _ _ hj => x_ge_ite hj x_ge_none fun hj => ?_
    split at hj <;> first | exact x_ge_go hj | exact x_ge_none hj
  · exact x_ge_i1 hi fun _ _ hj => x_ge_ite hj x_ge_none fun hj => x_ge_go hj
  · exact x_ge_ite hi x_ge_none fun hj => x_ge_go hj
  · exact x_ge_none hi
theorem x_ge_cal {sb : Bool} {n : Nat} (hi : x_cal sb a n st = some o) : x_ge k z o := by
  obtain ⟨vs, rest, -, -, ⟨-, ho, -⟩ | ⟨-, q, ho, -⟩⟩ := x_cal_of hi <;> (rw [ho]; exact trivial)
set_option maxHeartbeats 4000000 in
theorem x_ge3 (hi : x_ins3 ins pc a b L st h k z = some o) : x_ge k z o := by
  unfold x_ins3 at hi
  split at hi
  · exact x_ge_bif hi (fun hj => x_ge_a1 hj fun _ _ hj => x_ge_bif hj (fun hj => x_ge_go hj) x_ge_none) (fun hj => x_ge_cal hj)
  · exact x_ge_bif hi (fun hj => x_ge_a1 hj fun _ _ hj => x_ge_bif hj (fun hj => by
        split at hj
        · exact x_ge_go hj
        · exact x_ge_none hj) x_ge_none) (fun hj => x_ge_bif hj (fun hj => x_ge_ai hj fun _ _ _ hj => x_ge_bif hj (fun hj => by
        split at hj
        · exact x_ge_in hj fun hj => x_ge_go hj
        · exact x_ge_none hj) x_ge_none) (fun hj => x_ge_cal hj))
  · exact x_ge_bif hi (fun hj => x_ge_i2 hj fun _ _ _ hj => x_ge_bif hj (fun hj => x_ge_go hj) x_ge_none) (fun hj =>
      x_ge_bif hj (fun hj => x_ge_i2 hj fun _ _ _ hj => x_ge_bif hj (fun hj => x_ge_go hj) x_ge_none) (fun hj =>
      x_ge_bif hj (fun hj => x_ge_i1 hj fun _ _ hj => x_ge_bif hj (fun hj => x_ge_go hj) x_ge_none) (fun hj =>
      x_ge_bif hj (fun hj => x_ge_cp hj fun _ _ _ _ _ _ hj => x_ge_bif hj (fun hj => x_ge_ari hj fun _ _ hj => x_ge_ari hj fun _ _ hj => x_ge_ite hj x_ge_none fun hj => x_ge_go hj) x_ge_none) (fun hj =>
      x_ge_bif hj (fun hj => x_ge_cp hj fun _ _ _ _ _ _ hj => x_ge_bif hj (fun hj => x_ge_arl hj fun _ _ hj => x_ge_arl hj fun _ _ hj => x_ge_ite hj x_ge_none fun hj => x_ge_go hj) x_ge_none) (fun hj => x_ge_cal hj)))))
  · exact x_ge_none hi
end XG
theorem x_ge_step {M : xM} {S : Option xS} {c : xC} {o} (hi : x_step M S c = some o) : x_ge c.2.2.2.2.1 c.2.2.2.2.2 o := by
  unfold x_step at hi
  split at hi
  · cases hi
  · split at hi
    · exact x_ge1 hi
    · exact x_ge2 hi
    · exact x_ge3 hi
    · split at hi
      · have := Option.some.inj hi
        rw [← this]; exact trivial
      · cases hi
theorem x_mono {mt : List xM} : ∀ (n d : Nat) (M : xM) (S : Option xS) (c0 : xC) (v : Option Value) (h' : xH) (k' z' : Nat), x_run mt S n d M c0 = some (v, h', k', z') → c0.2.2.2.2.1 ≤ k' ∧ c0.2.2.2.2.2 ≤ z' := by
  intro n
  induction n with
  | zero => intro d M S c0 v h' k' z' hr; cases hr
  | succ n ih =>
    intro d M S c0 v h' k' z' hr
    unfold x_run at hr
    cases hs : x_step M S c0 with
    | none => rw [hs] at hr; cases hr
    | some o =>
      rw [hs] at hr
      have hg := x_ge_step hs
      obtain c' | q | u := o
      · have := ih d M S c' v h' k' z' hr
        exact ⟨Nat.le_trans hg.1 this.1, Nat.le_trans hg.2 this.2⟩
      · cases d with
        | zero => cases hr
        | succ d' =>
          dsimp only at hr
          cases hM : mt[q.1]? with
          | none => rw [hM] at hr; cases hr
          | some M' =>
            rw [hM] at hr
            dsimp only at hr
            cases hb : (Nat.ble (x_cat q.2.1) M'.2.2.2.1 && x_rcv M' q.2.1 c0.2.2.2.1) with
            | false => rw [hb] at hr; cases hr
            | true =>
              rw [hb] at hr
              dsimp only [cond] at hr
              split at hr
              · rename_i r hr1
                have := ih _ M S _ v h' k' z' hr
                exact ⟨Nat.le_trans (Nat.le_add_right _ _) this.1, Nat.le_trans (Nat.le_add_right _ _) this.2⟩
              · cases hr
      · cases hr
        exact ⟨Nat.le_refl _, Nat.le_refl _⟩

theorem x_GoodIn {M : xM} (hM : Cond.code (x_nm M) (x_cc M) (x_ml M) (x_rt M) ∈ x_bw) : GoodIn x_bw (x_ws M) := by
  intro w hw
  have h : w ∈ x_bw := by
    rcases List.mem_cons.mp hw with rfl | h
    · exact hM
    · exact h
  exact ⟨h, good_of_word (x_bw_good w h)⟩
set_option maxHeartbeats 4000000 in
theorem x_walk {mt : List xM} (hC : x_okC) (hmt : ∀ (i : Nat) (M : xM), mt[i]? = some M → x_okM mt M) : ∀ (n d : Nat) (M : xM) (S : Option xS) (c0 : xC) (v : Option Value) (h' : xH) (k' z' : Nat), (∀ q ∈ x_rws M, ∀ r ∈ q.2, x_okR mt M r) → x_run mt S n d M c0 = some (v, h', k', z') → x_Wk mt d M S c0 v h' k' z' := by
  intro n
  induction n with
  | zero => intro d M S c0 v h' k' z' hM hr; cases hr
  | succ n ih =>
    intro d M S c0 v h' k' z' hM hr
    have hmo := x_mono (n + 1) d M S c0 v h' k' z' hr
    refine ⟨hmo.1, hmo.2, ?_⟩
    intro p l e R s m args below meth c Q base ad D H locs ls hx hb hml hmn X hSc hR hkR hzR hl hend
    obtain ⟨pc, L, st, h, k, z⟩ := c0
    dsimp only at hmo X hl ⊢
    unfold x_run at hr
    cases hs : x_step M S (pc, L, st, h, k, z) with
    | none => rw [hs] at hr; cases hr
    | some o =>
      rw [hs] at hr
      have hmls : c.maxLocals = ls.size := hml.trans hl.1.symm
      unfold x_step at hs
      dsimp only at hs
      cases hrow : x_row (x_rws M) pc with
      | none => rw [show x_row M.2.2.2.2.2.2.2 pc = none from hrow] at hs; cases hs
      | some r =>
        rw [show x_row M.2.2.2.2.2.2.2 pc = some r from hrow] at hs
        obtain ⟨⟨q, hq, hrq⟩, hpc⟩ := x_row_mem hrow
        obtain ⟨hd, hlen, hg⟩ := hM q hq r hrq
        rw [hpc] at hd
        obtain ⟨rpc, ins, len, a, b, w⟩ := r
        dsimp only at hs hd hlen hg
        cases hgr : x_grp ins with
        | zero =>
          rw [hgr] at hs hg
          cases hv : x_ret M.2.2.2.2.1 ins st with
          | none => rw [hv] at hs; cases hs
          | some u =>
            rw [hv] at hs
            cases hs
            cases hr
            have hl1 : len = 1 := by
              unfold x_ret at hv
              split at hv <;> first | exact hlen | cases hv
            subst hl1
            exact hend H locs ls pc ins st hd hv X
        | succ g =>
          rw [hgr] at hs hg
          cases g with
          | zero =>
            obtain ⟨pc', L', st', rfl, kk⟩ := x_s1 (p := p) (l := l) (e := e) (R := R) (below := below) (meth := meth) (H := H) (locs := locs) (cells := k) (slots := z) (Q := Q) hx hb X.1 X.2.1 hd hlen hg hSc.2.2.2.2 hs hl
            exact kk fun ls' hl' => (ih d M S _ v h' k' z' hM hr).2.2 hx hb hml hmn X hSc hR hkR hzR hl' hend
          | succ g =>
            cases g with
            | zero =>
              obtain ⟨pc', st', h1, k1, z1, rfl, hk1, hz1, kk⟩ := x_s2 (p := p) (l := l) (e := e) (R := R) (below := below) (meth := meth) (Q := Q) (ls := ls) hC hx hb hmn X hSc hd hlen hg hs
              have hm2 := x_mono n d M S _ v h' k' z' hr
              exact kk (Nat.le_trans hm2.1 hkR) (Nat.le_trans hm2.2 hzR) fun H1 locs1 X1 => (ih d M S _ v h' k' z' hM hr).2.2 hx hb hml hmn X1 hSc hR hkR hzR hl hend
            | succ g =>
              cases g with
              | zero =>
                rcases x_s3 (p := p) (l := l) (e := e) (R := R) (below := below) (meth := meth) (Q := Q) (ls := ls) hx hb hmls X hSc.2 hR hd hlen hg hs (Nat.le_trans hmo.1 hkR) (Nat.le_trans hmo.2 hzR) with ⟨pc', st', h1, k1, z1, rfl, hk1, hz1, kk⟩ | ⟨i, vs, rest, h8, hvl, hcall⟩
                · have hm2 := x_mono n d M S _ v h' k' z' hr
                  exact kk (Nat.le_trans hm2.1 hkR) (Nat.le_trans hm2.2 hzR) fun H1 locs1 X1 => (ih d M S _ v h' k' z' hM hr).2.2 hx hb hml hmn X1 hSc hR hkR hzR hl hend
                · have hres : ∃ vs' : List Value, o = .inr (.inl (a, vs', rest)) := by
                    rcases hcall with ⟨-, -, ho, -⟩ | ⟨q, sp, -, -, ho, -⟩
                    · exact ⟨_, ho⟩
                    · exact ⟨_, ho⟩
                  obtain ⟨vs', ho⟩ := hres
                  subst ho
                  cases d with
                  | zero => cases hr
                  | succ d' =>
                    dsimp only at hr
                    cases hMM : mt[a]? with
                    | none => rw [hMM] at hr; cases hr
                    | some M' =>
                      rw [hMM] at hr
                      dsimp only at hr
                      cases hbb : (Nat.ble (x_cat vs') M'.2.2.2.1 && x_rcv M' vs' h) with
                      | false => rw [hbb] at hr; cases hr
                      | true =>
                        rw [hbb] at hr
                        dsimp only [cond] at hr
                        have hbb := Bool.and_eq_true_iff.mp hbb
                        have hcat := Nat.le_of_ble_eq_true hbb.1
                        cases hr1 : x_run mt none n d' M' (0, lv_args 0 vs', [], h, 0, 0) with
                        | none => rw [hr1] at hr; cases hr
                        | some rr =>
                          obtain ⟨v1, h1, mc, ms⟩ := rr
                          rw [hr1] at hr
                          dsimp only at hr
                          have okM' := hmt a M' hMM
                          have hm2 := x_mono n (d' + 1) M S _ v h' k' z' hr
                          dsimp only at hm2
                          have wk1 := ih d' M' none _ v1 h1 mc ms okM'.2.2.2.2.2.2.2.2.2 hr1
                          have met := x_met (l := l) (base := base) (ad := ad) (D := D) okM' wk1 hcat
                          have after : ∀ (H1 : Heap) (locs1 : List Loc), x_At s m args (x_own M) D base ad h1 H1 locs1 → W p l e R s m args below meth c H1 locs1 (k + mc) (z + ms) Q (F0 m (pc + 3) ls ((v1.map (x_cv ad)).toList ++ rest.map (x_cv ad))) := by
                            intro H1 locs1 X1
                            have := (ih (d' + 1) M S _ v h' k' z' hM hr).2.2 hx hb hml hmn X1 hSc hR hkR hzR hl hend
                            dsimp only at this
                            cases v1 with
                            | none => exact this
                            | some u => exact this
                          obtain ⟨o1, o2, o3, o4, o5, o6, o7, o8, o9, -⟩ := okM'
                          have hG := x_GoodIn o5
                          obtain ⟨hown, hts, hK, hbase, w, hS⟩ := id X
                          have hroom : (x_room d' mc ms).frames + 1 ≤ R.frames ∧ 8 + (x_ml M' + 11) + (x_room d' mc ms).locals ≤ R.locals := by
                            have q1 := hR.1
                            have q2 := hR.2
                            constructor
                            · show d' + 5 + 1 ≤ _; omega
                            · show 8 + (x_ml M' + 11) + 37 * (d' + 5) ≤ _; omega
                          have hcells : k + mc ≤ R.cells ∧ z + ms ≤ R.slots := ⟨Nat.le_trans hm2.1 hkR, Nat.le_trans hm2.2 hzR⟩
                          have hpre : ∀ U : State, U.heap = H → s.WarmedH U.vm → x_Pc base ad D vs' h (vs'.map (x_cv ad)).toArray U := x_jpre X hSc.2
                          rcases hcall with ⟨hdi, ⟨M2, e2, hlk, hsta, hsp, hsn, hpar⟩, ho, hst⟩ | ⟨q, sp, hdi, ⟨M2, e2, hlk, hsta, hsp, hsn, hpar⟩, ho, hst⟩
                          · rw [hMM] at e2
                            cases e2
                            cases ho
                            have cb := callB_of (R := R) (s := s) (args := args) (own := x_own M) (index := i) (y := x_nm M') (bytes := x_cc M') (maxL := x_ml M') (ret := x_rt M') (ws := x_ws M') (rm := x_room d' mc ms) (mc := mc) (ms := ms) b hts hG rfl rfl rfl (hts _ o6) (hts _ hlk) ⟨o3.1, o3.2, hpar⟩ hroom
                            rw [hst, List.map_append, List.map_reverse]
                            refine x_cont X (va_runS (As := vs.map (x_cv ad)) (rest := rest.map (x_cv ad)) ⟨hx, hb, hml, hown, hts⟩ met ⟨cb, hts _ (o7 hsta)⟩ ⟨x_Pc_blind, hpre⟩ rfl (by rw [List.length_map]; exact hvl) hl.1 rfl (lv_room (by rw [x_cat_map]; exact h8)) hdi hcells) after
                          · rw [hMM] at e2
                            cases e2
                            cases ho
                            have cb := callB_of (R := R) (s := s) (args := args) (own := x_own M) (index := i) (y := x_nm M') (bytes := x_cc M') (maxL := x_ml M') (ret := x_rt M') (ws := x_ws M') (rm := x_room d' mc ms) (mc := mc) (ms := ms) b hts hG rfl rfl rfl (hts _ o6) (hts _ hlk) ⟨o3.1, o3.2, hpar⟩ hroom
                            rw [hst, List.map_append, List.map_reverse]
                            obtain ⟨o8a, T, N, hcl⟩ := o8 hsta
                            rcases hdi with ⟨rfl, hdi⟩ | ⟨rfl, hdi⟩
                            · have hrc : ∃ cell : Cell, H[ad q]? = some cell ∧ cell.vm.isStatics = false ∧ s.vm.findClass (x_nm M').cls = some cell.cls := by
                                have hrv := hbb.2
                                unfold x_rcv at hrv
                                rw [show M'.2.2.2.2.2.1 = false from hsta] at hrv
                                dsimp only [Bool.false_or] at hrv
                                split at hrv
                                · rename_i ci fs hq
                                  have hci := Nat.eq_of_beq_eq_true hrv
                                  subst hci
                                  obtain ⟨-, -, -, cs, hP, -⟩ := w
                                  rw [o2]
                                  exact va_recv hK hP hcl (x_cw_get hq)
                                · cases hrv
                              have hini := hsn rfl
                              · refine x_cont X (va_runV (As := vs.map (x_cv ad)) (rest := rest.map (x_cv ad)) ⟨hx, hb, hml, hown, hts⟩ met ⟨cb, hts _ o8a, hts _ (o9 hsta hini)⟩ ⟨x_Pc_blind, hrc, hpre⟩ rfl (by rw [List.length_map]; exact hvl) hl.1 rfl (lv_room (by rw [x_cat_map]; exact h8)) hdi hcells) after
                            · obtain ⟨hin, hrt⟩ := hsp rfl
                              have cb' : CallB R s args (x_own M) i (x_nm M') (x_cc M') (x_ml M') none (x_ws M') (x_room d' mc ms) mc ms b := by rw [← hrt]; exact cb
                              refine x_cont X (va_runI (As := vs.map (x_cv ad)) (rest := rest.map (x_cv ad)) ⟨hx, hb, hml, hown, hts⟩ met ⟨cb', hin, hts _ o8a⟩ ⟨x_Pc_blind, hpre⟩ rfl (by rw [List.length_map]; exact hvl) hl.1 rfl (lv_room (by rw [x_cat_map]; exact h8)) hdi hcells) after
              | succ g =>
                cases hv : x_ret M.2.2.2.2.1 ins st with
                | none => rw [hv] at hs; cases hs
                | some u =>
                  rw [hv] at hs
                  cases hs
                  cases hr
                  have hl1 : len = 1 := by
                    unfold x_ret at hv
                    split at hv <;> first | exact hlen | cases hv
                  subst hl1
                  exact hend H locs ls pc ins st hd hv X
/-! ===== the tables of the program, printed by program out of the claim's own names and tables ===== -/
noncomputable def k_cX0_init_0 : List xR := [(0, .aload_n 0, 1, 0, 0, 0), (1, .invokespecial 3, 3, 9000, 0, 0), (4, .aload_n 0, 1, 0, 0, 0), (5, .sipush 1452, 3, 0, 0, 0), (8, .newarray .int, 2, 0, 0, 0), (10, .putfield 11, 3, 0, 0, 0), (13, .return_, 1, 0, 0, 0)]
noncomputable def M_cX0_init : xM := (RX0, yX0_init, cX0_init, 1, none, false, 0, [(13, k_cX0_init_0)])
noncomputable def k_cX0_most_0 : List xR := [(0, .iconst 0, 1, 0, 0, 0), (1, .istore 5, 2, 0, 0, 0), (3, .iload 5, 2, 0, 0, 0), (5, .aload_n 0, 1, 0, 0, 0), (6, .getfield 11, 3, 0, 0, 0), (9, .arraylength, 1, 0, 0, 0), (10, .if_icmp .ge 18, 3, 0, 0, 0), (13, .aload_n 0, 1, 0, 0, 0), (14, .getfield 11, 3, 0, 0, 0), (17, .iload 5, 2, 0, 0, 0), (19, .ldc 15, 2, 2147483647, 0, 0), (21, .iastore, 1, 0, 0, 0), (22, .iinc 5 1, 3, 0, 0, 0), (25, .goto (-22), 3, 0, 0, 0), (28, .aload_n 0, 1, 0, 0, 0), (29, .aload_n 3, 1, 0, 0, 0), (30, .getfield 16, 3, 6, 4, 0), (33, .iconst 0, 1, 0, 0, 0), (34, .iconst 0, 1, 0, 0, 0), (35, .invokevirtual 22, 3, 4, 3, 0), (38, .iconst 0, 1, 0, 0, 0), (39, .istore 5, 2, 0, 0, 0), (41, .iconst 0, 1, 0, 0, 0), (42, .istore 6, 2, 0, 0, 0), (44, .iload 6, 2, 0, 0, 0), (46, .iload 4, 2, 0, 0, 0), (48, .if_icmp .ge 61, 3, 0, 0, 0), (51, .iload 6, 2, 0, 0, 0), (53, .aload_n 2, 1, 0, 0, 0), (54, .getfield 26, 3, 4, 0, 0), (57, .if_icmp .ge 52, 3, 0, 0, 0), (60, .aload_n 2, 1, 0, 0, 0)]
noncomputable def k_cX0_most_1 : List xR := [(61, .getfield 31, 3, 4, 3, 0), (64, .iload 6, 2, 0, 0, 0), (66, .iaload, 1, 0, 0, 0), (67, .ifCond .ne 36, 3, 0, 0, 0), (70, .iload 5, 2, 0, 0, 0), (72, .istore 7, 2, 0, 0, 0), (74, .iload 7, 2, 0, 0, 0), (76, .ifCond .lt 27, 3, 0, 0, 0), (79, .iload 5, 2, 0, 0, 0), (81, .aload_n 0, 1, 0, 0, 0), (82, .aload_n 1, 1, 0, 0, 0), (83, .aload_n 2, 1, 0, 0, 0), (84, .aload_n 3, 1, 0, 0, 0), (85, .iload 6, 2, 0, 0, 0), (87, .iload 7, 2, 0, 0, 0), (89, .invokevirtual 34, 3, 2, 5, 0), (92, .invokestatic 38, 3, 9001, 2, 0), (95, .istore 5, 2, 0, 0, 0), (97, .iinc 7 (-1), 3, 0, 0, 0), (100, .goto (-26), 3, 0, 0, 0), (103, .iinc 6 1, 3, 0, 0, 0), (106, .goto (-62), 3, 0, 0, 0), (109, .iload 5, 2, 0, 0, 0), (111, .ireturn, 1, 0, 0, 0)]
noncomputable def M_cX0_most : xM := (RX0, yX0_most, cX0_most, 8, (some .int), false, 0, [(60, k_cX0_most_0), (111, k_cX0_most_1)])
noncomputable def k_cX0_goOn_0 : List xR := [(0, .iload 5, 2, 0, 0, 0), (2, .istore 6, 2, 0, 0, 0), (4, .aload_n 2, 1, 0, 0, 0), (5, .getfield 44, 3, 4, 2, 0), (8, .iload 4, 2, 0, 0, 0), (10, .iaload, 1, 0, 0, 0), (11, .iconst (-1), 1, 0, 0, 0), (12, .if_icmp .ne 7, 3, 0, 0, 0), (15, .iconst 1, 1, 0, 0, 0), (16, .goto 4, 3, 0, 0, 0), (19, .iconst 2, 1, 0, 0, 0), (20, .istore 7, 2, 0, 0, 0), (22, .iconst 0, 1, 0, 0, 0), (23, .istore 8, 2, 0, 0, 0), (25, .iload 8, 2, 0, 0, 0), (27, .aload_n 1, 1, 0, 0, 0), (28, .invokevirtual 47, 3, 12, 0, 0), (31, .if_icmp .ge 200, 3, 0, 0, 0), (34, .aload_n 0, 1, 0, 0, 0), (35, .iload 8, 2, 0, 0, 0), (37, .iload 5, 2, 0, 0, 0), (39, .invokevirtual 53, 3, 3, 2, 0), (42, .istore 9, 2, 0, 0, 0), (44, .iconst 0, 1, 0, 0, 0), (45, .istore 10, 2, 0, 0, 0), (47, .iload 10, 2, 0, 0, 0), (49, .iload 7, 2, 0, 0, 0), (51, .if_icmp .ge 174, 3, 0, 0, 0), (54, .iload 9, 2, 0, 0, 0), (56, .ldc 15, 2, 2147483647, 0, 0), (58, .if_icmp .eq 167, 3, 0, 0, 0), (61, .iload 10, 2, 0, 0, 0)]
noncomputable def k_cX0_goOn_1 : List xR := [(63, .ifCond .ne 13, 3, 0, 0, 0), (66, .aload_n 2, 1, 0, 0, 0), (67, .getfield 56, 3, 4, 1, 0), (70, .iload 4, 2, 0, 0, 0), (72, .iaload, 1, 0, 0, 0), (73, .goto 10, 3, 0, 0, 0), (76, .aload_n 2, 1, 0, 0, 0), (77, .getfield 44, 3, 4, 2, 0), (80, .iload 4, 2, 0, 0, 0), (82, .iaload, 1, 0, 0, 0), (83, .istore 11, 2, 0, 0, 0), (85, .aload_n 2, 1, 0, 0, 0), (86, .iload 4, 2, 0, 0, 0), (88, .aload_n 3, 1, 0, 0, 0), (89, .aload_n 1, 1, 0, 0, 0), (90, .iload 8, 2, 0, 0, 0), (92, .iload 11, 2, 0, 0, 0), (94, .iload 9, 2, 0, 0, 0), (96, .invokevirtual 59, 3, 67, 4, 0), (99, .invokevirtual 63, 3, 52, 2, 0), (102, .istore 12, 2, 0, 0, 0), (104, .iload 12, 2, 0, 0, 0), (106, .iconst (-1), 1, 0, 0, 0), (107, .if_icmp .ne 6, 3, 0, 0, 0), (110, .goto 109, 3, 0, 0, 0), (113, .aload_n 0, 1, 0, 0, 0), (114, .iload 11, 2, 0, 0, 0), (116, .iload 5, 2, 0, 0, 0), (118, .iconst 1, 1, 0, 0, 0), (119, .iadd, 1, 0, 0, 0), (120, .iload 12, 2, 0, 0, 0), (122, .iconst 1, 1, 0, 0, 0)]
noncomputable def k_cX0_goOn_2 : List xR := [(123, .iadd, 1, 0, 0, 0), (124, .invokevirtual 22, 3, 4, 3, 0), (127, .iload 6, 2, 0, 0, 0), (129, .iload 5, 2, 0, 0, 0), (131, .iconst 1, 1, 0, 0, 0), (132, .iadd, 1, 0, 0, 0), (133, .invokestatic 38, 3, 9001, 2, 0), (136, .istore 6, 2, 0, 0, 0), (138, .iload 10, 2, 0, 0, 0), (140, .ifCond .ne 13, 3, 0, 0, 0), (143, .aload_n 2, 1, 0, 0, 0), (144, .getfield 44, 3, 4, 2, 0), (147, .iload 4, 2, 0, 0, 0), (149, .iaload, 1, 0, 0, 0), (150, .goto 10, 3, 0, 0, 0), (153, .aload_n 2, 1, 0, 0, 0), (154, .getfield 56, 3, 4, 1, 0), (157, .iload 4, 2, 0, 0, 0), (159, .iaload, 1, 0, 0, 0), (160, .istore 13, 2, 0, 0, 0), (162, .iload 13, 2, 0, 0, 0), (164, .iconst (-1), 1, 0, 0, 0), (165, .if_icmp .ne 7, 3, 0, 0, 0), (168, .iconst (-1), 1, 0, 0, 0), (169, .goto 22, 3, 0, 0, 0), (172, .aload_n 2, 1, 0, 0, 0), (173, .iload 4, 2, 0, 0, 0), (175, .aload_n 3, 1, 0, 0, 0), (176, .aload_n 1, 1, 0, 0, 0), (177, .iload 11, 2, 0, 0, 0), (179, .iload 13, 2, 0, 0, 0), (181, .iload 12, 2, 0, 0, 0)]
noncomputable def k_cX0_goOn_3 : List xR := [(183, .iconst 1, 1, 0, 0, 0), (184, .iadd, 1, 0, 0, 0), (185, .invokevirtual 59, 3, 67, 4, 0), (188, .invokevirtual 63, 3, 52, 2, 0), (191, .istore 14, 2, 0, 0, 0), (193, .iload 14, 2, 0, 0, 0), (195, .iconst (-1), 1, 0, 0, 0), (196, .if_icmp .eq 23, 3, 0, 0, 0), (199, .aload_n 0, 1, 0, 0, 0), (200, .iload 13, 2, 0, 0, 0), (202, .iload 5, 2, 0, 0, 0), (204, .iconst 2, 1, 0, 0, 0), (205, .iadd, 1, 0, 0, 0), (206, .iload 14, 2, 0, 0, 0), (208, .iconst 1, 1, 0, 0, 0), (209, .iadd, 1, 0, 0, 0), (210, .invokevirtual 22, 3, 4, 3, 0), (213, .iload 5, 2, 0, 0, 0), (215, .iconst 2, 1, 0, 0, 0), (216, .iadd, 1, 0, 0, 0), (217, .istore 6, 2, 0, 0, 0), (219, .iinc 10 1, 3, 0, 0, 0), (222, .goto (-175), 3, 0, 0, 0), (225, .iinc 8 1, 3, 0, 0, 0), (228, .goto (-203), 3, 0, 0, 0), (231, .iload 6, 2, 0, 0, 0), (233, .ireturn, 1, 0, 0, 0)]
noncomputable def M_cX0_goOn : xM := (RX0, yX0_goOn, cX0_goOn, 15, (some .int), false, 0, [(61, k_cX0_goOn_0), (122, k_cX0_goOn_1), (181, k_cX0_goOn_2), (233, k_cX0_goOn_3)])
noncomputable def k_cX0_freeAt_0 : List xR := [(0, .iload_n 1, 1, 0, 0, 0), (1, .bipush 121, 2, 0, 0, 0), (3, .imul, 1, 0, 0, 0), (4, .iload_n 2, 1, 0, 0, 0), (5, .iadd, 1, 0, 0, 0), (6, .istore_n 3, 1, 0, 0, 0), (7, .iload_n 3, 1, 0, 0, 0), (8, .ifCond .lt 21, 3, 0, 0, 0), (11, .iload_n 3, 1, 0, 0, 0), (12, .aload_n 0, 1, 0, 0, 0), (13, .getfield 11, 3, 0, 0, 0), (16, .arraylength, 1, 0, 0, 0), (17, .if_icmp .ge 12, 3, 0, 0, 0), (20, .aload_n 0, 1, 0, 0, 0), (21, .getfield 11, 3, 0, 0, 0), (24, .iload_n 3, 1, 0, 0, 0), (25, .iaload, 1, 0, 0, 0), (26, .goto 5, 3, 0, 0, 0), (29, .ldc 15, 2, 2147483647, 0, 0), (31, .ireturn, 1, 0, 0, 0)]
noncomputable def M_cX0_freeAt : xM := (RX0, yX0_freeAt, cX0_freeAt, 4, (some .int), false, 0, [(31, k_cX0_freeAt_0)])
noncomputable def k_cX0_keep_0 : List xR := [(0, .iload_n 1, 1, 0, 0, 0), (1, .bipush 121, 2, 0, 0, 0), (3, .imul, 1, 0, 0, 0), (4, .iload_n 2, 1, 0, 0, 0), (5, .iadd, 1, 0, 0, 0), (6, .istore 4, 2, 0, 0, 0), (8, .iload 4, 2, 0, 0, 0), (10, .ifCond .lt 32, 3, 0, 0, 0), (13, .iload 4, 2, 0, 0, 0), (15, .aload_n 0, 1, 0, 0, 0), (16, .getfield 11, 3, 0, 0, 0), (19, .arraylength, 1, 0, 0, 0), (20, .if_icmp .ge 22, 3, 0, 0, 0), (23, .iload_n 3, 1, 0, 0, 0), (24, .aload_n 0, 1, 0, 0, 0), (25, .getfield 11, 3, 0, 0, 0), (28, .iload 4, 2, 0, 0, 0), (30, .iaload, 1, 0, 0, 0), (31, .if_icmp .ge 11, 3, 0, 0, 0), (34, .aload_n 0, 1, 0, 0, 0), (35, .getfield 11, 3, 0, 0, 0), (38, .iload 4, 2, 0, 0, 0), (40, .iload_n 3, 1, 0, 0, 0), (41, .iastore, 1, 0, 0, 0), (42, .return_, 1, 0, 0, 0)]
noncomputable def M_cX0_keep : xM := (RX0, yX0_keep, cX0_keep, 5, none, false, 0, [(42, k_cX0_keep_0)])
noncomputable def k_cX1_init_0 : List xR := [(0, .aload_n 0, 1, 0, 0, 0), (1, .invokespecial 3, 3, 9000, 0, 0), (4, .aload_n 0, 1, 0, 0, 0), (5, .bipush 60, 2, 0, 0, 0), (7, .newarray .int, 2, 0, 0, 0), (9, .putfield 9, 3, 1, 3, 0), (12, .return_, 1, 0, 0, 0)]
noncomputable def M_cX1_init : xM := (RX1, yX1_init, cX1_init, 1, none, false, 1, [(12, k_cX1_init_0)])
noncomputable def k_cX1_judge_0 : List xR := [(0, .aload_n 0, 1, 0, 0, 0), (1, .iconst 0, 1, 0, 0, 0), (2, .putfield 15, 3, 1, 0, 0), (5, .aload_n 0, 1, 0, 0, 0), (6, .iconst 0, 1, 0, 0, 0), (7, .putfield 19, 3, 1, 1, 0), (10, .aload_n 0, 1, 0, 0, 0), (11, .iconst 0, 1, 0, 0, 0), (12, .putfield 22, 3, 1, 2, 0), (15, .iconst 0, 1, 0, 0, 0), (16, .istore 4, 2, 0, 0, 0), (18, .iload 4, 2, 0, 0, 0), (20, .aload_n 1, 1, 0, 0, 0), (21, .getfield 25, 3, 4, 0, 0), (24, .if_icmp .ge 17, 3, 0, 0, 0), (27, .aload_n 0, 1, 0, 0, 0), (28, .getfield 9, 3, 1, 3, 0), (31, .iload 4, 2, 0, 0, 0), (33, .iconst 0, 1, 0, 0, 0), (34, .iastore, 1, 0, 0, 0), (35, .iinc 4 1, 3, 0, 0, 0), (38, .goto (-20), 3, 0, 0, 0), (41, .iconst 0, 1, 0, 0, 0), (42, .istore 4, 2, 0, 0, 0), (44, .iload 4, 2, 0, 0, 0), (46, .iconst 1, 1, 0, 0, 0), (47, .iadd, 1, 0, 0, 0), (48, .aload_n 2, 1, 0, 0, 0), (49, .getfield 30, 3, 8, 0, 0), (52, .if_icmp .ge 33, 3, 0, 0, 0), (55, .aload_n 0, 1, 0, 0, 0), (56, .aload_n 1, 1, 0, 0, 0)]
noncomputable def k_cX1_judge_1 : List xR := [(57, .aload_n 2, 1, 0, 0, 0), (58, .getfield 33, 3, 8, 2, 0), (61, .iload 4, 2, 0, 0, 0), (63, .laload, 1, 0, 0, 0), (64, .l2i, 1, 0, 0, 0), (65, .aload_n 2, 1, 0, 0, 0), (66, .getfield 33, 3, 8, 2, 0), (69, .iload 4, 2, 0, 0, 0), (71, .iconst 1, 1, 0, 0, 0), (72, .iadd, 1, 0, 0, 0), (73, .laload, 1, 0, 0, 0), (74, .l2i, 1, 0, 0, 0), (75, .iload_n 3, 1, 0, 0, 0), (76, .invokevirtual 37, 3, 7, 4, 0), (79, .iinc 4 2, 3, 0, 0, 0), (82, .goto (-38), 3, 0, 0, 0), (85, .return_, 1, 0, 0, 0)]
noncomputable def M_cX1_judge : xM := (RX1, yX1_judge, cX1_judge, 5, none, false, 1, [(56, k_cX1_judge_0), (85, k_cX1_judge_1)])
noncomputable def k_cX1_judgeOne_0 : List xR := [(0, .aload_n 1, 1, 0, 0, 0), (1, .iload_n 3, 1, 0, 0, 0), (2, .invokevirtual 41, 3, 48, 1, 0), (5, .istore 5, 2, 0, 0, 0), (7, .aload_n 1, 1, 0, 0, 0), (8, .iload 5, 2, 0, 0, 0), (10, .invokevirtual 45, 3, 41, 1, 0), (13, .ifCond .eq 26, 3, 0, 0, 0), (16, .aload_n 1, 1, 0, 0, 0), (17, .iload 5, 2, 0, 0, 0), (19, .invokevirtual 49, 3, 49, 1, 0), (22, .aload_n 0, 1, 0, 0, 0), (23, .getfield 9, 3, 1, 3, 0), (26, .iload 5, 2, 0, 0, 0), (28, .iaload, 1, 0, 0, 0), (29, .iconst (-1), 1, 0, 0, 0), (30, .ixor, 1, 0, 0, 0), (31, .iand, 1, 0, 0, 0), (32, .iconst 1, 1, 0, 0, 0), (33, .iload_n 2, 1, 0, 0, 0), (34, .ishl, 1, 0, 0, 0), (35, .iand, 1, 0, 0, 0), (36, .ifCond .ne 4, 3, 0, 0, 0), (39, .return_, 1, 0, 0, 0), (40, .aload_n 0, 1, 0, 0, 0), (41, .getfield 9, 3, 1, 3, 0), (44, .iload 5, 2, 0, 0, 0), (46, .dup2, 1, 0, 0, 0), (47, .iaload, 1, 0, 0, 0), (48, .iconst 1, 1, 0, 0, 0), (49, .iload_n 2, 1, 0, 0, 0), (50, .ishl, 1, 0, 0, 0)]
noncomputable def k_cX1_judgeOne_1 : List xR := [(51, .ior, 1, 0, 0, 0), (52, .iastore, 1, 0, 0, 0), (53, .aload_n 1, 1, 0, 0, 0), (54, .getfield 52, 3, 4, 3, 0), (57, .iload 5, 2, 0, 0, 0), (59, .iaload, 1, 0, 0, 0), (60, .ifCond .ne 16, 3, 0, 0, 0), (63, .aload_n 0, 1, 0, 0, 0), (64, .dup, 1, 0, 0, 0), (65, .getfield 15, 3, 1, 0, 0), (68, .iconst 1, 1, 0, 0, 0), (69, .iadd, 1, 0, 0, 0), (70, .putfield 15, 3, 1, 0, 0), (73, .goto 13, 3, 0, 0, 0), (76, .aload_n 0, 1, 0, 0, 0), (77, .dup, 1, 0, 0, 0), (78, .getfield 19, 3, 1, 1, 0), (81, .iconst 1, 1, 0, 0, 0), (82, .iadd, 1, 0, 0, 0), (83, .putfield 19, 3, 1, 1, 0), (86, .iload_n 3, 1, 0, 0, 0), (87, .aload_n 1, 1, 0, 0, 0), (88, .getfield 55, 3, 4, 4, 0), (91, .iload 5, 2, 0, 0, 0), (93, .iaload, 1, 0, 0, 0), (94, .isub, 1, 0, 0, 0), (95, .iload 4, 2, 0, 0, 0), (97, .if_icmp .ge 13, 3, 0, 0, 0), (100, .aload_n 0, 1, 0, 0, 0), (101, .dup, 1, 0, 0, 0), (102, .getfield 22, 3, 1, 2, 0), (105, .iconst 1, 1, 0, 0, 0)]
noncomputable def k_cX1_judgeOne_2 : List xR := [(106, .iadd, 1, 0, 0, 0), (107, .putfield 22, 3, 1, 2, 0), (110, .return_, 1, 0, 0, 0)]
noncomputable def M_cX1_judgeOne : xM := (RX1, yX1_judgeOne, cX1_judgeOne, 6, none, false, 1, [(50, k_cX1_judgeOne_0), (105, k_cX1_judgeOne_1), (110, k_cX1_judgeOne_2)])
noncomputable def k_cX2_init_0 : List xR := [(0, .aload_n 0, 1, 0, 0, 0), (1, .invokespecial 3, 3, 9000, 0, 0), (4, .aload_n 0, 1, 0, 0, 0), (5, .bipush 6, 2, 0, 0, 0), (7, .newarray .int, 2, 0, 0, 0), (9, .putfield 9, 3, 2, 11, 0), (12, .aload_n 0, 1, 0, 0, 0), (13, .bipush 6, 2, 0, 0, 0), (15, .newarray .int, 2, 0, 0, 0), (17, .putfield 15, 3, 2, 12, 0), (20, .aload_n 0, 1, 0, 0, 0), (21, .bipush 20, 2, 0, 0, 0), (23, .newarray .int, 2, 0, 0, 0), (25, .putfield 18, 3, 2, 13, 0), (28, .aload_n 0, 1, 0, 0, 0), (29, .new 21, 3, 3, 5, 0), (32, .dup, 1, 0, 0, 0), (33, .invokespecial 23, 3, 28, 0, 0), (36, .putfield 24, 3, 2, 14, 0), (39, .return_, 1, 0, 0, 0)]
noncomputable def M_cX2_init : xM := (RX2, yX2_init, cX2_init, 1, none, false, 2, [(39, k_cX2_init_0)])
noncomputable def k_cX2_empty_0 : List xR := [(0, .aload_n 0, 1, 0, 0, 0), (1, .iconst 0, 1, 0, 0, 0), (2, .putfield 28, 3, 2, 1, 0), (5, .aload_n 0, 1, 0, 0, 0), (6, .iconst 0, 1, 0, 0, 0), (7, .putfield 32, 3, 2, 2, 0), (10, .aload_n 0, 1, 0, 0, 0), (11, .iconst 0, 1, 0, 0, 0), (12, .putfield 35, 3, 2, 3, 0), (15, .aload_n 0, 1, 0, 0, 0), (16, .iconst 0, 1, 0, 0, 0), (17, .putfield 38, 3, 2, 4, 0), (20, .aload_n 0, 1, 0, 0, 0), (21, .iconst 0, 1, 0, 0, 0), (22, .putfield 41, 3, 2, 5, 0), (25, .aload_n 0, 1, 0, 0, 0), (26, .iconst 0, 1, 0, 0, 0), (27, .putfield 44, 3, 2, 6, 0), (30, .aload_n 0, 1, 0, 0, 0), (31, .iconst 0, 1, 0, 0, 0), (32, .putfield 47, 3, 2, 7, 0), (35, .aload_n 0, 1, 0, 0, 0), (36, .iconst 1, 1, 0, 0, 0), (37, .putfield 50, 3, 2, 8, 0), (40, .aload_n 0, 1, 0, 0, 0), (41, .bipush 100, 2, 0, 0, 0), (43, .putfield 53, 3, 2, 9, 0), (46, .aload_n 0, 1, 0, 0, 0), (47, .iconst 0, 1, 0, 0, 0), (48, .putfield 56, 3, 2, 10, 0), (51, .aload_n 0, 1, 0, 0, 0), (52, .getfield 24, 3, 2, 14, 0)]
noncomputable def k_cX2_empty_1 : List xR := [(55, .invokevirtual 59, 3, 29, 0, 0), (58, .return_, 1, 0, 0, 0)]
noncomputable def M_cX2_empty : xM := (RX2, yX2_empty, cX2_empty, 1, none, false, 2, [(52, k_cX2_empty_0), (58, k_cX2_empty_1)])
noncomputable def k_cX2_copy_0 : List xR := [(0, .aload_n 0, 1, 0, 0, 0), (1, .aload_n 1, 1, 0, 0, 0), (2, .getfield 28, 3, 2, 1, 0), (5, .putfield 28, 3, 2, 1, 0), (8, .aload_n 0, 1, 0, 0, 0), (9, .aload_n 1, 1, 0, 0, 0), (10, .getfield 32, 3, 2, 2, 0), (13, .putfield 32, 3, 2, 2, 0), (16, .aload_n 0, 1, 0, 0, 0), (17, .aload_n 1, 1, 0, 0, 0), (18, .getfield 35, 3, 2, 3, 0), (21, .putfield 35, 3, 2, 3, 0), (24, .aload_n 0, 1, 0, 0, 0), (25, .aload_n 1, 1, 0, 0, 0), (26, .getfield 38, 3, 2, 4, 0), (29, .putfield 38, 3, 2, 4, 0), (32, .aload_n 0, 1, 0, 0, 0), (33, .aload_n 1, 1, 0, 0, 0), (34, .getfield 41, 3, 2, 5, 0), (37, .putfield 41, 3, 2, 5, 0), (40, .aload_n 0, 1, 0, 0, 0), (41, .aload_n 1, 1, 0, 0, 0), (42, .getfield 44, 3, 2, 6, 0), (45, .putfield 44, 3, 2, 6, 0), (48, .aload_n 0, 1, 0, 0, 0), (49, .aload_n 1, 1, 0, 0, 0), (50, .getfield 47, 3, 2, 7, 0), (53, .putfield 47, 3, 2, 7, 0), (56, .aload_n 0, 1, 0, 0, 0), (57, .aload_n 1, 1, 0, 0, 0), (58, .getfield 50, 3, 2, 8, 0), (61, .putfield 50, 3, 2, 8, 0)]
noncomputable def k_cX2_copy_1 : List xR := [(64, .aload_n 0, 1, 0, 0, 0), (65, .aload_n 1, 1, 0, 0, 0), (66, .getfield 53, 3, 2, 9, 0), (69, .putfield 53, 3, 2, 9, 0), (72, .aload_n 0, 1, 0, 0, 0), (73, .aload_n 1, 1, 0, 0, 0), (74, .getfield 56, 3, 2, 10, 0), (77, .putfield 56, 3, 2, 10, 0), (80, .aload_n 1, 1, 0, 0, 0), (81, .getfield 9, 3, 2, 11, 0), (84, .iconst 0, 1, 0, 0, 0), (85, .aload_n 0, 1, 0, 0, 0), (86, .getfield 9, 3, 2, 11, 0), (89, .iconst 0, 1, 0, 0, 0), (90, .bipush 6, 2, 0, 0, 0), (92, .invokestatic 62, 3, 9004, 5, 0), (95, .aload_n 1, 1, 0, 0, 0), (96, .getfield 15, 3, 2, 12, 0), (99, .iconst 0, 1, 0, 0, 0), (100, .aload_n 0, 1, 0, 0, 0), (101, .getfield 15, 3, 2, 12, 0), (104, .iconst 0, 1, 0, 0, 0), (105, .bipush 6, 2, 0, 0, 0), (107, .invokestatic 62, 3, 9004, 5, 0), (110, .aload_n 1, 1, 0, 0, 0), (111, .getfield 18, 3, 2, 13, 0), (114, .iconst 0, 1, 0, 0, 0), (115, .aload_n 0, 1, 0, 0, 0), (116, .getfield 18, 3, 2, 13, 0), (119, .iconst 0, 1, 0, 0, 0), (120, .bipush 20, 2, 0, 0, 0), (122, .invokestatic 62, 3, 9004, 5, 0)]
noncomputable def k_cX2_copy_2 : List xR := [(125, .aload_n 0, 1, 0, 0, 0), (126, .getfield 24, 3, 2, 14, 0), (129, .aload_n 1, 1, 0, 0, 0), (130, .getfield 24, 3, 2, 14, 0), (133, .invokevirtual 68, 3, 30, 1, 0), (136, .return_, 1, 0, 0, 0)]
noncomputable def M_cX2_copy : xM := (RX2, yX2_copy, cX2_copy, 2, none, false, 2, [(61, k_cX2_copy_0), (122, k_cX2_copy_1), (136, k_cX2_copy_2)])
noncomputable def k_cX2_isTold_0 : List xR := [(0, .aload_n 0, 1, 0, 0, 0), (1, .getfield 28, 3, 2, 1, 0), (4, .ifCond .le 7, 3, 0, 0, 0), (7, .iconst 1, 1, 0, 0, 0), (8, .goto 4, 3, 0, 0, 0), (11, .iconst 0, 1, 0, 0, 0), (12, .ireturn, 1, 0, 0, 0)]
noncomputable def M_cX2_isTold : xM := (RX2, yX2_isTold, cX2_isTold, 1, (some .boolean), false, 2, [(12, k_cX2_isTold_0)])
noncomputable def k_cX2_holes_0 : List xR := [(0, .aload_n 0, 1, 0, 0, 0), (1, .getfield 32, 3, 2, 2, 0), (4, .aload_n 0, 1, 0, 0, 0), (5, .getfield 35, 3, 2, 3, 0), (8, .imul, 1, 0, 0, 0), (9, .ireturn, 1, 0, 0, 0)]
noncomputable def M_cX2_holes : xM := (RX2, yX2_holes, cX2_holes, 1, (some .int), false, 2, [(9, k_cX2_holes_0)])
noncomputable def k_cX2_isHole_0 : List xR := [(0, .iload_n 1, 1, 0, 0, 0), (1, .ifCond .lt 15, 3, 0, 0, 0), (4, .iload_n 1, 1, 0, 0, 0), (5, .aload_n 0, 1, 0, 0, 0), (6, .invokevirtual 72, 3, 12, 0, 0), (9, .if_icmp .ge 7, 3, 0, 0, 0), (12, .iconst 1, 1, 0, 0, 0), (13, .goto 4, 3, 0, 0, 0), (16, .iconst 0, 1, 0, 0, 0), (17, .ireturn, 1, 0, 0, 0)]
noncomputable def M_cX2_isHole : xM := (RX2, yX2_isHole, cX2_isHole, 2, (some .boolean), false, 2, [(17, k_cX2_isHole_0)])
noncomputable def k_cX2_isTick_0 : List xR := [(0, .iload_n 1, 1, 0, 0, 0), (1, .ifCond .lt 15, 3, 0, 0, 0), (4, .iload_n 1, 1, 0, 0, 0), (5, .aload_n 0, 1, 0, 0, 0), (6, .getfield 38, 3, 2, 4, 0), (9, .if_icmp .ge 7, 3, 0, 0, 0), (12, .iconst 1, 1, 0, 0, 0), (13, .goto 4, 3, 0, 0, 0), (16, .iconst 0, 1, 0, 0, 0), (17, .ireturn, 1, 0, 0, 0)]
noncomputable def M_cX2_isTick : xM := (RX2, yX2_isTick, cX2_isTick, 2, (some .boolean), false, 2, [(17, k_cX2_isTick_0)])
noncomputable def k_cX2_isPlayer_0 : List xR := [(0, .iload_n 1, 1, 0, 0, 0), (1, .ifCond .lt 15, 3, 0, 0, 0), (4, .iload_n 1, 1, 0, 0, 0), (5, .aload_n 0, 1, 0, 0, 0), (6, .getfield 47, 3, 2, 7, 0), (9, .if_icmp .ge 7, 3, 0, 0, 0), (12, .iconst 1, 1, 0, 0, 0), (13, .goto 4, 3, 0, 0, 0), (16, .iconst 0, 1, 0, 0, 0), (17, .ireturn, 1, 0, 0, 0)]
noncomputable def M_cX2_isPlayer : xM := (RX2, yX2_isPlayer, cX2_isPlayer, 2, (some .boolean), false, 2, [(17, k_cX2_isPlayer_0)])
noncomputable def k_cX2_isShut_0 : List xR := [(0, .aload_n 0, 1, 0, 0, 0), (1, .getfield 44, 3, 2, 6, 0), (4, .iload_n 1, 1, 0, 0, 0), (5, .ishr, 1, 0, 0, 0), (6, .iconst 1, 1, 0, 0, 0), (7, .iand, 1, 0, 0, 0), (8, .ifCond .eq 7, 3, 0, 0, 0), (11, .iconst 1, 1, 0, 0, 0), (12, .goto 4, 3, 0, 0, 0), (15, .iconst 0, 1, 0, 0, 0), (16, .ireturn, 1, 0, 0, 0)]
noncomputable def M_cX2_isShut : xM := (RX2, yX2_isShut, cX2_isShut, 2, (some .boolean), false, 2, [(16, k_cX2_isShut_0)])
noncomputable def k_cX2_openHoles_0 : List xR := [(0, .aload_n 0, 1, 0, 0, 0), (1, .invokevirtual 72, 3, 12, 0, 0), (4, .aload_n 0, 1, 0, 0, 0), (5, .getfield 44, 3, 2, 6, 0), (8, .invokestatic 76, 3, 356, 1, 0), (11, .isub, 1, 0, 0, 0), (12, .ireturn, 1, 0, 0, 0)]
noncomputable def M_cX2_openHoles : xM := (RX2, yX2_openHoles, cX2_openHoles, 1, (some .int), false, 2, [(12, k_cX2_openHoles_0)])
noncomputable def k_cX2_apart_0 : List xR := [(0, .aload_n 0, 1, 0, 0, 0), (1, .getfield 32, 3, 2, 2, 0), (4, .ifCond .gt 5, 3, 0, 0, 0), (7, .iconst 0, 1, 0, 0, 0), (8, .ireturn, 1, 0, 0, 0), (9, .iload_n 1, 1, 0, 0, 0), (10, .aload_n 0, 1, 0, 0, 0), (11, .getfield 32, 3, 2, 2, 0), (14, .idiv, 1, 0, 0, 0), (15, .iload_n 2, 1, 0, 0, 0), (16, .aload_n 0, 1, 0, 0, 0), (17, .getfield 32, 3, 2, 2, 0), (20, .idiv, 1, 0, 0, 0), (21, .isub, 1, 0, 0, 0), (22, .invokestatic 82, 3, 9003, 1, 0), (25, .iload_n 1, 1, 0, 0, 0), (26, .aload_n 0, 1, 0, 0, 0), (27, .getfield 32, 3, 2, 2, 0), (30, .irem, 1, 0, 0, 0), (31, .iload_n 2, 1, 0, 0, 0), (32, .aload_n 0, 1, 0, 0, 0), (33, .getfield 32, 3, 2, 2, 0), (36, .irem, 1, 0, 0, 0), (37, .isub, 1, 0, 0, 0), (38, .invokestatic 82, 3, 9003, 1, 0), (41, .iadd, 1, 0, 0, 0), (42, .ireturn, 1, 0, 0, 0)]
noncomputable def M_cX2_apart : xM := (RX2, yX2_apart, cX2_apart, 3, (some .int), false, 2, [(42, k_cX2_apart_0)])
noncomputable def k_cX2_stepsToAll_0 : List xR := [(0, .iconst 0, 1, 0, 0, 0), (1, .istore_n 2, 1, 0, 0, 0), (2, .iconst 0, 1, 0, 0, 0), (3, .istore_n 3, 1, 0, 0, 0), (4, .iload_n 3, 1, 0, 0, 0), (5, .aload_n 0, 1, 0, 0, 0), (6, .invokevirtual 72, 3, 12, 0, 0), (9, .if_icmp .ge 26, 3, 0, 0, 0), (12, .aload_n 0, 1, 0, 0, 0), (13, .iload_n 3, 1, 0, 0, 0), (14, .invokevirtual 87, 3, 16, 1, 0), (17, .ifCond .ne 12, 3, 0, 0, 0), (20, .iload_n 2, 1, 0, 0, 0), (21, .aload_n 0, 1, 0, 0, 0), (22, .iload_n 1, 1, 0, 0, 0), (23, .iload_n 3, 1, 0, 0, 0), (24, .invokevirtual 91, 3, 18, 2, 0), (27, .iadd, 1, 0, 0, 0), (28, .istore_n 2, 1, 0, 0, 0), (29, .iinc 3 1, 3, 0, 0, 0), (32, .goto (-28), 3, 0, 0, 0), (35, .iload_n 2, 1, 0, 0, 0), (36, .ireturn, 1, 0, 0, 0)]
noncomputable def M_cX2_stepsToAll : xM := (RX2, yX2_stepsToAll, cX2_stepsToAll, 4, (some .int), false, 2, [(36, k_cX2_stepsToAll_0)])
noncomputable def k_cX2_pathRound_0 : List xR := [(0, .iconst 0, 1, 0, 0, 0), (1, .istore_n 1, 1, 0, 0, 0), (2, .iconst 0, 1, 0, 0, 0), (3, .istore_n 2, 1, 0, 0, 0), (4, .iload_n 2, 1, 0, 0, 0), (5, .aload_n 0, 1, 0, 0, 0), (6, .getfield 24, 3, 2, 14, 0), (9, .getfield 95, 3, 3, 0, 0), (12, .if_icmp .ge 34, 3, 0, 0, 0), (15, .iload_n 1, 1, 0, 0, 0), (16, .aload_n 0, 1, 0, 0, 0), (17, .aload_n 0, 1, 0, 0, 0), (18, .getfield 24, 3, 2, 14, 0), (21, .iload_n 2, 1, 0, 0, 0), (22, .invokevirtual 98, 3, 35, 1, 0), (25, .aload_n 0, 1, 0, 0, 0), (26, .getfield 24, 3, 2, 14, 0), (29, .iload_n 2, 1, 0, 0, 0), (30, .iconst 1, 1, 0, 0, 0), (31, .iadd, 1, 0, 0, 0), (32, .invokevirtual 98, 3, 35, 1, 0), (35, .invokevirtual 91, 3, 18, 2, 0), (38, .iadd, 1, 0, 0, 0), (39, .istore_n 1, 1, 0, 0, 0), (40, .iinc 2 1, 3, 0, 0, 0), (43, .goto (-39), 3, 0, 0, 0), (46, .iload_n 1, 1, 0, 0, 0), (47, .ireturn, 1, 0, 0, 0)]
noncomputable def M_cX2_pathRound : xM := (RX2, yX2_pathRound, cX2_pathRound, 3, (some .int), false, 2, [(47, k_cX2_pathRound_0)])
noncomputable def k_cX2_stayIn_0 : List xR := [(0, .iconst (-1), 1, 0, 0, 0), (1, .istore_n 2, 1, 0, 0, 0), (2, .bipush 7, 2, 0, 0, 0), (4, .istore_n 3, 1, 0, 0, 0), (5, .iconst 0, 1, 0, 0, 0), (6, .istore 4, 2, 0, 0, 0), (8, .iload 4, 2, 0, 0, 0), (10, .aload_n 0, 1, 0, 0, 0), (11, .getfield 56, 3, 2, 10, 0), (14, .if_icmp .ge 47, 3, 0, 0, 0), (17, .aload_n 0, 1, 0, 0, 0), (18, .getfield 9, 3, 2, 11, 0), (21, .iload 4, 2, 0, 0, 0), (23, .iaload, 1, 0, 0, 0), (24, .iload_n 1, 1, 0, 0, 0), (25, .if_icmp .gt 30, 3, 0, 0, 0), (28, .aload_n 0, 1, 0, 0, 0), (29, .getfield 9, 3, 2, 11, 0), (32, .iload 4, 2, 0, 0, 0), (34, .iaload, 1, 0, 0, 0), (35, .iload_n 2, 1, 0, 0, 0), (36, .if_icmp .le 19, 3, 0, 0, 0), (39, .aload_n 0, 1, 0, 0, 0), (40, .getfield 9, 3, 2, 11, 0), (43, .iload 4, 2, 0, 0, 0), (45, .iaload, 1, 0, 0, 0), (46, .istore_n 2, 1, 0, 0, 0), (47, .aload_n 0, 1, 0, 0, 0), (48, .getfield 15, 3, 2, 12, 0), (51, .iload 4, 2, 0, 0, 0), (53, .iaload, 1, 0, 0, 0), (54, .istore_n 3, 1, 0, 0, 0)]
noncomputable def k_cX2_stayIn_1 : List xR := [(55, .iinc 4 1, 3, 0, 0, 0), (58, .goto (-50), 3, 0, 0, 0), (61, .iload_n 3, 1, 0, 0, 0), (62, .ireturn, 1, 0, 0, 0)]
noncomputable def M_cX2_stayIn : xM := (RX2, yX2_stayIn, cX2_stayIn, 5, (some .int), false, 2, [(54, k_cX2_stayIn_0), (62, k_cX2_stayIn_1)])
noncomputable def k_cX2_hasStayFrom_0 : List xR := [(0, .iconst 0, 1, 0, 0, 0), (1, .istore_n 2, 1, 0, 0, 0), (2, .iload_n 2, 1, 0, 0, 0), (3, .aload_n 0, 1, 0, 0, 0), (4, .getfield 56, 3, 2, 10, 0), (7, .if_icmp .ge 21, 3, 0, 0, 0), (10, .aload_n 0, 1, 0, 0, 0), (11, .getfield 9, 3, 2, 11, 0), (14, .iload_n 2, 1, 0, 0, 0), (15, .iaload, 1, 0, 0, 0), (16, .iload_n 1, 1, 0, 0, 0), (17, .if_icmp .ne 5, 3, 0, 0, 0), (20, .iconst 1, 1, 0, 0, 0), (21, .ireturn, 1, 0, 0, 0), (22, .iinc 2 1, 3, 0, 0, 0), (25, .goto (-23), 3, 0, 0, 0), (28, .iconst 0, 1, 0, 0, 0), (29, .ireturn, 1, 0, 0, 0)]
noncomputable def M_cX2_hasStayFrom : xM := (RX2, yX2_hasStayFrom, cX2_hasStayFrom, 3, (some .boolean), false, 2, [(29, k_cX2_hasStayFrom_0)])
noncomputable def k_cX2_setStay_0 : List xR := [(0, .iconst 0, 1, 0, 0, 0), (1, .istore_n 3, 1, 0, 0, 0), (2, .iload_n 3, 1, 0, 0, 0), (3, .aload_n 0, 1, 0, 0, 0), (4, .getfield 56, 3, 2, 10, 0), (7, .if_icmp .ge 27, 3, 0, 0, 0), (10, .aload_n 0, 1, 0, 0, 0), (11, .getfield 9, 3, 2, 11, 0), (14, .iload_n 3, 1, 0, 0, 0), (15, .iaload, 1, 0, 0, 0), (16, .iload_n 2, 1, 0, 0, 0), (17, .if_icmp .ne 11, 3, 0, 0, 0), (20, .aload_n 0, 1, 0, 0, 0), (21, .getfield 15, 3, 2, 12, 0), (24, .iload_n 3, 1, 0, 0, 0), (25, .iload_n 1, 1, 0, 0, 0), (26, .iastore, 1, 0, 0, 0), (27, .return_, 1, 0, 0, 0), (28, .iinc 3 1, 3, 0, 0, 0), (31, .goto (-29), 3, 0, 0, 0), (34, .aload_n 0, 1, 0, 0, 0), (35, .getfield 56, 3, 2, 10, 0), (38, .bipush 6, 2, 0, 0, 0), (40, .if_icmp .ge 33, 3, 0, 0, 0), (43, .aload_n 0, 1, 0, 0, 0), (44, .getfield 9, 3, 2, 11, 0), (47, .aload_n 0, 1, 0, 0, 0), (48, .getfield 56, 3, 2, 10, 0), (51, .iload_n 2, 1, 0, 0, 0), (52, .iastore, 1, 0, 0, 0), (53, .aload_n 0, 1, 0, 0, 0), (54, .getfield 15, 3, 2, 12, 0)]
noncomputable def k_cX2_setStay_1 : List xR := [(57, .aload_n 0, 1, 0, 0, 0), (58, .getfield 56, 3, 2, 10, 0), (61, .iload_n 1, 1, 0, 0, 0), (62, .iastore, 1, 0, 0, 0), (63, .aload_n 0, 1, 0, 0, 0), (64, .dup, 1, 0, 0, 0), (65, .getfield 56, 3, 2, 10, 0), (68, .iconst 1, 1, 0, 0, 0), (69, .iadd, 1, 0, 0, 0), (70, .putfield 56, 3, 2, 10, 0), (73, .return_, 1, 0, 0, 0)]
noncomputable def M_cX2_setStay : xM := (RX2, yX2_setStay, cX2_setStay, 4, none, false, 2, [(54, k_cX2_setStay_0), (73, k_cX2_setStay_1)])
noncomputable def k_cX2_trait_0 : List xR := [(0, .iload_n 1, 1, 0, 0, 0), (1, .iconst 5, 1, 0, 0, 0), (2, .imul, 1, 0, 0, 0), (3, .iload_n 2, 1, 0, 0, 0), (4, .iadd, 1, 0, 0, 0), (5, .istore_n 3, 1, 0, 0, 0), (6, .iload_n 3, 1, 0, 0, 0), (7, .ifCond .lt 21, 3, 0, 0, 0), (10, .iload_n 3, 1, 0, 0, 0), (11, .aload_n 0, 1, 0, 0, 0), (12, .getfield 18, 3, 2, 13, 0), (15, .arraylength, 1, 0, 0, 0), (16, .if_icmp .ge 12, 3, 0, 0, 0), (19, .aload_n 0, 1, 0, 0, 0), (20, .getfield 18, 3, 2, 13, 0), (23, .iload_n 3, 1, 0, 0, 0), (24, .iaload, 1, 0, 0, 0), (25, .goto 4, 3, 0, 0, 0), (28, .iconst 0, 1, 0, 0, 0), (29, .ireturn, 1, 0, 0, 0)]
noncomputable def M_cX2_trait : xM := (RX2, yX2_trait, cX2_trait, 4, (some .int), false, 2, [(29, k_cX2_trait_0)])
noncomputable def k_cX2_setTrait_0 : List xR := [(0, .iload_n 1, 1, 0, 0, 0), (1, .iconst 5, 1, 0, 0, 0), (2, .imul, 1, 0, 0, 0), (3, .iload_n 2, 1, 0, 0, 0), (4, .iadd, 1, 0, 0, 0), (5, .istore 4, 2, 0, 0, 0), (7, .iload 4, 2, 0, 0, 0), (9, .ifCond .lt 21, 3, 0, 0, 0), (12, .iload 4, 2, 0, 0, 0), (14, .aload_n 0, 1, 0, 0, 0), (15, .getfield 18, 3, 2, 13, 0), (18, .arraylength, 1, 0, 0, 0), (19, .if_icmp .ge 11, 3, 0, 0, 0), (22, .aload_n 0, 1, 0, 0, 0), (23, .getfield 18, 3, 2, 13, 0), (26, .iload 4, 2, 0, 0, 0), (28, .iload_n 3, 1, 0, 0, 0), (29, .iastore, 1, 0, 0, 0), (30, .return_, 1, 0, 0, 0)]
noncomputable def M_cX2_setTrait : xM := (RX2, yX2_setTrait, cX2_setTrait, 5, none, false, 2, [(30, k_cX2_setTrait_0)])
noncomputable def k_cX2_isTrait_0 : List xR := [(0, .iload_n 1, 1, 0, 0, 0), (1, .tableswitch 106 0 4 #[35, 52, 68, 84, 100], 35, 0, 0, 0), (36, .iload_n 2, 1, 0, 0, 0), (37, .iconst 1, 1, 0, 0, 0), (38, .if_icmp .lt 13, 3, 0, 0, 0), (41, .iload_n 2, 1, 0, 0, 0), (42, .bipush 9, 2, 0, 0, 0), (44, .if_icmp .gt 7, 3, 0, 0, 0), (47, .iconst 1, 1, 0, 0, 0), (48, .goto 4, 3, 0, 0, 0), (51, .iconst 0, 1, 0, 0, 0), (52, .ireturn, 1, 0, 0, 0), (53, .iload_n 2, 1, 0, 0, 0), (54, .ifCond .lt 13, 3, 0, 0, 0), (57, .iload_n 2, 1, 0, 0, 0), (58, .bipush 20, 2, 0, 0, 0), (60, .if_icmp .gt 7, 3, 0, 0, 0), (63, .iconst 1, 1, 0, 0, 0), (64, .goto 4, 3, 0, 0, 0), (67, .iconst 0, 1, 0, 0, 0), (68, .ireturn, 1, 0, 0, 0), (69, .iload_n 2, 1, 0, 0, 0), (70, .ifCond .lt 13, 3, 0, 0, 0), (73, .iload_n 2, 1, 0, 0, 0), (74, .bipush 99, 2, 0, 0, 0), (76, .if_icmp .gt 7, 3, 0, 0, 0), (79, .iconst 1, 1, 0, 0, 0), (80, .goto 4, 3, 0, 0, 0), (83, .iconst 0, 1, 0, 0, 0), (84, .ireturn, 1, 0, 0, 0), (85, .iload_n 2, 1, 0, 0, 0), (86, .ifCond .lt 13, 3, 0, 0, 0)]
noncomputable def k_cX2_isTrait_1 : List xR := [(89, .iload_n 2, 1, 0, 0, 0), (90, .bipush 9, 2, 0, 0, 0), (92, .if_icmp .gt 7, 3, 0, 0, 0), (95, .iconst 1, 1, 0, 0, 0), (96, .goto 4, 3, 0, 0, 0), (99, .iconst 0, 1, 0, 0, 0), (100, .ireturn, 1, 0, 0, 0), (101, .aload_n 0, 1, 0, 0, 0), (102, .iload_n 2, 1, 0, 0, 0), (103, .invokevirtual 101, 3, 13, 1, 0), (106, .ireturn, 1, 0, 0, 0), (107, .iconst 0, 1, 0, 0, 0), (108, .ireturn, 1, 0, 0, 0)]
noncomputable def M_cX2_isTrait : xM := (RX2, yX2_isTrait, cX2_isTrait, 3, (some .boolean), false, 2, [(86, k_cX2_isTrait_0), (108, k_cX2_isTrait_1)])
noncomputable def k_cX2_lets_0 : List xR := [(0, .iload_n 1, 1, 0, 0, 0), (1, .ifCond .eq 8, 3, 0, 0, 0), (4, .iload_n 3, 1, 0, 0, 0), (5, .iconst (-1), 1, 0, 0, 0), (6, .if_icmp .ne 5, 3, 0, 0, 0), (9, .iconst 1, 1, 0, 0, 0), (10, .ireturn, 1, 0, 0, 0), (11, .iload_n 1, 1, 0, 0, 0), (12, .iconst 2, 1, 0, 0, 0), (13, .if_icmp .ne 20, 3, 0, 0, 0), (16, .aload_n 0, 1, 0, 0, 0), (17, .iload_n 3, 1, 0, 0, 0), (18, .iload 4, 2, 0, 0, 0), (20, .invokevirtual 91, 3, 18, 2, 0), (23, .iconst 1, 1, 0, 0, 0), (24, .if_icmp .le 7, 3, 0, 0, 0), (27, .iconst 1, 1, 0, 0, 0), (28, .goto 4, 3, 0, 0, 0), (31, .iconst 0, 1, 0, 0, 0), (32, .ireturn, 1, 0, 0, 0), (33, .iload 4, 2, 0, 0, 0), (35, .iload_n 3, 1, 0, 0, 0), (36, .if_icmp .eq 18, 3, 0, 0, 0), (39, .iload_n 1, 1, 0, 0, 0), (40, .iconst 3, 1, 0, 0, 0), (41, .if_icmp .ne 9, 3, 0, 0, 0), (44, .iload 4, 2, 0, 0, 0), (46, .iload_n 2, 1, 0, 0, 0), (47, .if_icmp .eq 7, 3, 0, 0, 0), (50, .iconst 1, 1, 0, 0, 0), (51, .goto 4, 3, 0, 0, 0), (54, .iconst 0, 1, 0, 0, 0)]
noncomputable def k_cX2_lets_1 : List xR := [(55, .ireturn, 1, 0, 0, 0)]
noncomputable def M_cX2_lets : xM := (RX2, yX2_lets, cX2_lets, 5, (some .boolean), false, 2, [(54, k_cX2_lets_0), (55, k_cX2_lets_1)])
noncomputable def k_cX3_init_0 : List xR := [(0, .aload_n 0, 1, 0, 0, 0), (1, .invokespecial 3, 3, 9000, 0, 0), (4, .aload_n 0, 1, 0, 0, 0), (5, .bipush 24, 2, 0, 0, 0), (7, .newarray .int, 2, 0, 0, 0), (9, .putfield 9, 3, 3, 2, 0), (12, .aload_n 0, 1, 0, 0, 0), (13, .bipush 24, 2, 0, 0, 0), (15, .newarray .int, 2, 0, 0, 0), (17, .putfield 15, 3, 3, 3, 0), (20, .aload_n 0, 1, 0, 0, 0), (21, .bipush 24, 2, 0, 0, 0), (23, .newarray .int, 2, 0, 0, 0), (25, .putfield 18, 3, 3, 4, 0), (28, .return_, 1, 0, 0, 0)]
noncomputable def M_cX3_init : xM := (RX3, yX3_init, cX3_init, 1, none, false, 3, [(28, k_cX3_init_0)])
noncomputable def k_cX3_empty_0 : List xR := [(0, .aload_n 0, 1, 0, 0, 0), (1, .iconst 0, 1, 0, 0, 0), (2, .putfield 21, 3, 3, 0, 0), (5, .aload_n 0, 1, 0, 0, 0), (6, .iconst 0, 1, 0, 0, 0), (7, .putfield 25, 3, 3, 1, 0), (10, .return_, 1, 0, 0, 0)]
noncomputable def M_cX3_empty : xM := (RX3, yX3_empty, cX3_empty, 1, none, false, 3, [(10, k_cX3_empty_0)])
noncomputable def k_cX3_copy_0 : List xR := [(0, .aload_n 0, 1, 0, 0, 0), (1, .aload_n 1, 1, 0, 0, 0), (2, .getfield 21, 3, 3, 0, 0), (5, .putfield 21, 3, 3, 0, 0), (8, .aload_n 0, 1, 0, 0, 0), (9, .aload_n 1, 1, 0, 0, 0), (10, .getfield 25, 3, 3, 1, 0), (13, .putfield 25, 3, 3, 1, 0), (16, .aload_n 1, 1, 0, 0, 0), (17, .getfield 9, 3, 3, 2, 0), (20, .iconst 0, 1, 0, 0, 0), (21, .aload_n 0, 1, 0, 0, 0), (22, .getfield 9, 3, 3, 2, 0), (25, .iconst 0, 1, 0, 0, 0), (26, .bipush 24, 2, 0, 0, 0), (28, .invokestatic 28, 3, 9004, 5, 0), (31, .aload_n 1, 1, 0, 0, 0), (32, .getfield 15, 3, 3, 3, 0), (35, .iconst 0, 1, 0, 0, 0), (36, .aload_n 0, 1, 0, 0, 0), (37, .getfield 15, 3, 3, 3, 0), (40, .iconst 0, 1, 0, 0, 0), (41, .bipush 24, 2, 0, 0, 0), (43, .invokestatic 28, 3, 9004, 5, 0), (46, .aload_n 1, 1, 0, 0, 0), (47, .getfield 18, 3, 3, 4, 0), (50, .iconst 0, 1, 0, 0, 0), (51, .aload_n 0, 1, 0, 0, 0), (52, .getfield 18, 3, 3, 4, 0), (55, .iconst 0, 1, 0, 0, 0), (56, .bipush 24, 2, 0, 0, 0), (58, .invokestatic 28, 3, 9004, 5, 0)]
noncomputable def k_cX3_copy_1 : List xR := [(61, .return_, 1, 0, 0, 0)]
noncomputable def M_cX3_copy : xM := (RX3, yX3_copy, cX3_copy, 2, none, false, 3, [(58, k_cX3_copy_0), (61, k_cX3_copy_1)])
noncomputable def k_cX3_has_0 : List xR := [(0, .iload_n 1, 1, 0, 0, 0), (1, .ifCond .lt 15, 3, 0, 0, 0), (4, .iload_n 1, 1, 0, 0, 0), (5, .aload_n 0, 1, 0, 0, 0), (6, .getfield 21, 3, 3, 0, 0), (9, .if_icmp .ge 7, 3, 0, 0, 0), (12, .iconst 1, 1, 0, 0, 0), (13, .goto 4, 3, 0, 0, 0), (16, .iconst 0, 1, 0, 0, 0), (17, .ireturn, 1, 0, 0, 0)]
noncomputable def M_cX3_has : xM := (RX3, yX3_has, cX3_has, 2, (some .boolean), false, 3, [(17, k_cX3_has_0)])
noncomputable def k_cX3_add_0 : List xR := [(0, .aload_n 0, 1, 0, 0, 0), (1, .getfield 21, 3, 3, 0, 0), (4, .bipush 24, 2, 0, 0, 0), (6, .if_icmp .ge 43, 3, 0, 0, 0), (9, .aload_n 0, 1, 0, 0, 0), (10, .getfield 9, 3, 3, 2, 0), (13, .aload_n 0, 1, 0, 0, 0), (14, .getfield 21, 3, 3, 0, 0), (17, .iload_n 1, 1, 0, 0, 0), (18, .iastore, 1, 0, 0, 0), (19, .aload_n 0, 1, 0, 0, 0), (20, .getfield 15, 3, 3, 3, 0), (23, .aload_n 0, 1, 0, 0, 0), (24, .getfield 21, 3, 3, 0, 0), (27, .iload_n 2, 1, 0, 0, 0), (28, .iastore, 1, 0, 0, 0), (29, .aload_n 0, 1, 0, 0, 0), (30, .getfield 18, 3, 3, 4, 0), (33, .aload_n 0, 1, 0, 0, 0), (34, .getfield 21, 3, 3, 0, 0), (37, .iload_n 3, 1, 0, 0, 0), (38, .iastore, 1, 0, 0, 0), (39, .aload_n 0, 1, 0, 0, 0), (40, .dup, 1, 0, 0, 0), (41, .getfield 21, 3, 3, 0, 0), (44, .iconst 1, 1, 0, 0, 0), (45, .iadd, 1, 0, 0, 0), (46, .putfield 21, 3, 3, 0, 0), (49, .return_, 1, 0, 0, 0)]
noncomputable def M_cX3_add : xM := (RX3, yX3_add, cX3_add, 4, none, false, 3, [(49, k_cX3_add_0)])
noncomputable def k_cX3_exchange_0 : List xR := [(0, .aload_n 0, 1, 0, 0, 0), (1, .iload_n 1, 1, 0, 0, 0), (2, .invokevirtual 34, 3, 31, 1, 0), (5, .ifCond .eq 38, 3, 0, 0, 0), (8, .aload_n 0, 1, 0, 0, 0), (9, .iload_n 2, 1, 0, 0, 0), (10, .invokevirtual 34, 3, 31, 1, 0), (13, .ifCond .eq 30, 3, 0, 0, 0), (16, .aload_n 0, 1, 0, 0, 0), (17, .getfield 9, 3, 3, 2, 0), (20, .iload_n 1, 1, 0, 0, 0), (21, .iload_n 2, 1, 0, 0, 0), (22, .invokestatic 38, 3, 34, 3, 0), (25, .aload_n 0, 1, 0, 0, 0), (26, .getfield 15, 3, 3, 3, 0), (29, .iload_n 1, 1, 0, 0, 0), (30, .iload_n 2, 1, 0, 0, 0), (31, .invokestatic 38, 3, 34, 3, 0), (34, .aload_n 0, 1, 0, 0, 0), (35, .getfield 18, 3, 3, 4, 0), (38, .iload_n 1, 1, 0, 0, 0), (39, .iload_n 2, 1, 0, 0, 0), (40, .invokestatic 38, 3, 34, 3, 0), (43, .return_, 1, 0, 0, 0)]
noncomputable def M_cX3_exchange : xM := (RX3, yX3_exchange, cX3_exchange, 3, none, false, 3, [(43, k_cX3_exchange_0)])
noncomputable def k_cX3_exchangeIn_0 : List xR := [(0, .aload_n 0, 1, 0, 0, 0), (1, .iload_n 1, 1, 0, 0, 0), (2, .iaload, 1, 0, 0, 0), (3, .istore_n 3, 1, 0, 0, 0), (4, .aload_n 0, 1, 0, 0, 0), (5, .iload_n 1, 1, 0, 0, 0), (6, .aload_n 0, 1, 0, 0, 0), (7, .iload_n 2, 1, 0, 0, 0), (8, .iaload, 1, 0, 0, 0), (9, .iastore, 1, 0, 0, 0), (10, .aload_n 0, 1, 0, 0, 0), (11, .iload_n 2, 1, 0, 0, 0), (12, .iload_n 3, 1, 0, 0, 0), (13, .iastore, 1, 0, 0, 0), (14, .return_, 1, 0, 0, 0)]
noncomputable def M_cX3_exchangeIn : xM := (RX3, yX3_exchangeIn, cX3_exchangeIn, 4, none, true, 3, [(14, k_cX3_exchangeIn_0)])
noncomputable def k_cX3_round_0 : List xR := [(0, .aload_n 0, 1, 0, 0, 0), (1, .getfield 21, 3, 3, 0, 0), (4, .ifCond .le 19, 3, 0, 0, 0), (7, .aload_n 0, 1, 0, 0, 0), (8, .getfield 9, 3, 3, 2, 0), (11, .iload_n 1, 1, 0, 0, 0), (12, .aload_n 0, 1, 0, 0, 0), (13, .getfield 21, 3, 3, 0, 0), (16, .invokestatic 42, 3, 357, 2, 0), (19, .iaload, 1, 0, 0, 0), (20, .goto 4, 3, 0, 0, 0), (23, .iconst (-1), 1, 0, 0, 0), (24, .ireturn, 1, 0, 0, 0)]
noncomputable def M_cX3_round : xM := (RX3, yX3_round, cX3_round, 2, (some .int), false, 3, [(24, k_cX3_round_0)])
noncomputable def k_cX3_oftenAt_0 : List xR := [(0, .iconst 0, 1, 0, 0, 0), (1, .istore_n 2, 1, 0, 0, 0), (2, .iconst 0, 1, 0, 0, 0), (3, .istore_n 3, 1, 0, 0, 0), (4, .iload_n 3, 1, 0, 0, 0), (5, .aload_n 0, 1, 0, 0, 0), (6, .getfield 21, 3, 3, 0, 0), (9, .if_icmp .ge 32, 3, 0, 0, 0), (12, .aload_n 0, 1, 0, 0, 0), (13, .getfield 9, 3, 3, 2, 0), (16, .iload_n 3, 1, 0, 0, 0), (17, .iaload, 1, 0, 0, 0), (18, .iload_n 1, 1, 0, 0, 0), (19, .if_icmp .eq 13, 3, 0, 0, 0), (22, .aload_n 0, 1, 0, 0, 0), (23, .getfield 15, 3, 3, 3, 0), (26, .iload_n 3, 1, 0, 0, 0), (27, .iaload, 1, 0, 0, 0), (28, .iload_n 1, 1, 0, 0, 0), (29, .if_icmp .ne 6, 3, 0, 0, 0), (32, .iinc 2 1, 3, 0, 0, 0), (35, .iinc 3 1, 3, 0, 0, 0), (38, .goto (-34), 3, 0, 0, 0), (41, .iload_n 2, 1, 0, 0, 0), (42, .ireturn, 1, 0, 0, 0)]
noncomputable def M_cX3_oftenAt : xM := (RX3, yX3_oftenAt, cX3_oftenAt, 4, (some .int), false, 3, [(42, k_cX3_oftenAt_0)])
noncomputable def k_cX3_goesSo_0 : List xR := [(0, .iconst 0, 1, 0, 0, 0), (1, .istore_n 3, 1, 0, 0, 0), (2, .iload_n 3, 1, 0, 0, 0), (3, .aload_n 2, 1, 0, 0, 0), (4, .getfield 48, 3, 8, 0, 0), (7, .if_icmp .ge 29, 3, 0, 0, 0), (10, .aload_n 2, 1, 0, 0, 0), (11, .getfield 51, 3, 8, 2, 0), (14, .iload_n 3, 1, 0, 0, 0), (15, .laload, 1, 0, 0, 0), (16, .aload_n 0, 1, 0, 0, 0), (17, .iload_n 1, 1, 0, 0, 0), (18, .iload_n 3, 1, 0, 0, 0), (19, .iadd, 1, 0, 0, 0), (20, .invokevirtual 55, 3, 35, 1, 0), (23, .i2l, 1, 0, 0, 0), (24, .lcmp, 1, 0, 0, 0), (25, .ifCond .eq 5, 3, 0, 0, 0), (28, .iconst 0, 1, 0, 0, 0), (29, .ireturn, 1, 0, 0, 0), (30, .iinc 3 1, 3, 0, 0, 0), (33, .goto (-31), 3, 0, 0, 0), (36, .iconst 1, 1, 0, 0, 0), (37, .ireturn, 1, 0, 0, 0)]
noncomputable def M_cX3_goesSo : xM := (RX3, yX3_goesSo, cX3_goesSo, 4, (some .boolean), false, 3, [(37, k_cX3_goesSo_0)])
noncomputable def k_cX3_neededFrom_0 : List xR := [(0, .iconst 0, 1, 0, 0, 0), (1, .istore_n 2, 1, 0, 0, 0), (2, .iconst 0, 1, 0, 0, 0), (3, .istore_n 3, 1, 0, 0, 0), (4, .iload_n 3, 1, 0, 0, 0), (5, .aload_n 0, 1, 0, 0, 0), (6, .getfield 21, 3, 3, 0, 0), (9, .if_icmp .ge 27, 3, 0, 0, 0), (12, .iload_n 3, 1, 0, 0, 0), (13, .iload_n 1, 1, 0, 0, 0), (14, .if_icmp .eq 16, 3, 0, 0, 0), (17, .iload_n 2, 1, 0, 0, 0), (18, .aload_n 0, 1, 0, 0, 0), (19, .iload_n 1, 1, 0, 0, 0), (20, .iload_n 3, 1, 0, 0, 0), (21, .invokevirtual 59, 3, 39, 2, 0), (24, .iconst 1, 1, 0, 0, 0), (25, .iadd, 1, 0, 0, 0), (26, .invokestatic 62, 3, 9001, 2, 0), (29, .istore_n 2, 1, 0, 0, 0), (30, .iinc 3 1, 3, 0, 0, 0), (33, .goto (-29), 3, 0, 0, 0), (36, .iload_n 2, 1, 0, 0, 0), (37, .aload_n 0, 1, 0, 0, 0), (38, .getfield 21, 3, 3, 0, 0), (41, .if_icmp .le 7, 3, 0, 0, 0), (44, .iconst (-1), 1, 0, 0, 0), (45, .goto 4, 3, 0, 0, 0), (48, .iload_n 2, 1, 0, 0, 0), (49, .ireturn, 1, 0, 0, 0)]
noncomputable def M_cX3_neededFrom : xM := (RX3, yX3_neededFrom, cX3_neededFrom, 4, (some .int), false, 3, [(49, k_cX3_neededFrom_0)])
noncomputable def k_cX3_alike_0 : List xR := [(0, .iconst 0, 1, 0, 0, 0), (1, .istore_n 3, 1, 0, 0, 0), (2, .iload_n 3, 1, 0, 0, 0), (3, .aload_n 0, 1, 0, 0, 0), (4, .getfield 21, 3, 3, 0, 0), (7, .if_icmp .ge 26, 3, 0, 0, 0), (10, .aload_n 0, 1, 0, 0, 0), (11, .iload_n 1, 1, 0, 0, 0), (12, .iload_n 3, 1, 0, 0, 0), (13, .iadd, 1, 0, 0, 0), (14, .invokevirtual 55, 3, 35, 1, 0), (17, .aload_n 0, 1, 0, 0, 0), (18, .iload_n 2, 1, 0, 0, 0), (19, .iload_n 3, 1, 0, 0, 0), (20, .iadd, 1, 0, 0, 0), (21, .invokevirtual 55, 3, 35, 1, 0), (24, .if_icmp .ne 9, 3, 0, 0, 0), (27, .iinc 3 1, 3, 0, 0, 0), (30, .goto (-28), 3, 0, 0, 0), (33, .iload_n 3, 1, 0, 0, 0), (34, .ireturn, 1, 0, 0, 0)]
noncomputable def M_cX3_alike : xM := (RX3, yX3_alike, cX3_alike, 4, (some .int), false, 3, [(34, k_cX3_alike_0)])
noncomputable def k_cX4_init_0 : List xR := [(0, .aload_n 0, 1, 0, 0, 0), (1, .invokespecial 3, 3, 9000, 0, 0), (4, .aload_n 0, 1, 0, 0, 0), (5, .bipush 60, 2, 0, 0, 0), (7, .newarray .int, 2, 0, 0, 0), (9, .putfield 9, 3, 4, 1, 0), (12, .aload_n 0, 1, 0, 0, 0), (13, .bipush 60, 2, 0, 0, 0), (15, .newarray .int, 2, 0, 0, 0), (17, .putfield 15, 3, 4, 2, 0), (20, .aload_n 0, 1, 0, 0, 0), (21, .bipush 60, 2, 0, 0, 0), (23, .newarray .int, 2, 0, 0, 0), (25, .putfield 18, 3, 4, 3, 0), (28, .aload_n 0, 1, 0, 0, 0), (29, .bipush 60, 2, 0, 0, 0), (31, .newarray .int, 2, 0, 0, 0), (33, .putfield 21, 3, 4, 4, 0), (36, .aload_n 0, 1, 0, 0, 0), (37, .bipush 60, 2, 0, 0, 0), (39, .newarray .int, 2, 0, 0, 0), (41, .putfield 24, 3, 4, 5, 0), (44, .return_, 1, 0, 0, 0)]
noncomputable def M_cX4_init : xM := (RX4, yX4_init, cX4_init, 1, none, false, 4, [(44, k_cX4_init_0)])
noncomputable def k_cX4_has_0 : List xR := [(0, .iload_n 1, 1, 0, 0, 0), (1, .ifCond .lt 15, 3, 0, 0, 0), (4, .iload_n 1, 1, 0, 0, 0), (5, .aload_n 0, 1, 0, 0, 0), (6, .getfield 27, 3, 4, 0, 0), (9, .if_icmp .ge 7, 3, 0, 0, 0), (12, .iconst 1, 1, 0, 0, 0), (13, .goto 4, 3, 0, 0, 0), (16, .iconst 0, 1, 0, 0, 0), (17, .ireturn, 1, 0, 0, 0)]
noncomputable def M_cX4_has : xM := (RX4, yX4_has, cX4_has, 2, (some .boolean), false, 4, [(17, k_cX4_has_0)])
noncomputable def k_cX4_deal_0 : List xR := [(0, .aload_n 0, 1, 0, 0, 0), (1, .invokevirtual 31, 3, 45, 0, 0), (4, .aload_n 1, 1, 0, 0, 0), (5, .getfield 34, 3, 2, 14, 0), (8, .astore_n 3, 1, 0, 0, 0), (9, .iload_n 2, 1, 0, 0, 0), (10, .istore 4, 2, 0, 0, 0), (12, .iconst 0, 1, 0, 0, 0), (13, .istore 5, 2, 0, 0, 0), (15, .iload 5, 2, 0, 0, 0), (17, .bipush 60, 2, 0, 0, 0), (19, .if_icmp .ge 73, 3, 0, 0, 0), (22, .aload_n 3, 1, 0, 0, 0), (23, .iload 4, 2, 0, 0, 0), (25, .invokevirtual 40, 3, 31, 1, 0), (28, .ifCond .eq 64, 3, 0, 0, 0), (31, .aload_n 0, 1, 0, 0, 0), (32, .aload_n 1, 1, 0, 0, 0), (33, .invokevirtual 46, 3, 46, 1, 0), (36, .ifCond .eq 56, 3, 0, 0, 0), (39, .aload_n 0, 1, 0, 0, 0), (40, .aload_n 1, 1, 0, 0, 0), (41, .aload_n 3, 1, 0, 0, 0), (42, .getfield 50, 3, 3, 2, 0), (45, .iload 4, 2, 0, 0, 0), (47, .iaload, 1, 0, 0, 0), (48, .aload_n 3, 1, 0, 0, 0), (49, .getfield 51, 3, 3, 3, 0), (52, .iload 4, 2, 0, 0, 0), (54, .iaload, 1, 0, 0, 0), (55, .aload_n 3, 1, 0, 0, 0), (56, .getfield 52, 3, 3, 4, 0)]
noncomputable def k_cX4_deal_1 : List xR := [(59, .iload 4, 2, 0, 0, 0), (61, .iaload, 1, 0, 0, 0), (62, .invokevirtual 53, 3, 47, 4, 0), (65, .iload 4, 2, 0, 0, 0), (67, .iconst 1, 1, 0, 0, 0), (68, .iadd, 1, 0, 0, 0), (69, .aload_n 3, 1, 0, 0, 0), (70, .getfield 57, 3, 3, 0, 0), (73, .if_icmp .ge 10, 3, 0, 0, 0), (76, .iload 4, 2, 0, 0, 0), (78, .iconst 1, 1, 0, 0, 0), (79, .iadd, 1, 0, 0, 0), (80, .goto 4, 3, 0, 0, 0), (83, .iconst 0, 1, 0, 0, 0), (84, .istore 4, 2, 0, 0, 0), (86, .iinc 5 1, 3, 0, 0, 0), (89, .goto (-74), 3, 0, 0, 0), (92, .return_, 1, 0, 0, 0)]
noncomputable def M_cX4_deal : xM := (RX4, yX4_deal, cX4_deal, 6, none, false, 4, [(56, k_cX4_deal_0), (92, k_cX4_deal_1)])
noncomputable def k_cX4_draw_0 : List xR := [(0, .aload_n 0, 1, 0, 0, 0), (1, .invokevirtual 31, 3, 45, 0, 0), (4, .iload_n 2, 1, 0, 0, 0), (5, .i2l, 1, 0, 0, 0), (6, .lstore 4, 2, 0, 0, 0), (8, .iconst (-1), 1, 0, 0, 0), (9, .istore 6, 2, 0, 0, 0), (11, .iconst (-1), 1, 0, 0, 0), (12, .istore 7, 2, 0, 0, 0), (14, .iconst 0, 1, 0, 0, 0), (15, .istore 8, 2, 0, 0, 0), (17, .iload 8, 2, 0, 0, 0), (19, .bipush 60, 2, 0, 0, 0), (21, .if_icmp .ge 125, 3, 0, 0, 0), (24, .aload_n 0, 1, 0, 0, 0), (25, .aload_n 1, 1, 0, 0, 0), (26, .invokevirtual 46, 3, 46, 1, 0), (29, .ifCond .eq 117, 3, 0, 0, 0), (32, .iconst 0, 1, 0, 0, 0), (33, .istore 9, 2, 0, 0, 0), (35, .iconst 0, 1, 0, 0, 0), (36, .istore 10, 2, 0, 0, 0), (38, .iload 10, 2, 0, 0, 0), (40, .aload_n 1, 1, 0, 0, 0), (41, .invokevirtual 58, 3, 12, 0, 0), (44, .if_icmp .ge 35, 3, 0, 0, 0), (47, .aload_n 1, 1, 0, 0, 0), (48, .iload 10, 2, 0, 0, 0), (50, .invokevirtual 62, 3, 16, 1, 0), (53, .ifCond .ne 20, 3, 0, 0, 0), (56, .aload_n 1, 1, 0, 0, 0), (57, .iload_n 3, 1, 0, 0, 0)]
noncomputable def k_cX4_draw_1 : List xR := [(58, .iload 6, 2, 0, 0, 0), (60, .iload 7, 2, 0, 0, 0), (62, .iload 10, 2, 0, 0, 0), (64, .invokevirtual 65, 3, 27, 4, 0), (67, .ifCond .eq 6, 3, 0, 0, 0), (70, .iinc 9 1, 3, 0, 0, 0), (73, .iinc 10 1, 3, 0, 0, 0), (76, .goto (-38), 3, 0, 0, 0), (79, .iload 9, 2, 0, 0, 0), (81, .ifCond .ne 4, 3, 0, 0, 0), (84, .return_, 1, 0, 0, 0), (85, .ldc2_w 69, 3, 1103515245, 0, 0), (88, .lload 4, 2, 0, 0, 0), (90, .lmul, 1, 0, 0, 0), (91, .ldc2_w 71, 3, 12345, 0, 0), (94, .ladd, 1, 0, 0, 0), (95, .ldc2_w 73, 3, 2147483648, 0, 0), (98, .lrem, 1, 0, 0, 0), (99, .lstore 4, 2, 0, 0, 0), (101, .aload_n 1, 1, 0, 0, 0), (102, .iload_n 3, 1, 0, 0, 0), (103, .iload 6, 2, 0, 0, 0), (105, .iload 7, 2, 0, 0, 0), (107, .lload 4, 2, 0, 0, 0), (109, .ldc2_w 75, 3, 65536, 0, 0), (112, .ldiv, 1, 0, 0, 0), (113, .iload 9, 2, 0, 0, 0), (115, .i2l, 1, 0, 0, 0), (116, .lrem, 1, 0, 0, 0), (117, .l2i, 1, 0, 0, 0), (118, .invokestatic 77, 3, 44, 5, 0), (121, .istore 10, 2, 0, 0, 0)]
noncomputable def k_cX4_draw_2 : List xR := [(123, .aload_n 0, 1, 0, 0, 0), (124, .aload_n 1, 1, 0, 0, 0), (125, .iload 10, 2, 0, 0, 0), (127, .iconst (-1), 1, 0, 0, 0), (128, .iconst 0, 1, 0, 0, 0), (129, .invokevirtual 53, 3, 47, 4, 0), (132, .iload 7, 2, 0, 0, 0), (134, .istore 6, 2, 0, 0, 0), (136, .iload 10, 2, 0, 0, 0), (138, .istore 7, 2, 0, 0, 0), (140, .iinc 8 1, 3, 0, 0, 0), (143, .goto (-126), 3, 0, 0, 0), (146, .return_, 1, 0, 0, 0)]
noncomputable def M_cX4_draw : xM := (RX4, yX4_draw, cX4_draw, 11, none, false, 4, [(57, k_cX4_draw_0), (121, k_cX4_draw_1), (146, k_cX4_draw_2)])
noncomputable def k_cX4_nthLet_0 : List xR := [(0, .iconst 0, 1, 0, 0, 0), (1, .istore 5, 2, 0, 0, 0), (3, .iconst 0, 1, 0, 0, 0), (4, .istore 6, 2, 0, 0, 0), (6, .iload 6, 2, 0, 0, 0), (8, .aload_n 0, 1, 0, 0, 0), (9, .invokevirtual 58, 3, 12, 0, 0), (12, .if_icmp .ge 43, 3, 0, 0, 0), (15, .aload_n 0, 1, 0, 0, 0), (16, .iload 6, 2, 0, 0, 0), (18, .invokevirtual 62, 3, 16, 1, 0), (21, .ifCond .ne 28, 3, 0, 0, 0), (24, .aload_n 0, 1, 0, 0, 0), (25, .iload_n 1, 1, 0, 0, 0), (26, .iload_n 2, 1, 0, 0, 0), (27, .iload_n 3, 1, 0, 0, 0), (28, .iload 6, 2, 0, 0, 0), (30, .invokevirtual 65, 3, 27, 4, 0), (33, .ifCond .eq 16, 3, 0, 0, 0), (36, .iload 5, 2, 0, 0, 0), (38, .iload 4, 2, 0, 0, 0), (40, .if_icmp .ne 6, 3, 0, 0, 0), (43, .iload 6, 2, 0, 0, 0), (45, .ireturn, 1, 0, 0, 0), (46, .iinc 5 1, 3, 0, 0, 0), (49, .iinc 6 1, 3, 0, 0, 0), (52, .goto (-46), 3, 0, 0, 0), (55, .iconst (-1), 1, 0, 0, 0), (56, .ireturn, 1, 0, 0, 0)]
noncomputable def M_cX4_nthLet : xM := (RX4, yX4_nthLet, cX4_nthLet, 7, (some .int), true, 4, [(56, k_cX4_nthLet_0)])
noncomputable def k_cX4_begin_0 : List xR := [(0, .aload_n 0, 1, 0, 0, 0), (1, .iconst 0, 1, 0, 0, 0), (2, .putfield 27, 3, 4, 0, 0), (5, .aload_n 0, 1, 0, 0, 0), (6, .iconst 0, 1, 0, 0, 0), (7, .putfield 81, 3, 4, 6, 0), (10, .return_, 1, 0, 0, 0)]
noncomputable def M_cX4_begin : xM := (RX4, yX4_begin, cX4_begin, 1, none, false, 4, [(10, k_cX4_begin_0)])
noncomputable def k_cX4_hasRoom_0 : List xR := [(0, .aload_n 0, 1, 0, 0, 0), (1, .getfield 27, 3, 4, 0, 0), (4, .bipush 60, 2, 0, 0, 0), (6, .if_icmp .ge 29, 3, 0, 0, 0), (9, .aload_n 1, 1, 0, 0, 0), (10, .aload_n 0, 1, 0, 0, 0), (11, .getfield 81, 3, 4, 6, 0), (14, .aload_n 1, 1, 0, 0, 0), (15, .aload_n 0, 1, 0, 0, 0), (16, .getfield 81, 3, 4, 6, 0), (19, .invokevirtual 84, 3, 21, 1, 0), (22, .iadd, 1, 0, 0, 0), (23, .iconst 1, 1, 0, 0, 0), (24, .isub, 1, 0, 0, 0), (25, .invokevirtual 88, 3, 14, 1, 0), (28, .ifCond .eq 7, 3, 0, 0, 0), (31, .iconst 1, 1, 0, 0, 0), (32, .goto 4, 3, 0, 0, 0), (35, .iconst 0, 1, 0, 0, 0), (36, .ireturn, 1, 0, 0, 0)]
noncomputable def M_cX4_hasRoom : xM := (RX4, yX4_hasRoom, cX4_hasRoom, 2, (some .boolean), false, 4, [(36, k_cX4_hasRoom_0)])
noncomputable def k_cX4_add_0 : List xR := [(0, .aload_n 0, 1, 0, 0, 0), (1, .getfield 9, 3, 4, 1, 0), (4, .aload_n 0, 1, 0, 0, 0), (5, .getfield 27, 3, 4, 0, 0), (8, .iload_n 2, 1, 0, 0, 0), (9, .iastore, 1, 0, 0, 0), (10, .aload_n 0, 1, 0, 0, 0), (11, .getfield 15, 3, 4, 2, 0), (14, .aload_n 0, 1, 0, 0, 0), (15, .getfield 27, 3, 4, 0, 0), (18, .iload_n 3, 1, 0, 0, 0), (19, .iastore, 1, 0, 0, 0), (20, .aload_n 0, 1, 0, 0, 0), (21, .getfield 18, 3, 4, 3, 0), (24, .aload_n 0, 1, 0, 0, 0), (25, .getfield 27, 3, 4, 0, 0), (28, .iload 4, 2, 0, 0, 0), (30, .iastore, 1, 0, 0, 0), (31, .aload_n 0, 1, 0, 0, 0), (32, .getfield 21, 3, 4, 4, 0), (35, .aload_n 0, 1, 0, 0, 0), (36, .getfield 27, 3, 4, 0, 0), (39, .aload_n 0, 1, 0, 0, 0), (40, .getfield 81, 3, 4, 6, 0), (43, .iastore, 1, 0, 0, 0), (44, .aload_n 0, 1, 0, 0, 0), (45, .getfield 24, 3, 4, 5, 0), (48, .aload_n 0, 1, 0, 0, 0), (49, .getfield 27, 3, 4, 0, 0), (52, .aload_n 0, 1, 0, 0, 0), (53, .getfield 81, 3, 4, 6, 0), (56, .aload_n 1, 1, 0, 0, 0)]
noncomputable def k_cX4_add_1 : List xR := [(57, .aload_n 0, 1, 0, 0, 0), (58, .getfield 81, 3, 4, 6, 0), (61, .invokevirtual 84, 3, 21, 1, 0), (64, .iadd, 1, 0, 0, 0), (65, .iconst 1, 1, 0, 0, 0), (66, .isub, 1, 0, 0, 0), (67, .iastore, 1, 0, 0, 0), (68, .aload_n 0, 1, 0, 0, 0), (69, .aload_n 0, 1, 0, 0, 0), (70, .getfield 24, 3, 4, 5, 0), (73, .aload_n 0, 1, 0, 0, 0), (74, .getfield 27, 3, 4, 0, 0), (77, .iaload, 1, 0, 0, 0), (78, .aload_n 1, 1, 0, 0, 0), (79, .getfield 91, 3, 2, 5, 0), (82, .iadd, 1, 0, 0, 0), (83, .iconst 1, 1, 0, 0, 0), (84, .iadd, 1, 0, 0, 0), (85, .putfield 81, 3, 4, 6, 0), (88, .aload_n 0, 1, 0, 0, 0), (89, .dup, 1, 0, 0, 0), (90, .getfield 27, 3, 4, 0, 0), (93, .iconst 1, 1, 0, 0, 0), (94, .iadd, 1, 0, 0, 0), (95, .putfield 27, 3, 4, 0, 0), (98, .return_, 1, 0, 0, 0)]
noncomputable def M_cX4_add : xM := (RX4, yX4_add, cX4_add, 5, none, false, 4, [(56, k_cX4_add_0), (98, k_cX4_add_1)])
noncomputable def k_cX4_upIn_0 : List xR := [(0, .iconst 0, 1, 0, 0, 0), (1, .istore_n 2, 1, 0, 0, 0), (2, .iload_n 2, 1, 0, 0, 0), (3, .aload_n 0, 1, 0, 0, 0), (4, .getfield 27, 3, 4, 0, 0), (7, .if_icmp .ge 31, 3, 0, 0, 0), (10, .aload_n 0, 1, 0, 0, 0), (11, .getfield 21, 3, 4, 4, 0), (14, .iload_n 2, 1, 0, 0, 0), (15, .iaload, 1, 0, 0, 0), (16, .iload_n 1, 1, 0, 0, 0), (17, .if_icmp .gt 15, 3, 0, 0, 0), (20, .iload_n 1, 1, 0, 0, 0), (21, .aload_n 0, 1, 0, 0, 0), (22, .getfield 24, 3, 4, 5, 0), (25, .iload_n 2, 1, 0, 0, 0), (26, .iaload, 1, 0, 0, 0), (27, .if_icmp .gt 5, 3, 0, 0, 0), (30, .iload_n 2, 1, 0, 0, 0), (31, .ireturn, 1, 0, 0, 0), (32, .iinc 2 1, 3, 0, 0, 0), (35, .goto (-33), 3, 0, 0, 0), (38, .iconst (-1), 1, 0, 0, 0), (39, .ireturn, 1, 0, 0, 0)]
noncomputable def M_cX4_upIn : xM := (RX4, yX4_upIn, cX4_upIn, 3, (some .int), false, 4, [(39, k_cX4_upIn_0)])
noncomputable def k_cX4_holesOf_0 : List xR := [(0, .aload_n 0, 1, 0, 0, 0), (1, .iload_n 1, 1, 0, 0, 0), (2, .invokevirtual 94, 3, 41, 1, 0), (5, .ifCond .ne 5, 3, 0, 0, 0), (8, .iconst 0, 1, 0, 0, 0), (9, .ireturn, 1, 0, 0, 0), (10, .iconst 1, 1, 0, 0, 0), (11, .aload_n 0, 1, 0, 0, 0), (12, .getfield 9, 3, 4, 1, 0), (15, .iload_n 1, 1, 0, 0, 0), (16, .iaload, 1, 0, 0, 0), (17, .ishl, 1, 0, 0, 0), (18, .aload_n 0, 1, 0, 0, 0), (19, .getfield 15, 3, 4, 2, 0), (22, .iload_n 1, 1, 0, 0, 0), (23, .iaload, 1, 0, 0, 0), (24, .iconst (-1), 1, 0, 0, 0), (25, .if_icmp .ne 7, 3, 0, 0, 0), (28, .iconst 0, 1, 0, 0, 0), (29, .goto 11, 3, 0, 0, 0), (32, .iconst 1, 1, 0, 0, 0), (33, .aload_n 0, 1, 0, 0, 0), (34, .getfield 15, 3, 4, 2, 0), (37, .iload_n 1, 1, 0, 0, 0), (38, .iaload, 1, 0, 0, 0), (39, .ishl, 1, 0, 0, 0), (40, .ior, 1, 0, 0, 0), (41, .ireturn, 1, 0, 0, 0)]
noncomputable def M_cX4_holesOf : xM := (RX4, yX4_holesOf, cX4_holesOf, 2, (some .int), false, 4, [(41, k_cX4_holesOf_0)])
noncomputable def k_cX4_goodHoles_0 : List xR := [(0, .iconst 0, 1, 0, 0, 0), (1, .istore_n 1, 1, 0, 0, 0), (2, .iconst 0, 1, 0, 0, 0), (3, .istore_n 2, 1, 0, 0, 0), (4, .iload_n 2, 1, 0, 0, 0), (5, .aload_n 0, 1, 0, 0, 0), (6, .getfield 27, 3, 4, 0, 0), (9, .if_icmp .ge 26, 3, 0, 0, 0), (12, .aload_n 0, 1, 0, 0, 0), (13, .getfield 18, 3, 4, 3, 0), (16, .iload_n 2, 1, 0, 0, 0), (17, .iaload, 1, 0, 0, 0), (18, .ifCond .ne 11, 3, 0, 0, 0), (21, .iload_n 1, 1, 0, 0, 0), (22, .aload_n 0, 1, 0, 0, 0), (23, .iload_n 2, 1, 0, 0, 0), (24, .invokevirtual 95, 3, 49, 1, 0), (27, .ior, 1, 0, 0, 0), (28, .istore_n 1, 1, 0, 0, 0), (29, .iinc 2 1, 3, 0, 0, 0), (32, .goto (-28), 3, 0, 0, 0), (35, .iload_n 1, 1, 0, 0, 0), (36, .ireturn, 1, 0, 0, 0)]
noncomputable def M_cX4_goodHoles : xM := (RX4, yX4_goodHoles, cX4_goodHoles, 3, (some .int), false, 4, [(36, k_cX4_goodHoles_0)])
noncomputable def k_cX4_goodIn_0 : List xR := [(0, .iconst 0, 1, 0, 0, 0), (1, .istore_n 2, 1, 0, 0, 0), (2, .iconst 0, 1, 0, 0, 0), (3, .istore_n 3, 1, 0, 0, 0), (4, .iload_n 3, 1, 0, 0, 0), (5, .aload_n 0, 1, 0, 0, 0), (6, .getfield 27, 3, 4, 0, 0), (9, .if_icmp .ge 31, 3, 0, 0, 0), (12, .aload_n 0, 1, 0, 0, 0), (13, .getfield 18, 3, 4, 3, 0), (16, .iload_n 3, 1, 0, 0, 0), (17, .iaload, 1, 0, 0, 0), (18, .ifCond .ne 16, 3, 0, 0, 0), (21, .iload_n 2, 1, 0, 0, 0), (22, .aload_n 0, 1, 0, 0, 0), (23, .iload_n 3, 1, 0, 0, 0), (24, .invokevirtual 95, 3, 49, 1, 0), (27, .iload_n 1, 1, 0, 0, 0), (28, .iand, 1, 0, 0, 0), (29, .invokestatic 98, 3, 356, 1, 0), (32, .iadd, 1, 0, 0, 0), (33, .istore_n 2, 1, 0, 0, 0), (34, .iinc 3 1, 3, 0, 0, 0), (37, .goto (-33), 3, 0, 0, 0), (40, .iload_n 2, 1, 0, 0, 0), (41, .ireturn, 1, 0, 0, 0)]
noncomputable def M_cX4_goodIn : xM := (RX4, yX4_goodIn, cX4_goodIn, 4, (some .int), false, 4, [(41, k_cX4_goodIn_0)])
noncomputable def k_cX4_strike_0 : List xR := [(0, .aload_n 0, 1, 0, 0, 0), (1, .iload_n 1, 1, 0, 0, 0), (2, .invokevirtual 94, 3, 41, 1, 0), (5, .ifCond .ne 5, 3, 0, 0, 0), (8, .iconst (-1), 1, 0, 0, 0), (9, .ireturn, 1, 0, 0, 0), (10, .iload_n 2, 1, 0, 0, 0), (11, .aload_n 0, 1, 0, 0, 0), (12, .getfield 21, 3, 4, 4, 0), (15, .iload_n 1, 1, 0, 0, 0), (16, .iaload, 1, 0, 0, 0), (17, .invokestatic 103, 3, 9001, 2, 0), (20, .istore_n 3, 1, 0, 0, 0), (21, .iload_n 3, 1, 0, 0, 0), (22, .aload_n 0, 1, 0, 0, 0), (23, .getfield 24, 3, 4, 5, 0), (26, .iload_n 1, 1, 0, 0, 0), (27, .iaload, 1, 0, 0, 0), (28, .if_icmp .gt 7, 3, 0, 0, 0), (31, .iload_n 3, 1, 0, 0, 0), (32, .goto 4, 3, 0, 0, 0), (35, .iconst (-1), 1, 0, 0, 0), (36, .ireturn, 1, 0, 0, 0)]
noncomputable def M_cX4_strike : xM := (RX4, yX4_strike, cX4_strike, 4, (some .int), false, 4, [(36, k_cX4_strike_0)])
noncomputable def k_cX5_init_0 : List xR := [(0, .aload_n 0, 1, 0, 0, 0), (1, .invokespecial 3, 3, 9000, 0, 0), (4, .aload_n 0, 1, 0, 0, 0), (5, .sipush 156, 3, 0, 0, 0), (8, .newarray .long, 2, 0, 0, 0), (10, .putfield 11, 3, 5, 0, 0), (13, .aload_n 0, 1, 0, 0, 0), (14, .sipush 156, 3, 0, 0, 0), (17, .newarray .long, 2, 0, 0, 0), (19, .putfield 15, 3, 5, 1, 0), (22, .return_, 1, 0, 0, 0)]
noncomputable def M_cX5_init : xM := (RX5, yX5_init, cX5_init, 1, none, false, 5, [(22, k_cX5_init_0)])
noncomputable def k_cX5_begin_0 : List xR := [(0, .iconst 0, 1, 0, 0, 0), (1, .istore_n 2, 1, 0, 0, 0), (2, .iload_n 2, 1, 0, 0, 0), (3, .sipush 156, 3, 0, 0, 0), (6, .if_icmp .ge 16, 3, 0, 0, 0), (9, .aload_n 0, 1, 0, 0, 0), (10, .getfield 11, 3, 5, 0, 0), (13, .iload_n 2, 1, 0, 0, 0), (14, .lconst 0, 1, 0, 0, 0), (15, .lastore, 1, 0, 0, 0), (16, .iinc 2 1, 3, 0, 0, 0), (19, .goto (-17), 3, 0, 0, 0), (22, .iconst 0, 1, 0, 0, 0), (23, .istore_n 2, 1, 0, 0, 0), (24, .iload_n 2, 1, 0, 0, 0), (25, .aload_n 1, 1, 0, 0, 0), (26, .invokevirtual 18, 3, 12, 0, 0), (29, .if_icmp .ge 27, 3, 0, 0, 0), (32, .aload_n 1, 1, 0, 0, 0), (33, .iload_n 2, 1, 0, 0, 0), (34, .invokevirtual 24, 3, 16, 1, 0), (37, .ifCond .ne 13, 3, 0, 0, 0), (40, .aload_n 0, 1, 0, 0, 0), (41, .getfield 11, 3, 5, 0, 0), (44, .iconst (-1), 1, 0, 0, 0), (45, .iload_n 2, 1, 0, 0, 0), (46, .lconst 1, 1, 0, 0, 0), (47, .invokestatic 28, 3, 59, 4, 0), (50, .iinc 2 1, 3, 0, 0, 0), (53, .goto (-29), 3, 0, 0, 0), (56, .return_, 1, 0, 0, 0)]
noncomputable def M_cX5_begin : xM := (RX5, yX5_begin, cX5_begin, 3, none, false, 5, [(56, k_cX5_begin_0)])
noncomputable def k_cX5_grow_0 : List xR := [(0, .iconst 0, 1, 0, 0, 0), (1, .istore_n 3, 1, 0, 0, 0), (2, .iload_n 3, 1, 0, 0, 0), (3, .sipush 156, 3, 0, 0, 0), (6, .if_icmp .ge 16, 3, 0, 0, 0), (9, .aload_n 0, 1, 0, 0, 0), (10, .getfield 15, 3, 5, 1, 0), (13, .iload_n 3, 1, 0, 0, 0), (14, .lconst 0, 1, 0, 0, 0), (15, .lastore, 1, 0, 0, 0), (16, .iinc 3 1, 3, 0, 0, 0), (19, .goto (-17), 3, 0, 0, 0), (22, .iconst (-1), 1, 0, 0, 0), (23, .istore_n 3, 1, 0, 0, 0), (24, .iload_n 3, 1, 0, 0, 0), (25, .aload_n 1, 1, 0, 0, 0), (26, .invokevirtual 18, 3, 12, 0, 0), (29, .if_icmp .ge 48, 3, 0, 0, 0), (32, .iconst 0, 1, 0, 0, 0), (33, .istore 4, 2, 0, 0, 0), (35, .iload 4, 2, 0, 0, 0), (37, .aload_n 1, 1, 0, 0, 0), (38, .invokevirtual 18, 3, 12, 0, 0), (41, .if_icmp .ge 30, 3, 0, 0, 0), (44, .aload_n 0, 1, 0, 0, 0), (45, .iload_n 3, 1, 0, 0, 0), (46, .iload 4, 2, 0, 0, 0), (48, .invokevirtual 32, 3, 58, 2, 0), (51, .lconst 0, 1, 0, 0, 0), (52, .lcmp, 1, 0, 0, 0), (53, .ifCond .le 12, 3, 0, 0, 0), (56, .aload_n 0, 1, 0, 0, 0)]
noncomputable def k_cX5_grow_1 : List xR := [(57, .aload_n 1, 1, 0, 0, 0), (58, .iload_n 2, 1, 0, 0, 0), (59, .iload_n 3, 1, 0, 0, 0), (60, .iload 4, 2, 0, 0, 0), (62, .invokevirtual 36, 3, 56, 4, 0), (65, .iinc 4 1, 3, 0, 0, 0), (68, .goto (-33), 3, 0, 0, 0), (71, .iinc 3 1, 3, 0, 0, 0), (74, .goto (-50), 3, 0, 0, 0), (77, .aload_n 0, 1, 0, 0, 0), (78, .getfield 15, 3, 5, 1, 0), (81, .iconst 0, 1, 0, 0, 0), (82, .aload_n 0, 1, 0, 0, 0), (83, .getfield 11, 3, 5, 0, 0), (86, .iconst 0, 1, 0, 0, 0), (87, .sipush 156, 3, 0, 0, 0), (90, .invokestatic 40, 3, 9005, 5, 0), (93, .return_, 1, 0, 0, 0)]
noncomputable def M_cX5_grow : xM := (RX5, yX5_grow, cX5_grow, 5, none, false, 5, [(56, k_cX5_grow_0), (93, k_cX5_grow_1)])
noncomputable def k_cX5_growFrom_0 : List xR := [(0, .iload_n 2, 1, 0, 0, 0), (1, .iconst 3, 1, 0, 0, 0), (2, .if_icmp .ne 8, 3, 0, 0, 0), (5, .iload 4, 2, 0, 0, 0), (7, .goto 4, 3, 0, 0, 0), (10, .iconst (-1), 1, 0, 0, 0), (11, .istore 5, 2, 0, 0, 0), (13, .iconst 0, 1, 0, 0, 0), (14, .istore 6, 2, 0, 0, 0), (16, .iload 6, 2, 0, 0, 0), (18, .aload_n 1, 1, 0, 0, 0), (19, .invokevirtual 18, 3, 12, 0, 0), (22, .if_icmp .ge 49, 3, 0, 0, 0), (25, .aload_n 1, 1, 0, 0, 0), (26, .iload 6, 2, 0, 0, 0), (28, .invokevirtual 24, 3, 16, 1, 0), (31, .ifCond .ne 34, 3, 0, 0, 0), (34, .aload_n 1, 1, 0, 0, 0), (35, .iload_n 2, 1, 0, 0, 0), (36, .iload_n 3, 1, 0, 0, 0), (37, .iload 4, 2, 0, 0, 0), (39, .iload 6, 2, 0, 0, 0), (41, .invokevirtual 46, 3, 27, 4, 0), (44, .ifCond .eq 21, 3, 0, 0, 0), (47, .aload_n 0, 1, 0, 0, 0), (48, .getfield 15, 3, 5, 1, 0), (51, .iload 5, 2, 0, 0, 0), (53, .iload 6, 2, 0, 0, 0), (55, .aload_n 0, 1, 0, 0, 0), (56, .iload_n 3, 1, 0, 0, 0), (57, .iload 4, 2, 0, 0, 0), (59, .invokevirtual 32, 3, 58, 2, 0)]
noncomputable def k_cX5_growFrom_1 : List xR := [(62, .invokestatic 28, 3, 59, 4, 0), (65, .iinc 6 1, 3, 0, 0, 0), (68, .goto (-52), 3, 0, 0, 0), (71, .return_, 1, 0, 0, 0)]
noncomputable def M_cX5_growFrom : xM := (RX5, yX5_growFrom, cX5_growFrom, 7, none, false, 5, [(59, k_cX5_growFrom_0), (71, k_cX5_growFrom_1)])
noncomputable def k_cX5_at_0 : List xR := [(0, .iload_n 0, 1, 0, 0, 0), (1, .iconst 1, 1, 0, 0, 0), (2, .iadd, 1, 0, 0, 0), (3, .bipush 12, 2, 0, 0, 0), (5, .imul, 1, 0, 0, 0), (6, .iload_n 1, 1, 0, 0, 0), (7, .iadd, 1, 0, 0, 0), (8, .ireturn, 1, 0, 0, 0)]
noncomputable def M_cX5_at : xM := (RX5, yX5_at, cX5_at, 2, (some .int), true, 5, [(8, k_cX5_at_0)])
noncomputable def k_cX5_waysTo_0 : List xR := [(0, .iload_n 1, 1, 0, 0, 0), (1, .iload_n 2, 1, 0, 0, 0), (2, .invokestatic 50, 3, 57, 2, 0), (5, .istore_n 3, 1, 0, 0, 0), (6, .iload_n 3, 1, 0, 0, 0), (7, .ifCond .lt 19, 3, 0, 0, 0), (10, .iload_n 3, 1, 0, 0, 0), (11, .sipush 156, 3, 0, 0, 0), (14, .if_icmp .ge 12, 3, 0, 0, 0), (17, .aload_n 0, 1, 0, 0, 0), (18, .getfield 11, 3, 5, 0, 0), (21, .iload_n 3, 1, 0, 0, 0), (22, .laload, 1, 0, 0, 0), (23, .goto 4, 3, 0, 0, 0), (26, .lconst 0, 1, 0, 0, 0), (27, .lreturn, 1, 0, 0, 0)]
noncomputable def M_cX5_waysTo : xM := (RX5, yX5_waysTo, cX5_waysTo, 4, (some .long), false, 5, [(27, k_cX5_waysTo_0)])
noncomputable def k_cX5_add_0 : List xR := [(0, .iload_n 1, 1, 0, 0, 0), (1, .iload_n 2, 1, 0, 0, 0), (2, .invokestatic 50, 3, 57, 2, 0), (5, .istore 5, 2, 0, 0, 0), (7, .iload 5, 2, 0, 0, 0), (9, .ifCond .lt 18, 3, 0, 0, 0), (12, .iload 5, 2, 0, 0, 0), (14, .aload_n 0, 1, 0, 0, 0), (15, .arraylength, 1, 0, 0, 0), (16, .if_icmp .ge 11, 3, 0, 0, 0), (19, .aload_n 0, 1, 0, 0, 0), (20, .iload 5, 2, 0, 0, 0), (22, .dup2, 1, 0, 0, 0), (23, .laload, 1, 0, 0, 0), (24, .lload_n 3, 1, 0, 0, 0), (25, .ladd, 1, 0, 0, 0), (26, .lastore, 1, 0, 0, 0), (27, .return_, 1, 0, 0, 0)]
noncomputable def M_cX5_add : xM := (RX5, yX5_add, cX5_add, 6, none, true, 5, [(27, k_cX5_add_0)])
noncomputable def k_cX5_rowsTo_0 : List xR := [(0, .lconst 0, 1, 0, 0, 0), (1, .lstore_n 3, 1, 0, 0, 0), (2, .iconst (-1), 1, 0, 0, 0), (3, .istore 5, 2, 0, 0, 0), (5, .iload 5, 2, 0, 0, 0), (7, .aload_n 1, 1, 0, 0, 0), (8, .invokevirtual 18, 3, 12, 0, 0), (11, .if_icmp .ge 19, 3, 0, 0, 0), (14, .lload_n 3, 1, 0, 0, 0), (15, .aload_n 0, 1, 0, 0, 0), (16, .iload 5, 2, 0, 0, 0), (18, .iload_n 2, 1, 0, 0, 0), (19, .invokevirtual 32, 3, 58, 2, 0), (22, .ladd, 1, 0, 0, 0), (23, .lstore_n 3, 1, 0, 0, 0), (24, .iinc 5 1, 3, 0, 0, 0), (27, .goto (-22), 3, 0, 0, 0), (30, .lload_n 3, 1, 0, 0, 0), (31, .lreturn, 1, 0, 0, 0)]
noncomputable def M_cX5_rowsTo : xM := (RX5, yX5_rowsTo, cX5_rowsTo, 6, (some .long), false, 5, [(31, k_cX5_rowsTo_0)])
noncomputable def k_cX5_rowsInAll_0 : List xR := [(0, .lconst 0, 1, 0, 0, 0), (1, .lstore_n 2, 1, 0, 0, 0), (2, .iconst 0, 1, 0, 0, 0), (3, .istore 4, 2, 0, 0, 0), (5, .iload 4, 2, 0, 0, 0), (7, .aload_n 1, 1, 0, 0, 0), (8, .invokevirtual 18, 3, 12, 0, 0), (11, .if_icmp .ge 19, 3, 0, 0, 0), (14, .lload_n 2, 1, 0, 0, 0), (15, .aload_n 0, 1, 0, 0, 0), (16, .aload_n 1, 1, 0, 0, 0), (17, .iload 4, 2, 0, 0, 0), (19, .invokevirtual 54, 3, 60, 2, 0), (22, .ladd, 1, 0, 0, 0), (23, .lstore_n 2, 1, 0, 0, 0), (24, .iinc 4 1, 3, 0, 0, 0), (27, .goto (-22), 3, 0, 0, 0), (30, .lload_n 2, 1, 0, 0, 0), (31, .lreturn, 1, 0, 0, 0)]
noncomputable def M_cX5_rowsInAll : xM := (RX5, yX5_rowsInAll, cX5_rowsInAll, 5, (some .long), false, 5, [(31, k_cX5_rowsInAll_0)])
noncomputable def k_cX5_isEven_0 : List xR := [(0, .ldc2_w 58, 3, 18446744073709551615, 0, 0), (3, .lstore_n 2, 1, 0, 0, 0), (4, .iconst 0, 1, 0, 0, 0), (5, .istore 4, 2, 0, 0, 0), (7, .iload 4, 2, 0, 0, 0), (9, .aload_n 1, 1, 0, 0, 0), (10, .invokevirtual 18, 3, 12, 0, 0), (13, .if_icmp .ge 47, 3, 0, 0, 0), (16, .aload_n 1, 1, 0, 0, 0), (17, .iload 4, 2, 0, 0, 0), (19, .invokevirtual 24, 3, 16, 1, 0), (22, .ifCond .ne 32, 3, 0, 0, 0), (25, .aload_n 0, 1, 0, 0, 0), (26, .aload_n 1, 1, 0, 0, 0), (27, .iload 4, 2, 0, 0, 0), (29, .invokevirtual 54, 3, 60, 2, 0), (32, .lstore 5, 2, 0, 0, 0), (34, .lload_n 2, 1, 0, 0, 0), (35, .ldc2_w 58, 3, 18446744073709551615, 0, 0), (38, .lcmp, 1, 0, 0, 0), (39, .ifCond .eq 12, 3, 0, 0, 0), (42, .lload 5, 2, 0, 0, 0), (44, .lload_n 2, 1, 0, 0, 0), (45, .lcmp, 1, 0, 0, 0), (46, .ifCond .eq 5, 3, 0, 0, 0), (49, .iconst 0, 1, 0, 0, 0), (50, .ireturn, 1, 0, 0, 0), (51, .lload 5, 2, 0, 0, 0), (53, .lstore_n 2, 1, 0, 0, 0), (54, .iinc 4 1, 3, 0, 0, 0), (57, .goto (-50), 3, 0, 0, 0), (60, .iconst 1, 1, 0, 0, 0)]
noncomputable def k_cX5_isEven_1 : List xR := [(61, .ireturn, 1, 0, 0, 0)]
noncomputable def M_cX5_isEven : xM := (RX5, yX5_isEven, cX5_isEven, 7, (some .boolean), false, 5, [(60, k_cX5_isEven_0), (61, k_cX5_isEven_1)])
noncomputable def k_cX6_init_0 : List xR := [(0, .aload_n 0, 1, 0, 0, 0), (1, .invokespecial 3, 3, 9000, 0, 0), (4, .return_, 1, 0, 0, 0)]
noncomputable def M_cX6_init : xM := (RX6, yX6_init, cX6_init, 1, none, false, 6, [(4, k_cX6_init_0)])
noncomputable def k_cX6_take_0 : List xR := [(0, .aload_n 0, 1, 0, 0, 0), (1, .aload_n 1, 1, 0, 0, 0), (2, .iload_n 2, 1, 0, 0, 0), (3, .iconst 0, 1, 0, 0, 0), (4, .invokevirtual 9, 3, 24, 2, 0), (7, .putfield 15, 3, 6, 0, 0), (10, .aload_n 0, 1, 0, 0, 0), (11, .aload_n 1, 1, 0, 0, 0), (12, .iload_n 2, 1, 0, 0, 0), (13, .iconst 1, 1, 0, 0, 0), (14, .invokevirtual 9, 3, 24, 2, 0), (17, .putfield 21, 3, 6, 1, 0), (20, .aload_n 0, 1, 0, 0, 0), (21, .aload_n 1, 1, 0, 0, 0), (22, .iload_n 2, 1, 0, 0, 0), (23, .iconst 2, 1, 0, 0, 0), (24, .invokevirtual 9, 3, 24, 2, 0), (27, .putfield 24, 3, 6, 2, 0), (30, .aload_n 0, 1, 0, 0, 0), (31, .aload_n 1, 1, 0, 0, 0), (32, .iload_n 2, 1, 0, 0, 0), (33, .iconst 3, 1, 0, 0, 0), (34, .invokevirtual 9, 3, 24, 2, 0), (37, .putfield 27, 3, 6, 3, 0), (40, .aload_n 0, 1, 0, 0, 0), (41, .aload_n 1, 1, 0, 0, 0), (42, .iload_n 2, 1, 0, 0, 0), (43, .iconst 4, 1, 0, 0, 0), (44, .invokevirtual 9, 3, 24, 2, 0), (47, .putfield 30, 3, 6, 4, 0), (50, .return_, 1, 0, 0, 0)]
noncomputable def M_cX6_take : xM := (RX6, yX6_take, cX6_take, 3, none, false, 6, [(50, k_cX6_take_0)])
noncomputable def k_cX6_paceIn_0 : List xR := [(0, .aload_n 0, 1, 0, 0, 0), (1, .getfield 24, 3, 6, 2, 0), (4, .ifCond .le 17, 3, 0, 0, 0), (7, .aload_n 0, 1, 0, 0, 0), (8, .getfield 15, 3, 6, 0, 0), (11, .iload_n 1, 1, 0, 0, 0), (12, .aload_n 0, 1, 0, 0, 0), (13, .getfield 24, 3, 6, 2, 0), (16, .idiv, 1, 0, 0, 0), (17, .iadd, 1, 0, 0, 0), (18, .goto 7, 3, 0, 0, 0), (21, .aload_n 0, 1, 0, 0, 0), (22, .getfield 15, 3, 6, 0, 0), (25, .ireturn, 1, 0, 0, 0)]
noncomputable def M_cX6_paceIn : xM := (RX6, yX6_paceIn, cX6_paceIn, 2, (some .int), false, 6, [(25, k_cX6_paceIn_0)])
noncomputable def k_cX6_awareOf_0 : List xR := [(0, .aload_n 1, 1, 0, 0, 0), (1, .iload_n 2, 1, 0, 0, 0), (2, .invokevirtual 33, 3, 41, 1, 0), (5, .ifCond .ne 5, 3, 0, 0, 0), (8, .iconst (-1), 1, 0, 0, 0), (9, .ireturn, 1, 0, 0, 0), (10, .aload_n 1, 1, 0, 0, 0), (11, .getfield 39, 3, 4, 4, 0), (14, .iload_n 2, 1, 0, 0, 0), (15, .iaload, 1, 0, 0, 0), (16, .aload_n 0, 1, 0, 0, 0), (17, .getfield 21, 3, 6, 1, 0), (20, .iadd, 1, 0, 0, 0), (21, .istore_n 3, 1, 0, 0, 0), (22, .aload_n 0, 1, 0, 0, 0), (23, .getfield 27, 3, 6, 3, 0), (26, .ifCond .gt 5, 3, 0, 0, 0), (29, .iload_n 3, 1, 0, 0, 0), (30, .ireturn, 1, 0, 0, 0), (31, .iload_n 3, 1, 0, 0, 0), (32, .aload_n 1, 1, 0, 0, 0), (33, .iload_n 2, 1, 0, 0, 0), (34, .aload_n 0, 1, 0, 0, 0), (35, .getfield 27, 3, 6, 3, 0), (38, .isub, 1, 0, 0, 0), (39, .invokevirtual 33, 3, 41, 1, 0), (42, .ifCond .eq 17, 3, 0, 0, 0), (45, .aload_n 1, 1, 0, 0, 0), (46, .getfield 39, 3, 4, 4, 0), (49, .iload_n 2, 1, 0, 0, 0), (50, .aload_n 0, 1, 0, 0, 0), (51, .getfield 27, 3, 6, 3, 0)]
noncomputable def k_cX6_awareOf_1 : List xR := [(54, .isub, 1, 0, 0, 0), (55, .iaload, 1, 0, 0, 0), (56, .goto 4, 3, 0, 0, 0), (59, .iconst 0, 1, 0, 0, 0), (60, .invokestatic 43, 3, 9002, 2, 0), (63, .ireturn, 1, 0, 0, 0)]
noncomputable def M_cX6_awareOf : xM := (RX6, yX6_awareOf, cX6_awareOf, 4, (some .int), false, 6, [(51, k_cX6_awareOf_0), (63, k_cX6_awareOf_1)])
noncomputable def k_cX6_there_0 : List xR := [(0, .iload 4, 2, 0, 0, 0), (2, .aload_n 1, 1, 0, 0, 0), (3, .iload_n 2, 1, 0, 0, 0), (4, .iload_n 3, 1, 0, 0, 0), (5, .invokevirtual 48, 3, 18, 2, 0), (8, .aload_n 0, 1, 0, 0, 0), (9, .iload 4, 2, 0, 0, 0), (11, .invokevirtual 51, 3, 65, 1, 0), (14, .imul, 1, 0, 0, 0), (15, .iadd, 1, 0, 0, 0), (16, .ireturn, 1, 0, 0, 0)]
noncomputable def M_cX6_there : xM := (RX6, yX6_there, cX6_there, 5, (some .int), false, 6, [(16, k_cX6_there_0)])
noncomputable def k_cX6_reachFrom_0 : List xR := [(0, .iconst 0, 1, 0, 0, 0), (1, .istore_n 3, 1, 0, 0, 0), (2, .iconst 0, 1, 0, 0, 0), (3, .istore 4, 2, 0, 0, 0), (5, .iload 4, 2, 0, 0, 0), (7, .aload_n 1, 1, 0, 0, 0), (8, .invokevirtual 55, 3, 12, 0, 0), (11, .if_icmp .ge 45, 3, 0, 0, 0), (14, .aload_n 1, 1, 0, 0, 0), (15, .iload 4, 2, 0, 0, 0), (17, .invokevirtual 59, 3, 16, 1, 0), (20, .ifCond .ne 30, 3, 0, 0, 0), (23, .aload_n 0, 1, 0, 0, 0), (24, .aload_n 1, 1, 0, 0, 0), (25, .iload_n 2, 1, 0, 0, 0), (26, .iload 4, 2, 0, 0, 0), (28, .aload_n 0, 1, 0, 0, 0), (29, .getfield 21, 3, 6, 1, 0), (32, .invokevirtual 62, 3, 67, 4, 0), (35, .aload_n 1, 1, 0, 0, 0), (36, .iconst 0, 1, 0, 0, 0), (37, .invokevirtual 66, 3, 21, 1, 0), (40, .if_icmp .ge 10, 3, 0, 0, 0), (43, .iload_n 3, 1, 0, 0, 0), (44, .iconst 1, 1, 0, 0, 0), (45, .iload 4, 2, 0, 0, 0), (47, .ishl, 1, 0, 0, 0), (48, .ior, 1, 0, 0, 0), (49, .istore_n 3, 1, 0, 0, 0), (50, .iinc 4 1, 3, 0, 0, 0), (53, .goto (-48), 3, 0, 0, 0), (56, .iload_n 3, 1, 0, 0, 0)]
noncomputable def k_cX6_reachFrom_1 : List xR := [(57, .ireturn, 1, 0, 0, 0)]
noncomputable def M_cX6_reachFrom : xM := (RX6, yX6_reachFrom, cX6_reachFrom, 5, (some .int), false, 6, [(56, k_cX6_reachFrom_0), (57, k_cX6_reachFrom_1)])
noncomputable def k_cX7_init_0 : List xR := [(0, .aload_n 0, 1, 0, 0, 0), (1, .invokespecial 3, 3, 9000, 0, 0), (4, .aload_n 0, 1, 0, 0, 0), (5, .new 9, 3, 2, 15, 0), (8, .dup, 1, 0, 0, 0), (9, .invokespecial 11, 3, 8, 0, 0), (12, .putfield 12, 3, 7, 0, 0), (15, .aload_n 0, 1, 0, 0, 0), (16, .iconst (-1), 1, 0, 0, 0), (17, .putfield 18, 3, 7, 2, 0), (20, .aload_n 0, 1, 0, 0, 0), (21, .new 22, 3, 10, 2, 0), (24, .dup, 1, 0, 0, 0), (25, .invokespecial 24, 3, 108, 0, 0), (28, .putfield 25, 3, 7, 3, 0), (31, .aload_n 0, 1, 0, 0, 0), (32, .iconst 5, 1, 0, 0, 0), (33, .newarray .int, 2, 0, 0, 0), (35, .putfield 29, 3, 7, 4, 0), (38, .return_, 1, 0, 0, 0)]
noncomputable def M_cX7_init : xM := (RX7, yX7_init, cX7_init, 1, none, false, 7, [(38, k_cX7_init_0)])
noncomputable def k_cX7_readAll_0 : List xR := [(0, .aload_n 0, 1, 0, 0, 0), (1, .getfield 12, 3, 7, 0, 0), (4, .invokevirtual 33, 3, 9, 0, 0), (7, .aload_n 0, 1, 0, 0, 0), (8, .iconst 0, 1, 0, 0, 0), (9, .putfield 36, 3, 7, 7, 0), (12, .aload_n 0, 1, 0, 0, 0), (13, .iconst 0, 1, 0, 0, 0), (14, .putfield 39, 3, 7, 1, 0), (17, .aload_n 0, 1, 0, 0, 0), (18, .iconst (-1), 1, 0, 0, 0), (19, .putfield 18, 3, 7, 2, 0), (22, .aload_n 0, 1, 0, 0, 0), (23, .invokevirtual 42, 3, 86, 0, 0), (26, .iconst 0, 1, 0, 0, 0), (27, .istore_n 1, 1, 0, 0, 0), (28, .iload_n 1, 1, 0, 0, 0), (29, .sipush 1200, 3, 0, 0, 0), (32, .if_icmp .gt 32, 3, 0, 0, 0), (35, .aload_n 0, 1, 0, 0, 0), (36, .getfield 39, 3, 7, 1, 0), (39, .ifCond .ne 25, 3, 0, 0, 0), (42, .aload_n 0, 1, 0, 0, 0), (43, .getfield 45, 3, 7, 5, 0), (46, .iconst 1, 1, 0, 0, 0), (47, .if_icmp .eq 17, 3, 0, 0, 0), (50, .aload_n 0, 1, 0, 0, 0), (51, .invokevirtual 48, 3, 72, 0, 0), (54, .aload_n 0, 1, 0, 0, 0), (55, .invokevirtual 42, 3, 86, 0, 0), (58, .iinc 1 1, 3, 0, 0, 0), (61, .goto (-33), 3, 0, 0, 0)]
noncomputable def k_cX7_readAll_1 : List xR := [(64, .aload_n 0, 1, 0, 0, 0), (65, .getfield 39, 3, 7, 1, 0), (68, .ifCond .ne 7, 3, 0, 0, 0), (71, .iconst 1, 1, 0, 0, 0), (72, .goto 4, 3, 0, 0, 0), (75, .iconst 0, 1, 0, 0, 0), (76, .ireturn, 1, 0, 0, 0)]
noncomputable def M_cX7_readAll : xM := (RX7, yX7_readAll, cX7_readAll, 2, (some .boolean), false, 7, [(61, k_cX7_readAll_0), (76, k_cX7_readAll_1)])
noncomputable def k_cX7_shapeOf_0 : List xR := [(0, .iload_n 0, 1, 0, 0, 0), (1, .tableswitch 64 0 6 #[43, 46, 49, 52, 55, 58, 61], 43, 0, 0, 0), (44, .ldc 51, 2, 4294967296, 0, 0), (46, .areturn, 1, 0, 0, 0), (47, .ldc 53, 2, 4294967297, 0, 0), (49, .areturn, 1, 0, 0, 0), (50, .ldc 55, 2, 4294967298, 0, 0), (52, .areturn, 1, 0, 0, 0), (53, .ldc 57, 2, 4294967299, 0, 0), (55, .areturn, 1, 0, 0, 0), (56, .ldc 59, 2, 4294967300, 0, 0), (58, .areturn, 1, 0, 0, 0), (59, .ldc 61, 2, 4294967301, 0, 0), (61, .areturn, 1, 0, 0, 0), (62, .ldc 63, 2, 4294967302, 0, 0), (64, .areturn, 1, 0, 0, 0), (65, .ldc 65, 2, 4294967303, 0, 0), (67, .areturn, 1, 0, 0, 0)]
noncomputable def M_cX7_shapeOf : xM := (RX7, yX7_shapeOf, cX7_shapeOf, 1, (some (.object "java/lang/String")), true, 7, [(67, k_cX7_shapeOf_0)])
noncomputable def k_cX7_readLine_0 : List xR := [(0, .aload_n 0, 1, 0, 0, 0), (1, .invokevirtual 67, 3, 75, 0, 0), (4, .istore_n 1, 1, 0, 0, 0), (5, .iload_n 1, 1, 0, 0, 0), (6, .iconst (-1), 1, 0, 0, 0), (7, .if_icmp .ne 9, 3, 0, 0, 0), (10, .aload_n 0, 1, 0, 0, 0), (11, .iconst 1, 1, 0, 0, 0), (12, .invokevirtual 71, 3, 73, 1, 0), (15, .return_, 1, 0, 0, 0), (16, .aload_n 0, 1, 0, 0, 0), (17, .iload_n 1, 1, 0, 0, 0), (18, .invokevirtual 75, 3, 78, 1, 0), (21, .ifCond .eq 9, 3, 0, 0, 0), (24, .aload_n 0, 1, 0, 0, 0), (25, .iconst 3, 1, 0, 0, 0), (26, .invokevirtual 71, 3, 73, 1, 0), (29, .return_, 1, 0, 0, 0), (30, .iload_n 1, 1, 0, 0, 0), (31, .invokestatic 79, 3, 71, 1, 0), (34, .astore_n 2, 1, 0, 0, 0), (35, .iconst 0, 1, 0, 0, 0), (36, .istore_n 3, 1, 0, 0, 0), (37, .aload_n 2, 1, 0, 0, 0), (38, .iconst 0, 1, 0, 0, 0), (39, .invokestatic 83, 3, 74, 2, 0), (42, .istore 4, 2, 0, 0, 0), (44, .iconst 1, 1, 0, 0, 0), (45, .istore 5, 2, 0, 0, 0), (47, .iload 5, 2, 0, 0, 0), (49, .aload_n 2, 1, 0, 0, 0), (50, .invokevirtual 87, 3, 9006, 0, 0)]
noncomputable def k_cX7_readLine_1 : List xR := [(53, .if_icmp .ge 96, 3, 0, 0, 0), (56, .iload 4, 2, 0, 0, 0), (58, .aload_n 2, 1, 0, 0, 0), (59, .invokevirtual 87, 3, 9006, 0, 0), (62, .if_icmp .ge 87, 3, 0, 0, 0), (65, .aload_n 0, 1, 0, 0, 0), (66, .invokevirtual 42, 3, 86, 0, 0), (69, .aload_n 0, 1, 0, 0, 0), (70, .aload_n 2, 1, 0, 0, 0), (71, .iload 4, 2, 0, 0, 0), (73, .invokevirtual 92, 3, 76, 2, 0), (76, .ifCond .ne 9, 3, 0, 0, 0), (79, .aload_n 0, 1, 0, 0, 0), (80, .iconst 1, 1, 0, 0, 0), (81, .invokevirtual 71, 3, 73, 1, 0), (84, .return_, 1, 0, 0, 0), (85, .aload_n 0, 1, 0, 0, 0), (86, .getfield 45, 3, 7, 5, 0), (89, .iconst 3, 1, 0, 0, 0), (90, .if_icmp .ne 45, 3, 0, 0, 0), (93, .iload_n 3, 1, 0, 0, 0), (94, .aload_n 0, 1, 0, 0, 0), (95, .getfield 29, 3, 7, 4, 0), (98, .arraylength, 1, 0, 0, 0), (99, .if_icmp .ge 36, 3, 0, 0, 0), (102, .aload_n 0, 1, 0, 0, 0), (103, .iload_n 1, 1, 0, 0, 0), (104, .iload_n 3, 1, 0, 0, 0), (105, .invokevirtual 96, 3, 79, 2, 0), (108, .istore 6, 2, 0, 0, 0), (110, .iload 6, 2, 0, 0, 0), (112, .ifCond .eq 10, 3, 0, 0, 0)]
noncomputable def k_cX7_readLine_2 : List xR := [(115, .aload_n 0, 1, 0, 0, 0), (116, .iload 6, 2, 0, 0, 0), (118, .invokevirtual 71, 3, 73, 1, 0), (121, .return_, 1, 0, 0, 0), (122, .aload_n 0, 1, 0, 0, 0), (123, .getfield 29, 3, 7, 4, 0), (126, .iload_n 3, 1, 0, 0, 0), (127, .aload_n 0, 1, 0, 0, 0), (128, .getfield 100, 3, 7, 8, 0), (131, .iastore, 1, 0, 0, 0), (132, .iinc 3 1, 3, 0, 0, 0), (135, .aload_n 2, 1, 0, 0, 0), (136, .iload 4, 2, 0, 0, 0), (138, .invokestatic 83, 3, 74, 2, 0), (141, .istore 4, 2, 0, 0, 0), (143, .iinc 5 1, 3, 0, 0, 0), (146, .goto (-99), 3, 0, 0, 0), (149, .aload_n 0, 1, 0, 0, 0), (150, .iload_n 1, 1, 0, 0, 0), (151, .invokevirtual 103, 3, 84, 1, 0), (154, .aload_n 0, 1, 0, 0, 0), (155, .getfield 12, 3, 7, 0, 0), (158, .dup, 1, 0, 0, 0), (159, .getfield 106, 3, 2, 1, 0), (162, .iconst 1, 1, 0, 0, 0), (163, .iadd, 1, 0, 0, 0), (164, .putfield 106, 3, 2, 1, 0), (167, .return_, 1, 0, 0, 0)]
noncomputable def M_cX7_readLine : xM := (RX7, yX7_readLine, cX7_readLine, 7, none, false, 7, [(50, k_cX7_readLine_0), (112, k_cX7_readLine_1), (167, k_cX7_readLine_2)])
noncomputable def k_cX7_blame_0 : List xR := [(0, .aload_n 0, 1, 0, 0, 0), (1, .iload_n 1, 1, 0, 0, 0), (2, .putfield 39, 3, 7, 1, 0), (5, .aload_n 0, 1, 0, 0, 0), (6, .aload_n 0, 1, 0, 0, 0), (7, .getfield 109, 3, 7, 6, 0), (10, .putfield 18, 3, 7, 2, 0), (13, .return_, 1, 0, 0, 0)]
noncomputable def M_cX7_blame : xM := (RX7, yX7_blame, cX7_blame, 2, none, false, 7, [(13, k_cX7_blame_0)])
noncomputable def k_cX7_behindBlank_0 : List xR := [(0, .iload_n 1, 1, 0, 0, 0), (1, .istore_n 2, 1, 0, 0, 0), (2, .iload_n 2, 1, 0, 0, 0), (3, .aload_n 0, 1, 0, 0, 0), (4, .invokevirtual 87, 3, 9006, 0, 0), (7, .if_icmp .ge 19, 3, 0, 0, 0), (10, .aload_n 0, 1, 0, 0, 0), (11, .iload_n 2, 1, 0, 0, 0), (12, .invokevirtual 112, 3, 9007, 1, 0), (15, .bipush 32, 2, 0, 0, 0), (17, .if_icmp .eq 9, 3, 0, 0, 0), (20, .iinc 2 1, 3, 0, 0, 0), (23, .goto (-21), 3, 0, 0, 0), (26, .iload_n 2, 1, 0, 0, 0), (27, .iconst 1, 1, 0, 0, 0), (28, .iadd, 1, 0, 0, 0), (29, .ireturn, 1, 0, 0, 0)]
noncomputable def M_cX7_behindBlank : xM := (RX7, yX7_behindBlank, cX7_behindBlank, 3, (some .int), true, 7, [(29, k_cX7_behindBlank_0)])
noncomputable def k_cX7_kindOfLine_0 : List xR := [(0, .iconst 0, 1, 0, 0, 0), (1, .istore_n 1, 1, 0, 0, 0), (2, .iload_n 1, 1, 0, 0, 0), (3, .bipush 8, 2, 0, 0, 0), (5, .if_icmp .ge 54, 3, 0, 0, 0), (8, .aload_n 0, 1, 0, 0, 0), (9, .iload_n 1, 1, 0, 0, 0), (10, .invokestatic 79, 3, 71, 1, 0), (13, .iconst 0, 1, 0, 0, 0), (14, .invokevirtual 92, 3, 76, 2, 0), (17, .ifCond .eq 36, 3, 0, 0, 0), (20, .iload_n 1, 1, 0, 0, 0), (21, .ifCond .ne 7, 3, 0, 0, 0), (24, .iconst 1, 1, 0, 0, 0), (25, .goto 4, 3, 0, 0, 0), (28, .iconst 0, 1, 0, 0, 0), (29, .aload_n 0, 1, 0, 0, 0), (30, .getfield 12, 3, 7, 0, 0), (33, .getfield 106, 3, 2, 1, 0), (36, .ifCond .ne 7, 3, 0, 0, 0), (39, .iconst 1, 1, 0, 0, 0), (40, .goto 4, 3, 0, 0, 0), (43, .iconst 0, 1, 0, 0, 0), (44, .if_icmp .ne 7, 3, 0, 0, 0), (47, .iload_n 1, 1, 0, 0, 0), (48, .goto 4, 3, 0, 0, 0), (51, .iconst (-1), 1, 0, 0, 0), (52, .ireturn, 1, 0, 0, 0), (53, .iinc 1 1, 3, 0, 0, 0), (56, .goto (-54), 3, 0, 0, 0), (59, .iconst (-1), 1, 0, 0, 0), (60, .ireturn, 1, 0, 0, 0)]
noncomputable def M_cX7_kindOfLine : xM := (RX7, yX7_kindOfLine, cX7_kindOfLine, 2, (some .int), false, 7, [(60, k_cX7_kindOfLine_0)])
noncomputable def k_cX7_standsAt_0 : List xR := [(0, .iload_n 2, 1, 0, 0, 0), (1, .ifCond .lt 11, 3, 0, 0, 0), (4, .iload_n 2, 1, 0, 0, 0), (5, .aload_n 1, 1, 0, 0, 0), (6, .invokevirtual 87, 3, 9006, 0, 0), (9, .if_icmp .lt 5, 3, 0, 0, 0), (12, .iconst 0, 1, 0, 0, 0), (13, .ireturn, 1, 0, 0, 0), (14, .aload_n 1, 1, 0, 0, 0), (15, .iload_n 2, 1, 0, 0, 0), (16, .invokevirtual 112, 3, 9007, 1, 0), (19, .lookupswitch 53 #[(35, 25), (59, 39)], 25, 0, 0, 0), (44, .aload_n 0, 1, 0, 0, 0), (45, .getfield 45, 3, 7, 5, 0), (48, .iconst 3, 1, 0, 0, 0), (49, .if_icmp .ne 7, 3, 0, 0, 0), (52, .iconst 1, 1, 0, 0, 0), (53, .goto 4, 3, 0, 0, 0), (56, .iconst 0, 1, 0, 0, 0), (57, .ireturn, 1, 0, 0, 0), (58, .aload_n 0, 1, 0, 0, 0), (59, .getfield 45, 3, 7, 5, 0), (62, .iconst 4, 1, 0, 0, 0), (63, .if_icmp .ne 7, 3, 0, 0, 0), (66, .iconst 1, 1, 0, 0, 0), (67, .goto 4, 3, 0, 0, 0), (70, .iconst 0, 1, 0, 0, 0), (71, .ireturn, 1, 0, 0, 0), (72, .aload_n 0, 1, 0, 0, 0), (73, .getfield 45, 3, 7, 5, 0), (76, .iconst 2, 1, 0, 0, 0), (77, .if_icmp .ne 16, 3, 0, 0, 0)]
noncomputable def k_cX7_standsAt_1 : List xR := [(80, .aload_n 0, 1, 0, 0, 0), (81, .aload_n 1, 1, 0, 0, 0), (82, .iload_n 2, 1, 0, 0, 0), (83, .invokevirtual 116, 3, 77, 2, 0), (86, .ifCond .eq 7, 3, 0, 0, 0), (89, .iconst 1, 1, 0, 0, 0), (90, .goto 4, 3, 0, 0, 0), (93, .iconst 0, 1, 0, 0, 0), (94, .ireturn, 1, 0, 0, 0)]
noncomputable def M_cX7_standsAt : xM := (RX7, yX7_standsAt, cX7_standsAt, 3, (some .boolean), false, 7, [(77, k_cX7_standsAt_0), (94, k_cX7_standsAt_1)])
noncomputable def k_cX7_isSpelled_0 : List xR := [(0, .aload_n 0, 1, 0, 0, 0), (1, .getfield 36, 3, 7, 7, 0), (4, .aload_n 0, 1, 0, 0, 0), (5, .getfield 109, 3, 7, 6, 0), (8, .isub, 1, 0, 0, 0), (9, .istore_n 3, 1, 0, 0, 0), (10, .iload_n 2, 1, 0, 0, 0), (11, .iload_n 3, 1, 0, 0, 0), (12, .iadd, 1, 0, 0, 0), (13, .aload_n 1, 1, 0, 0, 0), (14, .invokevirtual 87, 3, 9006, 0, 0), (17, .if_icmp .ge 15, 3, 0, 0, 0), (20, .aload_n 1, 1, 0, 0, 0), (21, .iload_n 2, 1, 0, 0, 0), (22, .iload_n 3, 1, 0, 0, 0), (23, .iadd, 1, 0, 0, 0), (24, .invokevirtual 112, 3, 9007, 1, 0), (27, .bipush 32, 2, 0, 0, 0), (29, .if_icmp .eq 5, 3, 0, 0, 0), (32, .iconst 0, 1, 0, 0, 0), (33, .ireturn, 1, 0, 0, 0), (34, .iconst 0, 1, 0, 0, 0), (35, .istore 4, 2, 0, 0, 0), (37, .iload 4, 2, 0, 0, 0), (39, .iload_n 3, 1, 0, 0, 0), (40, .if_icmp .ge 36, 3, 0, 0, 0), (43, .aload_n 1, 1, 0, 0, 0), (44, .iload_n 2, 1, 0, 0, 0), (45, .iload 4, 2, 0, 0, 0), (47, .iadd, 1, 0, 0, 0), (48, .invokevirtual 112, 3, 9007, 1, 0), (51, .aload_n 0, 1, 0, 0, 0)]
noncomputable def k_cX7_isSpelled_1 : List xR := [(52, .getfield 25, 3, 7, 3, 0), (55, .aload_n 0, 1, 0, 0, 0), (56, .getfield 109, 3, 7, 6, 0), (59, .iload 4, 2, 0, 0, 0), (61, .iadd, 1, 0, 0, 0), (62, .invokevirtual 119, 3, 110, 1, 0), (65, .if_icmp .eq 5, 3, 0, 0, 0), (68, .iconst 0, 1, 0, 0, 0), (69, .ireturn, 1, 0, 0, 0), (70, .iinc 4 1, 3, 0, 0, 0), (73, .goto (-36), 3, 0, 0, 0), (76, .iconst 1, 1, 0, 0, 0), (77, .ireturn, 1, 0, 0, 0)]
noncomputable def M_cX7_isSpelled : xM := (RX7, yX7_isSpelled, cX7_isSpelled, 5, (some .boolean), false, 7, [(51, k_cX7_isSpelled_0), (77, k_cX7_isSpelled_1)])
noncomputable def k_cX7_isFull_0 : List xR := [(0, .iload_n 1, 1, 0, 0, 0), (1, .tableswitch 69 3 6 #[31, 31, 31, 52], 31, 0, 0, 0), (32, .aload_n 0, 1, 0, 0, 0), (33, .getfield 12, 3, 7, 0, 0), (36, .getfield 123, 3, 2, 14, 0), (39, .getfield 127, 3, 3, 0, 0), (42, .bipush 24, 2, 0, 0, 0), (44, .if_icmp .lt 7, 3, 0, 0, 0), (47, .iconst 1, 1, 0, 0, 0), (48, .goto 4, 3, 0, 0, 0), (51, .iconst 0, 1, 0, 0, 0), (52, .ireturn, 1, 0, 0, 0), (53, .aload_n 0, 1, 0, 0, 0), (54, .getfield 12, 3, 7, 0, 0), (57, .getfield 132, 3, 2, 7, 0), (60, .iconst 4, 1, 0, 0, 0), (61, .if_icmp .lt 7, 3, 0, 0, 0), (64, .iconst 1, 1, 0, 0, 0), (65, .goto 4, 3, 0, 0, 0), (68, .iconst 0, 1, 0, 0, 0), (69, .ireturn, 1, 0, 0, 0), (70, .iconst 0, 1, 0, 0, 0), (71, .ireturn, 1, 0, 0, 0)]
noncomputable def M_cX7_isFull : xM := (RX7, yX7_isFull, cX7_isFull, 2, (some .boolean), false, 7, [(71, k_cX7_isFull_0)])
noncomputable def k_cX7_judge_0 : List xR := [(0, .iload_n 1, 1, 0, 0, 0), (1, .tableswitch 170 0 6 #[43, 57, 76, 106, 106, 119, 149], 43, 0, 0, 0), (44, .aload_n 0, 1, 0, 0, 0), (45, .iload_n 2, 1, 0, 0, 0), (46, .invokevirtual 135, 3, 81, 1, 0), (49, .ifCond .eq 7, 3, 0, 0, 0), (52, .iconst 0, 1, 0, 0, 0), (53, .goto 4, 3, 0, 0, 0), (56, .iconst 2, 1, 0, 0, 0), (57, .ireturn, 1, 0, 0, 0), (58, .iload_n 2, 1, 0, 0, 0), (59, .ifCond .ne 13, 3, 0, 0, 0), (62, .aload_n 0, 1, 0, 0, 0), (63, .iconst 1, 1, 0, 0, 0), (64, .bipush 40, 2, 0, 0, 0), (66, .invokevirtual 138, 3, 80, 2, 0), (69, .goto 7, 3, 0, 0, 0), (72, .aload_n 0, 1, 0, 0, 0), (73, .invokevirtual 141, 3, 82, 0, 0), (76, .ireturn, 1, 0, 0, 0), (77, .aload_n 0, 1, 0, 0, 0), (78, .invokevirtual 144, 3, 83, 0, 0), (81, .ifCond .eq 24, 3, 0, 0, 0), (84, .aload_n 0, 1, 0, 0, 0), (85, .getfield 12, 3, 7, 0, 0), (88, .getfield 123, 3, 2, 14, 0), (91, .aload_n 0, 1, 0, 0, 0), (92, .getfield 100, 3, 7, 8, 0), (95, .invokevirtual 148, 3, 36, 1, 0), (98, .ifCond .ne 7, 3, 0, 0, 0), (101, .iconst 0, 1, 0, 0, 0), (102, .goto 4, 3, 0, 0, 0)]
noncomputable def k_cX7_judge_1 : List xR := [(105, .iconst 2, 1, 0, 0, 0), (106, .ireturn, 1, 0, 0, 0), (107, .aload_n 0, 1, 0, 0, 0), (108, .invokevirtual 144, 3, 83, 0, 0), (111, .ifCond .eq 7, 3, 0, 0, 0), (114, .iconst 0, 1, 0, 0, 0), (115, .goto 4, 3, 0, 0, 0), (118, .iconst 2, 1, 0, 0, 0), (119, .ireturn, 1, 0, 0, 0), (120, .aload_n 0, 1, 0, 0, 0), (121, .invokevirtual 144, 3, 83, 0, 0), (124, .ifCond .eq 24, 3, 0, 0, 0), (127, .iload_n 2, 1, 0, 0, 0), (128, .ifCond .eq 16, 3, 0, 0, 0), (131, .aload_n 0, 1, 0, 0, 0), (132, .getfield 100, 3, 7, 8, 0), (135, .aload_n 0, 1, 0, 0, 0), (136, .getfield 29, 3, 7, 4, 0), (139, .iconst 0, 1, 0, 0, 0), (140, .iaload, 1, 0, 0, 0), (141, .if_icmp .eq 7, 3, 0, 0, 0), (144, .iconst 0, 1, 0, 0, 0), (145, .goto 4, 3, 0, 0, 0), (148, .iconst 2, 1, 0, 0, 0), (149, .ireturn, 1, 0, 0, 0), (150, .aload_n 0, 1, 0, 0, 0), (151, .getfield 12, 3, 7, 0, 0), (154, .iload_n 2, 1, 0, 0, 0), (155, .aload_n 0, 1, 0, 0, 0), (156, .getfield 100, 3, 7, 8, 0), (159, .invokevirtual 151, 3, 26, 2, 0), (162, .ifCond .eq 7, 3, 0, 0, 0)]
noncomputable def k_cX7_judge_2 : List xR := [(165, .iconst 0, 1, 0, 0, 0), (166, .goto 4, 3, 0, 0, 0), (169, .iconst 2, 1, 0, 0, 0), (170, .ireturn, 1, 0, 0, 0), (171, .iload_n 2, 1, 0, 0, 0), (172, .ifCond .ne 13, 3, 0, 0, 0), (175, .aload_n 0, 1, 0, 0, 0), (176, .iconst 1, 1, 0, 0, 0), (177, .bipush 99, 2, 0, 0, 0), (179, .invokevirtual 138, 3, 80, 2, 0), (182, .goto 11, 3, 0, 0, 0), (185, .aload_n 0, 1, 0, 0, 0), (186, .iconst 1, 1, 0, 0, 0), (187, .sipush 500, 3, 0, 0, 0), (190, .invokevirtual 138, 3, 80, 2, 0), (193, .ireturn, 1, 0, 0, 0)]
noncomputable def M_cX7_judge : xM := (RX7, yX7_judge, cX7_judge, 3, (some .int), false, 7, [(102, k_cX7_judge_0), (162, k_cX7_judge_1), (193, k_cX7_judge_2)])
noncomputable def k_cX7_within_0 : List xR := [(0, .aload_n 0, 1, 0, 0, 0), (1, .getfield 100, 3, 7, 8, 0), (4, .iload_n 1, 1, 0, 0, 0), (5, .if_icmp .lt 15, 3, 0, 0, 0), (8, .aload_n 0, 1, 0, 0, 0), (9, .getfield 100, 3, 7, 8, 0), (12, .iload_n 2, 1, 0, 0, 0), (13, .if_icmp .gt 7, 3, 0, 0, 0), (16, .iconst 0, 1, 0, 0, 0), (17, .goto 4, 3, 0, 0, 0), (20, .iconst 2, 1, 0, 0, 0), (21, .ireturn, 1, 0, 0, 0)]
noncomputable def M_cX7_within : xM := (RX7, yX7_within, cX7_within, 3, (some .int), false, 7, [(21, k_cX7_within_0)])
noncomputable def k_cX7_fitsBoard_0 : List xR := [(0, .iload_n 1, 1, 0, 0, 0), (1, .tableswitch 74 0 2 #[27, 42, 57], 27, 0, 0, 0), (28, .aload_n 0, 1, 0, 0, 0), (29, .iconst 1, 1, 0, 0, 0), (30, .iconst 4, 1, 0, 0, 0), (31, .invokevirtual 138, 3, 80, 2, 0), (34, .ifCond .ne 7, 3, 0, 0, 0), (37, .iconst 1, 1, 0, 0, 0), (38, .goto 4, 3, 0, 0, 0), (41, .iconst 0, 1, 0, 0, 0), (42, .ireturn, 1, 0, 0, 0), (43, .aload_n 0, 1, 0, 0, 0), (44, .iconst 1, 1, 0, 0, 0), (45, .iconst 3, 1, 0, 0, 0), (46, .invokevirtual 138, 3, 80, 2, 0), (49, .ifCond .ne 7, 3, 0, 0, 0), (52, .iconst 1, 1, 0, 0, 0), (53, .goto 4, 3, 0, 0, 0), (56, .iconst 0, 1, 0, 0, 0), (57, .ireturn, 1, 0, 0, 0), (58, .aload_n 0, 1, 0, 0, 0), (59, .iconst 1, 1, 0, 0, 0), (60, .sipush 200, 3, 0, 0, 0), (63, .invokevirtual 138, 3, 80, 2, 0), (66, .ifCond .ne 7, 3, 0, 0, 0), (69, .iconst 1, 1, 0, 0, 0), (70, .goto 4, 3, 0, 0, 0), (73, .iconst 0, 1, 0, 0, 0), (74, .ireturn, 1, 0, 0, 0), (75, .aload_n 0, 1, 0, 0, 0), (76, .iconst 0, 1, 0, 0, 0), (77, .bipush 9, 2, 0, 0, 0)]
noncomputable def k_cX7_fitsBoard_1 : List xR := [(79, .invokevirtual 138, 3, 80, 2, 0), (82, .ifCond .ne 7, 3, 0, 0, 0), (85, .iconst 1, 1, 0, 0, 0), (86, .goto 4, 3, 0, 0, 0), (89, .iconst 0, 1, 0, 0, 0), (90, .ireturn, 1, 0, 0, 0)]
noncomputable def M_cX7_fitsBoard : xM := (RX7, yX7_fitsBoard, cX7_fitsBoard, 2, (some .boolean), false, 7, [(77, k_cX7_fitsBoard_0), (90, k_cX7_fitsBoard_1)])
noncomputable def k_cX7_judgeFrom_0 : List xR := [(0, .aload_n 0, 1, 0, 0, 0), (1, .getfield 12, 3, 7, 0, 0), (4, .aload_n 0, 1, 0, 0, 0), (5, .getfield 100, 3, 7, 8, 0), (8, .invokevirtual 155, 3, 14, 1, 0), (11, .ifCond .ne 5, 3, 0, 0, 0), (14, .iconst 2, 1, 0, 0, 0), (15, .ireturn, 1, 0, 0, 0), (16, .aload_n 0, 1, 0, 0, 0), (17, .getfield 12, 3, 7, 0, 0), (20, .getfield 158, 3, 2, 10, 0), (23, .bipush 6, 2, 0, 0, 0), (25, .if_icmp .lt 21, 3, 0, 0, 0), (28, .aload_n 0, 1, 0, 0, 0), (29, .getfield 12, 3, 7, 0, 0), (32, .aload_n 0, 1, 0, 0, 0), (33, .getfield 100, 3, 7, 8, 0), (36, .invokevirtual 161, 3, 22, 1, 0), (39, .ifCond .ne 7, 3, 0, 0, 0), (42, .iconst 3, 1, 0, 0, 0), (43, .goto 4, 3, 0, 0, 0), (46, .iconst 0, 1, 0, 0, 0), (47, .ireturn, 1, 0, 0, 0)]
noncomputable def M_cX7_judgeFrom : xM := (RX7, yX7_judgeFrom, cX7_judgeFrom, 1, (some .int), false, 7, [(47, k_cX7_judgeFrom_0)])
noncomputable def k_cX7_isOpen_0 : List xR := [(0, .aload_n 0, 1, 0, 0, 0), (1, .getfield 12, 3, 7, 0, 0), (4, .aload_n 0, 1, 0, 0, 0), (5, .getfield 100, 3, 7, 8, 0), (8, .invokevirtual 164, 3, 13, 1, 0), (11, .ifCond .eq 21, 3, 0, 0, 0), (14, .aload_n 0, 1, 0, 0, 0), (15, .getfield 12, 3, 7, 0, 0), (18, .aload_n 0, 1, 0, 0, 0), (19, .getfield 100, 3, 7, 8, 0), (22, .invokevirtual 167, 3, 16, 1, 0), (25, .ifCond .ne 7, 3, 0, 0, 0), (28, .iconst 1, 1, 0, 0, 0), (29, .goto 4, 3, 0, 0, 0), (32, .iconst 0, 1, 0, 0, 0), (33, .ireturn, 1, 0, 0, 0)]
noncomputable def M_cX7_isOpen : xM := (RX7, yX7_isOpen, cX7_isOpen, 1, (some .boolean), false, 7, [(33, k_cX7_isOpen_0)])
noncomputable def k_cX7_apply_0 : List xR := [(0, .iload_n 1, 1, 0, 0, 0), (1, .tableswitch 218 0 6 #[43, 98, 120, 143, 164, 185, 211], 43, 0, 0, 0), (44, .aload_n 0, 1, 0, 0, 0), (45, .getfield 12, 3, 7, 0, 0), (48, .aload_n 0, 1, 0, 0, 0), (49, .getfield 29, 3, 7, 4, 0), (52, .iconst 0, 1, 0, 0, 0), (53, .iaload, 1, 0, 0, 0), (54, .putfield 170, 3, 2, 2, 0), (57, .aload_n 0, 1, 0, 0, 0), (58, .getfield 12, 3, 7, 0, 0), (61, .aload_n 0, 1, 0, 0, 0), (62, .getfield 29, 3, 7, 4, 0), (65, .iconst 1, 1, 0, 0, 0), (66, .iaload, 1, 0, 0, 0), (67, .putfield 173, 3, 2, 3, 0), (70, .aload_n 0, 1, 0, 0, 0), (71, .getfield 12, 3, 7, 0, 0), (74, .aload_n 0, 1, 0, 0, 0), (75, .getfield 29, 3, 7, 4, 0), (78, .iconst 2, 1, 0, 0, 0), (79, .iaload, 1, 0, 0, 0), (80, .putfield 176, 3, 2, 4, 0), (83, .aload_n 0, 1, 0, 0, 0), (84, .getfield 12, 3, 7, 0, 0), (87, .aload_n 0, 1, 0, 0, 0), (88, .getfield 29, 3, 7, 4, 0), (91, .iconst 3, 1, 0, 0, 0), (92, .iaload, 1, 0, 0, 0), (93, .putfield 179, 3, 2, 5, 0), (96, .goto 149, 3, 0, 0, 0), (99, .aload_n 0, 1, 0, 0, 0)]
noncomputable def k_cX7_apply_1 : List xR := [(100, .getfield 12, 3, 7, 0, 0), (103, .aload_n 0, 1, 0, 0, 0), (104, .getfield 29, 3, 7, 4, 0), (107, .iconst 0, 1, 0, 0, 0), (108, .iaload, 1, 0, 0, 0), (109, .aload_n 0, 1, 0, 0, 0), (110, .getfield 29, 3, 7, 4, 0), (113, .iconst 1, 1, 0, 0, 0), (114, .iaload, 1, 0, 0, 0), (115, .invokevirtual 182, 3, 23, 2, 0), (118, .goto 127, 3, 0, 0, 0), (121, .aload_n 0, 1, 0, 0, 0), (122, .getfield 12, 3, 7, 0, 0), (125, .dup, 1, 0, 0, 0), (126, .getfield 186, 3, 2, 6, 0), (129, .iconst 1, 1, 0, 0, 0), (130, .aload_n 0, 1, 0, 0, 0), (131, .getfield 29, 3, 7, 4, 0), (134, .iconst 0, 1, 0, 0, 0), (135, .iaload, 1, 0, 0, 0), (136, .ishl, 1, 0, 0, 0), (137, .ior, 1, 0, 0, 0), (138, .putfield 186, 3, 2, 6, 0), (141, .goto 104, 3, 0, 0, 0), (144, .aload_n 0, 1, 0, 0, 0), (145, .getfield 12, 3, 7, 0, 0), (148, .getfield 123, 3, 2, 14, 0), (151, .aload_n 0, 1, 0, 0, 0), (152, .getfield 29, 3, 7, 4, 0), (155, .iconst 0, 1, 0, 0, 0), (156, .iaload, 1, 0, 0, 0), (157, .iconst (-1), 1, 0, 0, 0)]
noncomputable def k_cX7_apply_2 : List xR := [(158, .iconst 0, 1, 0, 0, 0), (159, .invokevirtual 189, 3, 32, 3, 0), (162, .goto 83, 3, 0, 0, 0), (165, .aload_n 0, 1, 0, 0, 0), (166, .getfield 12, 3, 7, 0, 0), (169, .getfield 123, 3, 2, 14, 0), (172, .aload_n 0, 1, 0, 0, 0), (173, .getfield 29, 3, 7, 4, 0), (176, .iconst 0, 1, 0, 0, 0), (177, .iaload, 1, 0, 0, 0), (178, .iconst (-1), 1, 0, 0, 0), (179, .iconst 1, 1, 0, 0, 0), (180, .invokevirtual 189, 3, 32, 3, 0), (183, .goto 62, 3, 0, 0, 0), (186, .aload_n 0, 1, 0, 0, 0), (187, .getfield 12, 3, 7, 0, 0), (190, .getfield 123, 3, 2, 14, 0), (193, .aload_n 0, 1, 0, 0, 0), (194, .getfield 29, 3, 7, 4, 0), (197, .iconst 0, 1, 0, 0, 0), (198, .iaload, 1, 0, 0, 0), (199, .aload_n 0, 1, 0, 0, 0), (200, .getfield 29, 3, 7, 4, 0), (203, .iconst 1, 1, 0, 0, 0), (204, .iaload, 1, 0, 0, 0), (205, .iconst 0, 1, 0, 0, 0), (206, .invokevirtual 189, 3, 32, 3, 0), (209, .goto 36, 3, 0, 0, 0), (212, .aload_n 0, 1, 0, 0, 0), (213, .invokevirtual 193, 3, 85, 0, 0), (216, .goto 29, 3, 0, 0, 0), (219, .aload_n 0, 1, 0, 0, 0)]
noncomputable def k_cX7_apply_3 : List xR := [(220, .getfield 12, 3, 7, 0, 0), (223, .aload_n 0, 1, 0, 0, 0), (224, .getfield 29, 3, 7, 4, 0), (227, .iconst 0, 1, 0, 0, 0), (228, .iaload, 1, 0, 0, 0), (229, .putfield 196, 3, 2, 8, 0), (232, .aload_n 0, 1, 0, 0, 0), (233, .getfield 12, 3, 7, 0, 0), (236, .aload_n 0, 1, 0, 0, 0), (237, .getfield 29, 3, 7, 4, 0), (240, .iconst 1, 1, 0, 0, 0), (241, .iaload, 1, 0, 0, 0), (242, .putfield 199, 3, 2, 9, 0), (245, .return_, 1, 0, 0, 0)]
noncomputable def M_cX7_apply : xM := (RX7, yX7_apply, cX7_apply, 2, none, false, 7, [(99, k_cX7_apply_0), (157, k_cX7_apply_1), (219, k_cX7_apply_2), (245, k_cX7_apply_3)])
noncomputable def k_cX7_addPlayer_0 : List xR := [(0, .iconst 0, 1, 0, 0, 0), (1, .istore_n 1, 1, 0, 0, 0), (2, .iload_n 1, 1, 0, 0, 0), (3, .iconst 5, 1, 0, 0, 0), (4, .if_icmp .ge 30, 3, 0, 0, 0), (7, .aload_n 0, 1, 0, 0, 0), (8, .getfield 12, 3, 7, 0, 0), (11, .aload_n 0, 1, 0, 0, 0), (12, .getfield 12, 3, 7, 0, 0), (15, .getfield 132, 3, 2, 7, 0), (18, .iload_n 1, 1, 0, 0, 0), (19, .aload_n 0, 1, 0, 0, 0), (20, .getfield 29, 3, 7, 4, 0), (23, .iload_n 1, 1, 0, 0, 0), (24, .iaload, 1, 0, 0, 0), (25, .invokevirtual 202, 3, 25, 3, 0), (28, .iinc 1 1, 3, 0, 0, 0), (31, .goto (-29), 3, 0, 0, 0), (34, .aload_n 0, 1, 0, 0, 0), (35, .getfield 12, 3, 7, 0, 0), (38, .dup, 1, 0, 0, 0), (39, .getfield 132, 3, 2, 7, 0), (42, .iconst 1, 1, 0, 0, 0), (43, .iadd, 1, 0, 0, 0), (44, .putfield 132, 3, 2, 7, 0), (47, .return_, 1, 0, 0, 0)]
noncomputable def M_cX7_addPlayer : xM := (RX7, yX7_addPlayer, cX7_addPlayer, 2, none, false, 7, [(47, k_cX7_addPlayer_0)])
noncomputable def k_cX7_step_0 : List xR := [(0, .aload_n 0, 1, 0, 0, 0), (1, .aload_n 0, 1, 0, 0, 0), (2, .getfield 36, 3, 7, 7, 0), (5, .putfield 109, 3, 7, 6, 0), (8, .aload_n 0, 1, 0, 0, 0), (9, .getfield 109, 3, 7, 6, 0), (12, .aload_n 0, 1, 0, 0, 0), (13, .getfield 25, 3, 7, 3, 0), (16, .getfield 205, 3, 10, 0, 0), (19, .if_icmp .ge 33, 3, 0, 0, 0), (22, .aload_n 0, 1, 0, 0, 0), (23, .getfield 25, 3, 7, 3, 0), (26, .aload_n 0, 1, 0, 0, 0), (27, .getfield 109, 3, 7, 6, 0), (30, .invokevirtual 119, 3, 110, 1, 0), (33, .invokestatic 206, 3, 87, 1, 0), (36, .ifCond .eq 16, 3, 0, 0, 0), (39, .aload_n 0, 1, 0, 0, 0), (40, .dup, 1, 0, 0, 0), (41, .getfield 109, 3, 7, 6, 0), (44, .iconst 1, 1, 0, 0, 0), (45, .iadd, 1, 0, 0, 0), (46, .putfield 109, 3, 7, 6, 0), (49, .goto (-41), 3, 0, 0, 0), (52, .aload_n 0, 1, 0, 0, 0), (53, .aload_n 0, 1, 0, 0, 0), (54, .getfield 109, 3, 7, 6, 0), (57, .putfield 36, 3, 7, 7, 0), (60, .aload_n 0, 1, 0, 0, 0), (61, .iconst 0, 1, 0, 0, 0), (62, .putfield 100, 3, 7, 8, 0), (65, .aload_n 0, 1, 0, 0, 0)]
noncomputable def k_cX7_step_1 : List xR := [(66, .getfield 25, 3, 7, 3, 0), (69, .aload_n 0, 1, 0, 0, 0), (70, .getfield 109, 3, 7, 6, 0), (73, .invokevirtual 119, 3, 110, 1, 0), (76, .istore_n 1, 1, 0, 0, 0), (77, .iload_n 1, 1, 0, 0, 0), (78, .iconst (-1), 1, 0, 0, 0), (79, .if_icmp .ne 11, 3, 0, 0, 0), (82, .aload_n 0, 1, 0, 0, 0), (83, .iconst 1, 1, 0, 0, 0), (84, .putfield 45, 3, 7, 5, 0), (87, .goto 171, 3, 0, 0, 0), (90, .iload_n 1, 1, 0, 0, 0), (91, .invokestatic 209, 3, 88, 1, 0), (94, .ifCond .eq 52, 3, 0, 0, 0), (97, .aload_n 0, 1, 0, 0, 0), (98, .iconst 2, 1, 0, 0, 0), (99, .putfield 45, 3, 7, 5, 0), (102, .aload_n 0, 1, 0, 0, 0), (103, .getfield 36, 3, 7, 7, 0), (106, .aload_n 0, 1, 0, 0, 0), (107, .getfield 25, 3, 7, 3, 0), (110, .getfield 205, 3, 10, 0, 0), (113, .if_icmp .ge 145, 3, 0, 0, 0), (116, .aload_n 0, 1, 0, 0, 0), (117, .getfield 25, 3, 7, 3, 0), (120, .aload_n 0, 1, 0, 0, 0), (121, .getfield 36, 3, 7, 7, 0), (124, .invokevirtual 119, 3, 110, 1, 0), (127, .invokestatic 209, 3, 88, 1, 0), (130, .ifCond .eq 128, 3, 0, 0, 0), (133, .aload_n 0, 1, 0, 0, 0)]
noncomputable def k_cX7_step_2 : List xR := [(134, .dup, 1, 0, 0, 0), (135, .getfield 36, 3, 7, 7, 0), (138, .iconst 1, 1, 0, 0, 0), (139, .iadd, 1, 0, 0, 0), (140, .putfield 36, 3, 7, 7, 0), (143, .goto (-41), 3, 0, 0, 0), (146, .iload_n 1, 1, 0, 0, 0), (147, .invokestatic 212, 3, 89, 1, 0), (150, .ifCond .eq 83, 3, 0, 0, 0), (153, .aload_n 0, 1, 0, 0, 0), (154, .iconst 3, 1, 0, 0, 0), (155, .putfield 45, 3, 7, 5, 0), (158, .aload_n 0, 1, 0, 0, 0), (159, .getfield 36, 3, 7, 7, 0), (162, .aload_n 0, 1, 0, 0, 0), (163, .getfield 25, 3, 7, 3, 0), (166, .getfield 205, 3, 10, 0, 0), (169, .if_icmp .ge 89, 3, 0, 0, 0), (172, .aload_n 0, 1, 0, 0, 0), (173, .getfield 25, 3, 7, 3, 0), (176, .aload_n 0, 1, 0, 0, 0), (177, .getfield 36, 3, 7, 7, 0), (180, .invokevirtual 119, 3, 110, 1, 0), (183, .invokestatic 212, 3, 89, 1, 0), (186, .ifCond .eq 72, 3, 0, 0, 0), (189, .aload_n 0, 1, 0, 0, 0), (190, .ldc 215, 2, 1000000, 0, 0), (192, .bipush 10, 2, 0, 0, 0), (194, .aload_n 0, 1, 0, 0, 0), (195, .getfield 100, 3, 7, 8, 0), (198, .imul, 1, 0, 0, 0), (199, .aload_n 0, 1, 0, 0, 0)]
noncomputable def k_cX7_step_3 : List xR := [(200, .getfield 25, 3, 7, 3, 0), (203, .aload_n 0, 1, 0, 0, 0), (204, .getfield 36, 3, 7, 7, 0), (207, .invokevirtual 119, 3, 110, 1, 0), (210, .iadd, 1, 0, 0, 0), (211, .bipush 48, 2, 0, 0, 0), (213, .isub, 1, 0, 0, 0), (214, .invokestatic 216, 3, 9002, 2, 0), (217, .putfield 100, 3, 7, 8, 0), (220, .aload_n 0, 1, 0, 0, 0), (221, .dup, 1, 0, 0, 0), (222, .getfield 36, 3, 7, 7, 0), (225, .iconst 1, 1, 0, 0, 0), (226, .iadd, 1, 0, 0, 0), (227, .putfield 36, 3, 7, 7, 0), (230, .goto (-72), 3, 0, 0, 0), (233, .aload_n 0, 1, 0, 0, 0), (234, .iload_n 1, 1, 0, 0, 0), (235, .bipush 59, 2, 0, 0, 0), (237, .if_icmp .ne 7, 3, 0, 0, 0), (240, .iconst 4, 1, 0, 0, 0), (241, .goto 4, 3, 0, 0, 0), (244, .iconst 0, 1, 0, 0, 0), (245, .putfield 45, 3, 7, 5, 0), (248, .aload_n 0, 1, 0, 0, 0), (249, .dup, 1, 0, 0, 0), (250, .getfield 36, 3, 7, 7, 0), (253, .iconst 1, 1, 0, 0, 0), (254, .iadd, 1, 0, 0, 0), (255, .putfield 36, 3, 7, 7, 0), (258, .return_, 1, 0, 0, 0)]
noncomputable def M_cX7_step : xM := (RX7, yX7_step, cX7_step, 2, none, false, 7, [(65, k_cX7_step_0), (133, k_cX7_step_1), (199, k_cX7_step_2), (258, k_cX7_step_3)])
noncomputable def k_cX7_isBlank_0 : List xR := [(0, .iload_n 0, 1, 0, 0, 0), (1, .bipush 32, 2, 0, 0, 0), (3, .if_icmp .eq 9, 3, 0, 0, 0), (6, .iload_n 0, 1, 0, 0, 0), (7, .bipush 10, 2, 0, 0, 0), (9, .if_icmp .ne 7, 3, 0, 0, 0), (12, .iconst 1, 1, 0, 0, 0), (13, .goto 4, 3, 0, 0, 0), (16, .iconst 0, 1, 0, 0, 0), (17, .ireturn, 1, 0, 0, 0)]
noncomputable def M_cX7_isBlank : xM := (RX7, yX7_isBlank, cX7_isBlank, 1, (some .boolean), true, 7, [(17, k_cX7_isBlank_0)])
noncomputable def k_cX7_isLetter_0 : List xR := [(0, .iload_n 0, 1, 0, 0, 0), (1, .bipush 97, 2, 0, 0, 0), (3, .if_icmp .lt 13, 3, 0, 0, 0), (6, .iload_n 0, 1, 0, 0, 0), (7, .bipush 122, 2, 0, 0, 0), (9, .if_icmp .gt 7, 3, 0, 0, 0), (12, .iconst 1, 1, 0, 0, 0), (13, .goto 4, 3, 0, 0, 0), (16, .iconst 0, 1, 0, 0, 0), (17, .ireturn, 1, 0, 0, 0)]
noncomputable def M_cX7_isLetter : xM := (RX7, yX7_isLetter, cX7_isLetter, 1, (some .boolean), true, 7, [(17, k_cX7_isLetter_0)])
noncomputable def k_cX7_isDigit_0 : List xR := [(0, .iload_n 0, 1, 0, 0, 0), (1, .bipush 48, 2, 0, 0, 0), (3, .if_icmp .lt 13, 3, 0, 0, 0), (6, .iload_n 0, 1, 0, 0, 0), (7, .bipush 57, 2, 0, 0, 0), (9, .if_icmp .gt 7, 3, 0, 0, 0), (12, .iconst 1, 1, 0, 0, 0), (13, .goto 4, 3, 0, 0, 0), (16, .iconst 0, 1, 0, 0, 0), (17, .ireturn, 1, 0, 0, 0)]
noncomputable def M_cX7_isDigit : xM := (RX7, yX7_isDigit, cX7_isDigit, 1, (some .boolean), true, 7, [(17, k_cX7_isDigit_0)])
noncomputable def k_cX8_init_0 : List xR := [(0, .aload_n 0, 1, 0, 0, 0), (1, .invokespecial 3, 3, 9000, 0, 0), (4, .aload_n 0, 1, 0, 0, 0), (5, .iconst (-1), 1, 0, 0, 0), (6, .putfield 9, 3, 8, 0, 0), (9, .aload_n 0, 1, 0, 0, 0), (10, .bipush 60, 2, 0, 0, 0), (12, .newarray .long, 2, 0, 0, 0), (14, .putfield 15, 3, 8, 2, 0), (17, .return_, 1, 0, 0, 0)]
noncomputable def M_cX8_init : xM := (RX8, yX8_init, cX8_init, 1, none, false, 8, [(17, k_cX8_init_0)])
noncomputable def k_cX8_isMade_0 : List xR := [(0, .aload_n 0, 1, 0, 0, 0), (1, .getfield 9, 3, 8, 0, 0), (4, .ifCond .lt 7, 3, 0, 0, 0), (7, .iconst 1, 1, 0, 0, 0), (8, .goto 4, 3, 0, 0, 0), (11, .iconst 0, 1, 0, 0, 0), (12, .ireturn, 1, 0, 0, 0)]
noncomputable def M_cX8_isMade : xM := (RX8, yX8_isMade, cX8_isMade, 1, (some .boolean), false, 8, [(12, k_cX8_isMade_0)])
noncomputable def k_cX8_make_0 : List xR := [(0, .iload_n 2, 1, 0, 0, 0), (1, .ifCond .lt 9, 3, 0, 0, 0), (4, .iload_n 2, 1, 0, 0, 0), (5, .bipush 60, 2, 0, 0, 0), (7, .if_icmp .le 4, 3, 0, 0, 0), (10, .return_, 1, 0, 0, 0), (11, .aload_n 0, 1, 0, 0, 0), (12, .iload_n 1, 1, 0, 0, 0), (13, .putfield 19, 3, 8, 1, 0), (16, .aload_n 0, 1, 0, 0, 0), (17, .iload_n 2, 1, 0, 0, 0), (18, .putfield 9, 3, 8, 0, 0), (21, .iconst 0, 1, 0, 0, 0), (22, .istore_n 3, 1, 0, 0, 0), (23, .iload_n 3, 1, 0, 0, 0), (24, .bipush 60, 2, 0, 0, 0), (26, .if_icmp .ge 16, 3, 0, 0, 0), (29, .aload_n 0, 1, 0, 0, 0), (30, .getfield 15, 3, 8, 2, 0), (33, .iload_n 3, 1, 0, 0, 0), (34, .lconst 0, 1, 0, 0, 0), (35, .lastore, 1, 0, 0, 0), (36, .iinc 3 1, 3, 0, 0, 0), (39, .goto (-16), 3, 0, 0, 0), (42, .return_, 1, 0, 0, 0)]
noncomputable def M_cX8_make : xM := (RX8, yX8_make, cX8_make, 4, none, false, 8, [(42, k_cX8_make_0)])
noncomputable def k_cX8_put_0 : List xR := [(0, .iload_n 1, 1, 0, 0, 0), (1, .ifCond .lt 11, 3, 0, 0, 0), (4, .iload_n 1, 1, 0, 0, 0), (5, .aload_n 0, 1, 0, 0, 0), (6, .getfield 9, 3, 8, 0, 0), (9, .if_icmp .lt 4, 3, 0, 0, 0), (12, .return_, 1, 0, 0, 0), (13, .aload_n 0, 1, 0, 0, 0), (14, .getfield 19, 3, 8, 1, 0), (17, .tableswitch 65 0 2 #[27, 40, 53], 27, 0, 0, 0), (44, .aload_n 0, 1, 0, 0, 0), (45, .getfield 15, 3, 8, 2, 0), (48, .iload_n 1, 1, 0, 0, 0), (49, .lload_n 2, 1, 0, 0, 0), (50, .l2i, 1, 0, 0, 0), (51, .i2b, 1, 0, 0, 0), (52, .i2l, 1, 0, 0, 0), (53, .lastore, 1, 0, 0, 0), (54, .goto 35, 3, 0, 0, 0), (57, .aload_n 0, 1, 0, 0, 0), (58, .getfield 15, 3, 8, 2, 0), (61, .iload_n 1, 1, 0, 0, 0), (62, .lload_n 2, 1, 0, 0, 0), (63, .l2i, 1, 0, 0, 0), (64, .i2s, 1, 0, 0, 0), (65, .i2l, 1, 0, 0, 0), (66, .lastore, 1, 0, 0, 0), (67, .goto 22, 3, 0, 0, 0), (70, .aload_n 0, 1, 0, 0, 0), (71, .getfield 15, 3, 8, 2, 0), (74, .iload_n 1, 1, 0, 0, 0), (75, .lload_n 2, 1, 0, 0, 0)]
noncomputable def k_cX8_put_1 : List xR := [(76, .l2i, 1, 0, 0, 0), (77, .i2l, 1, 0, 0, 0), (78, .lastore, 1, 0, 0, 0), (79, .goto 10, 3, 0, 0, 0), (82, .aload_n 0, 1, 0, 0, 0), (83, .getfield 15, 3, 8, 2, 0), (86, .iload_n 1, 1, 0, 0, 0), (87, .lload_n 2, 1, 0, 0, 0), (88, .lastore, 1, 0, 0, 0), (89, .return_, 1, 0, 0, 0)]
noncomputable def M_cX8_put : xM := (RX8, yX8_put, cX8_put, 4, none, false, 8, [(75, k_cX8_put_0), (89, k_cX8_put_1)])
noncomputable def k_cX8_hasPart_0 : List xR := [(0, .iload_n 1, 1, 0, 0, 0), (1, .ifCond .lt 29, 3, 0, 0, 0), (4, .iload_n 2, 1, 0, 0, 0), (5, .ifCond .lt 25, 3, 0, 0, 0), (8, .iload_n 1, 1, 0, 0, 0), (9, .aload_n 0, 1, 0, 0, 0), (10, .getfield 9, 3, 8, 0, 0), (13, .if_icmp .gt 17, 3, 0, 0, 0), (16, .iload_n 2, 1, 0, 0, 0), (17, .aload_n 0, 1, 0, 0, 0), (18, .getfield 9, 3, 8, 0, 0), (21, .iload_n 1, 1, 0, 0, 0), (22, .isub, 1, 0, 0, 0), (23, .if_icmp .gt 7, 3, 0, 0, 0), (26, .iconst 1, 1, 0, 0, 0), (27, .goto 4, 3, 0, 0, 0), (30, .iconst 0, 1, 0, 0, 0), (31, .ireturn, 1, 0, 0, 0)]
noncomputable def M_cX8_hasPart : xM := (RX8, yX8_hasPart, cX8_hasPart, 3, (some .boolean), false, 8, [(31, k_cX8_hasPart_0)])
noncomputable def k_cX8_isBelow_0 : List xR := [(0, .iconst 0, 1, 0, 0, 0), (1, .istore_n 3, 1, 0, 0, 0), (2, .iload_n 3, 1, 0, 0, 0), (3, .aload_n 0, 1, 0, 0, 0), (4, .getfield 9, 3, 8, 0, 0), (7, .if_icmp .ge 48, 3, 0, 0, 0), (10, .iload_n 3, 1, 0, 0, 0), (11, .iconst 2, 1, 0, 0, 0), (12, .irem, 1, 0, 0, 0), (13, .ifCond .ne 7, 3, 0, 0, 0), (16, .iload_n 1, 1, 0, 0, 0), (17, .goto 4, 3, 0, 0, 0), (20, .iload_n 2, 1, 0, 0, 0), (21, .istore 4, 2, 0, 0, 0), (23, .aload_n 0, 1, 0, 0, 0), (24, .getfield 15, 3, 8, 2, 0), (27, .iload_n 3, 1, 0, 0, 0), (28, .laload, 1, 0, 0, 0), (29, .lconst 0, 1, 0, 0, 0), (30, .lcmp, 1, 0, 0, 0), (31, .ifCond .lt 16, 3, 0, 0, 0), (34, .aload_n 0, 1, 0, 0, 0), (35, .getfield 15, 3, 8, 2, 0), (38, .iload_n 3, 1, 0, 0, 0), (39, .laload, 1, 0, 0, 0), (40, .iload 4, 2, 0, 0, 0), (42, .i2l, 1, 0, 0, 0), (43, .lcmp, 1, 0, 0, 0), (44, .ifCond .lt 5, 3, 0, 0, 0), (47, .iconst 0, 1, 0, 0, 0), (48, .ireturn, 1, 0, 0, 0), (49, .iinc 3 1, 3, 0, 0, 0)]
noncomputable def k_cX8_isBelow_1 : List xR := [(52, .goto (-50), 3, 0, 0, 0), (55, .iconst 1, 1, 0, 0, 0), (56, .ireturn, 1, 0, 0, 0)]
noncomputable def M_cX8_isBelow : xM := (RX8, yX8_isBelow, cX8_isBelow, 5, (some .boolean), false, 8, [(49, k_cX8_isBelow_0), (56, k_cX8_isBelow_1)])
noncomputable def k_cX8_isPeriod_0 : List xR := [(0, .iload_n 1, 1, 0, 0, 0), (1, .istore_n 2, 1, 0, 0, 0), (2, .iload_n 2, 1, 0, 0, 0), (3, .aload_n 0, 1, 0, 0, 0), (4, .getfield 9, 3, 8, 0, 0), (7, .if_icmp .ge 29, 3, 0, 0, 0), (10, .aload_n 0, 1, 0, 0, 0), (11, .getfield 15, 3, 8, 2, 0), (14, .iload_n 2, 1, 0, 0, 0), (15, .laload, 1, 0, 0, 0), (16, .aload_n 0, 1, 0, 0, 0), (17, .getfield 15, 3, 8, 2, 0), (20, .iload_n 2, 1, 0, 0, 0), (21, .iload_n 1, 1, 0, 0, 0), (22, .isub, 1, 0, 0, 0), (23, .laload, 1, 0, 0, 0), (24, .lcmp, 1, 0, 0, 0), (25, .ifCond .eq 5, 3, 0, 0, 0), (28, .iconst 0, 1, 0, 0, 0), (29, .ireturn, 1, 0, 0, 0), (30, .iinc 2 1, 3, 0, 0, 0), (33, .goto (-31), 3, 0, 0, 0), (36, .iconst 1, 1, 0, 0, 0), (37, .ireturn, 1, 0, 0, 0)]
noncomputable def M_cX8_isPeriod : xM := (RX8, yX8_isPeriod, cX8_isPeriod, 3, (some .boolean), false, 8, [(37, k_cX8_isPeriod_0)])
noncomputable def k_cX8_leastPeriod_0 : List xR := [(0, .iconst 1, 1, 0, 0, 0), (1, .istore_n 1, 1, 0, 0, 0), (2, .iload_n 1, 1, 0, 0, 0), (3, .aload_n 0, 1, 0, 0, 0), (4, .getfield 9, 3, 8, 0, 0), (7, .if_icmp .ge 19, 3, 0, 0, 0), (10, .aload_n 0, 1, 0, 0, 0), (11, .iload_n 1, 1, 0, 0, 0), (12, .invokevirtual 22, 3, 96, 1, 0), (15, .ifCond .eq 5, 3, 0, 0, 0), (18, .iload_n 1, 1, 0, 0, 0), (19, .ireturn, 1, 0, 0, 0), (20, .iinc 1 1, 3, 0, 0, 0), (23, .goto (-21), 3, 0, 0, 0), (26, .iconst (-1), 1, 0, 0, 0), (27, .ireturn, 1, 0, 0, 0)]
noncomputable def M_cX8_leastPeriod : xM := (RX8, yX8_leastPeriod, cX8_leastPeriod, 2, (some .int), false, 8, [(27, k_cX8_leastPeriod_0)])
noncomputable def k_cX8_periodsInAll_0 : List xR := [(0, .iconst 0, 1, 0, 0, 0), (1, .istore_n 1, 1, 0, 0, 0), (2, .iconst 1, 1, 0, 0, 0), (3, .istore_n 2, 1, 0, 0, 0), (4, .iload_n 2, 1, 0, 0, 0), (5, .aload_n 0, 1, 0, 0, 0), (6, .getfield 9, 3, 8, 0, 0), (9, .if_icmp .ge 20, 3, 0, 0, 0), (12, .aload_n 0, 1, 0, 0, 0), (13, .iload_n 2, 1, 0, 0, 0), (14, .invokevirtual 22, 3, 96, 1, 0), (17, .ifCond .eq 6, 3, 0, 0, 0), (20, .iinc 1 1, 3, 0, 0, 0), (23, .iinc 2 1, 3, 0, 0, 0), (26, .goto (-22), 3, 0, 0, 0), (29, .iload_n 1, 1, 0, 0, 0), (30, .ireturn, 1, 0, 0, 0)]
noncomputable def M_cX8_periodsInAll : xM := (RX8, yX8_periodsInAll, cX8_periodsInAll, 3, (some .int), false, 8, [(30, k_cX8_periodsInAll_0)])
noncomputable def k_cX9_init_0 : List xR := [(0, .aload_n 0, 1, 0, 0, 0), (1, .invokespecial 3, 3, 9000, 0, 0), (4, .aload_n 0, 1, 0, 0, 0), (5, .bipush 60, 2, 0, 0, 0), (7, .newarray .int, 2, 0, 0, 0), (9, .putfield 9, 3, 9, 2, 0), (12, .aload_n 0, 1, 0, 0, 0), (13, .bipush 60, 2, 0, 0, 0), (15, .newarray .int, 2, 0, 0, 0), (17, .putfield 15, 3, 9, 3, 0), (20, .aload_n 0, 1, 0, 0, 0), (21, .bipush 120, 2, 0, 0, 0), (23, .newarray .int, 2, 0, 0, 0), (25, .putfield 18, 3, 9, 5, 0), (28, .aload_n 0, 1, 0, 0, 0), (29, .bipush 120, 2, 0, 0, 0), (31, .newarray .int, 2, 0, 0, 0), (33, .putfield 21, 3, 9, 6, 0), (36, .return_, 1, 0, 0, 0)]
noncomputable def M_cX9_init : xM := (RX9, yX9_init, cX9_init, 1, none, false, 9, [(36, k_cX9_init_0)])
noncomputable def k_cX9_good_0 : List xR := [(0, .aload_n 0, 1, 0, 0, 0), (1, .aload_n 2, 1, 0, 0, 0), (2, .aload_n 3, 1, 0, 0, 0), (3, .invokevirtual 24, 3, 102, 2, 0), (6, .iconst 0, 1, 0, 0, 0), (7, .istore 5, 2, 0, 0, 0), (9, .iload 5, 2, 0, 0, 0), (11, .aload_n 2, 1, 0, 0, 0), (12, .getfield 28, 3, 4, 0, 0), (15, .if_icmp .ge 30, 3, 0, 0, 0), (18, .aload_n 2, 1, 0, 0, 0), (19, .getfield 34, 3, 4, 3, 0), (22, .iload 5, 2, 0, 0, 0), (24, .iaload, 1, 0, 0, 0), (25, .ifCond .ne 14, 3, 0, 0, 0), (28, .aload_n 0, 1, 0, 0, 0), (29, .aload_n 1, 1, 0, 0, 0), (30, .aload_n 2, 1, 0, 0, 0), (31, .aload_n 3, 1, 0, 0, 0), (32, .iload 5, 2, 0, 0, 0), (34, .iload 4, 2, 0, 0, 0), (36, .invokevirtual 37, 3, 103, 5, 0), (39, .iinc 5 1, 3, 0, 0, 0), (42, .goto (-33), 3, 0, 0, 0), (45, .aload_n 0, 1, 0, 0, 0), (46, .getfield 41, 3, 9, 0, 0), (49, .ireturn, 1, 0, 0, 0)]
noncomputable def M_cX9_good : xM := (RX9, yX9_good, cX9_good, 6, (some .int), false, 9, [(49, k_cX9_good_0)])
noncomputable def k_cX9_rashPoints_0 : List xR := [(0, .aload_n 0, 1, 0, 0, 0), (1, .aload_n 2, 1, 0, 0, 0), (2, .aload_n 3, 1, 0, 0, 0), (3, .invokevirtual 24, 3, 102, 2, 0), (6, .iconst 0, 1, 0, 0, 0), (7, .istore 4, 2, 0, 0, 0), (9, .iload 4, 2, 0, 0, 0), (11, .aload_n 2, 1, 0, 0, 0), (12, .getfield 28, 3, 4, 0, 0), (15, .if_icmp .ge 45, 3, 0, 0, 0), (18, .aload_n 0, 1, 0, 0, 0), (19, .aload_n 1, 1, 0, 0, 0), (20, .aload_n 2, 1, 0, 0, 0), (21, .aload_n 3, 1, 0, 0, 0), (22, .iload 4, 2, 0, 0, 0), (24, .iconst (-1), 1, 0, 0, 0), (25, .invokevirtual 37, 3, 103, 5, 0), (28, .aload_n 2, 1, 0, 0, 0), (29, .getfield 34, 3, 4, 3, 0), (32, .iload 4, 2, 0, 0, 0), (34, .iaload, 1, 0, 0, 0), (35, .ifCond .eq 19, 3, 0, 0, 0), (38, .aload_n 0, 1, 0, 0, 0), (39, .dup, 1, 0, 0, 0), (40, .getfield 44, 3, 9, 4, 0), (43, .aload_n 0, 1, 0, 0, 0), (44, .getfield 15, 3, 9, 3, 0), (47, .iload 4, 2, 0, 0, 0), (49, .iaload, 1, 0, 0, 0), (50, .iadd, 1, 0, 0, 0), (51, .putfield 44, 3, 9, 4, 0), (54, .iinc 4 1, 3, 0, 0, 0)]
noncomputable def k_cX9_rashPoints_1 : List xR := [(57, .goto (-48), 3, 0, 0, 0), (60, .bipush 10, 2, 0, 0, 0), (62, .aload_n 0, 1, 0, 0, 0), (63, .getfield 41, 3, 9, 0, 0), (66, .aload_n 0, 1, 0, 0, 0), (67, .getfield 44, 3, 9, 4, 0), (70, .isub, 1, 0, 0, 0), (71, .imul, 1, 0, 0, 0), (72, .bipush 20, 2, 0, 0, 0), (74, .aload_n 0, 1, 0, 0, 0), (75, .getfield 44, 3, 9, 4, 0), (78, .imul, 1, 0, 0, 0), (79, .isub, 1, 0, 0, 0), (80, .ireturn, 1, 0, 0, 0)]
noncomputable def M_cX9_rashPoints : xM := (RX9, yX9_rashPoints, cX9_rashPoints, 5, (some .int), false, 9, [(54, k_cX9_rashPoints_0), (80, k_cX9_rashPoints_1)])
noncomputable def k_cX9_begin_0 : List xR := [(0, .aload_n 0, 1, 0, 0, 0), (1, .iconst 0, 1, 0, 0, 0), (2, .putfield 41, 3, 9, 0, 0), (5, .aload_n 0, 1, 0, 0, 0), (6, .iconst 0, 1, 0, 0, 0), (7, .putfield 44, 3, 9, 4, 0), (10, .aload_n 0, 1, 0, 0, 0), (11, .iconst 0, 1, 0, 0, 0), (12, .putfield 47, 3, 9, 1, 0), (15, .aload_n 0, 1, 0, 0, 0), (16, .iconst 0, 1, 0, 0, 0), (17, .putfield 50, 3, 9, 8, 0), (20, .aload_n 0, 1, 0, 0, 0), (21, .aload_n 2, 1, 0, 0, 0), (22, .getfield 53, 3, 6, 4, 0), (25, .putfield 58, 3, 9, 7, 0), (28, .iconst 0, 1, 0, 0, 0), (29, .istore_n 3, 1, 0, 0, 0), (30, .iload_n 3, 1, 0, 0, 0), (31, .aload_n 1, 1, 0, 0, 0), (32, .getfield 28, 3, 4, 0, 0), (35, .if_icmp .ge 23, 3, 0, 0, 0), (38, .aload_n 0, 1, 0, 0, 0), (39, .getfield 9, 3, 9, 2, 0), (42, .iload_n 3, 1, 0, 0, 0), (43, .iconst (-1), 1, 0, 0, 0), (44, .iastore, 1, 0, 0, 0), (45, .aload_n 0, 1, 0, 0, 0), (46, .getfield 15, 3, 9, 3, 0), (49, .iload_n 3, 1, 0, 0, 0), (50, .iconst 0, 1, 0, 0, 0), (51, .iastore, 1, 0, 0, 0)]
noncomputable def k_cX9_begin_1 : List xR := [(52, .iinc 3 1, 3, 0, 0, 0), (55, .goto (-25), 3, 0, 0, 0), (58, .return_, 1, 0, 0, 0)]
noncomputable def M_cX9_begin : xM := (RX9, yX9_begin, cX9_begin, 4, none, false, 9, [(51, k_cX9_begin_0), (58, k_cX9_begin_1)])
noncomputable def k_cX9_goFor_0 : List xR := [(0, .aload_n 2, 1, 0, 0, 0), (1, .getfield 61, 3, 4, 1, 0), (4, .iload 4, 2, 0, 0, 0), (6, .iaload, 1, 0, 0, 0), (7, .iload 5, 2, 0, 0, 0), (9, .invokestatic 64, 3, 104, 2, 0), (12, .istore 6, 2, 0, 0, 0), (14, .aload_n 2, 1, 0, 0, 0), (15, .getfield 68, 3, 4, 2, 0), (18, .iload 4, 2, 0, 0, 0), (20, .iaload, 1, 0, 0, 0), (21, .iload 5, 2, 0, 0, 0), (23, .invokestatic 64, 3, 104, 2, 0), (26, .istore 7, 2, 0, 0, 0), (28, .iload 6, 2, 0, 0, 0), (30, .iconst (-1), 1, 0, 0, 0), (31, .if_icmp .eq 32, 3, 0, 0, 0), (34, .iload 7, 2, 0, 0, 0), (36, .iconst (-1), 1, 0, 0, 0), (37, .if_icmp .eq 30, 3, 0, 0, 0), (40, .aload_n 1, 1, 0, 0, 0), (41, .aload_n 0, 1, 0, 0, 0), (42, .getfield 58, 3, 9, 7, 0), (45, .iload 7, 2, 0, 0, 0), (47, .invokevirtual 71, 3, 18, 2, 0), (50, .aload_n 1, 1, 0, 0, 0), (51, .aload_n 0, 1, 0, 0, 0), (52, .getfield 58, 3, 9, 7, 0), (55, .iload 6, 2, 0, 0, 0), (57, .invokevirtual 71, 3, 18, 2, 0), (60, .if_icmp .ge 7, 3, 0, 0, 0), (63, .iconst 1, 1, 0, 0, 0)]
noncomputable def k_cX9_goFor_1 : List xR := [(64, .goto 4, 3, 0, 0, 0), (67, .iconst 0, 1, 0, 0, 0), (68, .istore 8, 2, 0, 0, 0), (70, .iload 8, 2, 0, 0, 0), (72, .ifCond .eq 8, 3, 0, 0, 0), (75, .iload 7, 2, 0, 0, 0), (77, .goto 5, 3, 0, 0, 0), (80, .iload 6, 2, 0, 0, 0), (82, .istore 9, 2, 0, 0, 0), (84, .iload 8, 2, 0, 0, 0), (86, .ifCond .eq 8, 3, 0, 0, 0), (89, .iload 6, 2, 0, 0, 0), (91, .goto 5, 3, 0, 0, 0), (94, .iload 7, 2, 0, 0, 0), (96, .istore 10, 2, 0, 0, 0), (98, .iload 9, 2, 0, 0, 0), (100, .iconst (-1), 1, 0, 0, 0), (101, .if_icmp .eq 35, 3, 0, 0, 0), (104, .aload_n 0, 1, 0, 0, 0), (105, .aload_n 1, 1, 0, 0, 0), (106, .aload_n 2, 1, 0, 0, 0), (107, .aload_n 3, 1, 0, 0, 0), (108, .iload 4, 2, 0, 0, 0), (110, .iload 9, 2, 0, 0, 0), (112, .invokevirtual 76, 3, 105, 5, 0), (115, .ifCond .eq 21, 3, 0, 0, 0), (118, .iload 10, 2, 0, 0, 0), (120, .iconst (-1), 1, 0, 0, 0), (121, .if_icmp .eq 15, 3, 0, 0, 0), (124, .aload_n 0, 1, 0, 0, 0), (125, .aload_n 1, 1, 0, 0, 0), (126, .aload_n 2, 1, 0, 0, 0)]
noncomputable def k_cX9_goFor_2 : List xR := [(127, .aload_n 3, 1, 0, 0, 0), (128, .iload 4, 2, 0, 0, 0), (130, .iload 10, 2, 0, 0, 0), (132, .invokevirtual 76, 3, 105, 5, 0), (135, .pop, 1, 0, 0, 0), (136, .return_, 1, 0, 0, 0)]
noncomputable def M_cX9_goFor : xM := (RX9, yX9_goFor, cX9_goFor, 11, none, false, 9, [(63, k_cX9_goFor_0), (126, k_cX9_goFor_1), (136, k_cX9_goFor_2)])
noncomputable def k_cX9_among_0 : List xR := [(0, .iload_n 0, 1, 0, 0, 0), (1, .iconst (-1), 1, 0, 0, 0), (2, .if_icmp .eq 15, 3, 0, 0, 0), (5, .iload_n 1, 1, 0, 0, 0), (6, .iload_n 0, 1, 0, 0, 0), (7, .ishr, 1, 0, 0, 0), (8, .iconst 1, 1, 0, 0, 0), (9, .iand, 1, 0, 0, 0), (10, .ifCond .eq 7, 3, 0, 0, 0), (13, .iload_n 0, 1, 0, 0, 0), (14, .goto 4, 3, 0, 0, 0), (17, .iconst (-1), 1, 0, 0, 0), (18, .ireturn, 1, 0, 0, 0)]
noncomputable def M_cX9_among : xM := (RX9, yX9_among, cX9_among, 2, (some .int), true, 9, [(18, k_cX9_among_0)])
noncomputable def k_cX9_strike_0 : List xR := [(0, .aload_n 0, 1, 0, 0, 0), (1, .getfield 50, 3, 9, 8, 0), (4, .aload_n 3, 1, 0, 0, 0), (5, .aload_n 2, 1, 0, 0, 0), (6, .iload 4, 2, 0, 0, 0), (8, .invokevirtual 80, 3, 66, 2, 0), (11, .invokestatic 84, 3, 9001, 2, 0), (14, .istore 6, 2, 0, 0, 0), (16, .aload_n 2, 1, 0, 0, 0), (17, .iload 4, 2, 0, 0, 0), (19, .aload_n 3, 1, 0, 0, 0), (20, .aload_n 1, 1, 0, 0, 0), (21, .aload_n 0, 1, 0, 0, 0), (22, .getfield 58, 3, 9, 7, 0), (25, .iload 5, 2, 0, 0, 0), (27, .iload 6, 2, 0, 0, 0), (29, .invokevirtual 89, 3, 67, 4, 0), (32, .invokevirtual 93, 3, 52, 2, 0), (35, .istore 7, 2, 0, 0, 0), (37, .iload 7, 2, 0, 0, 0), (39, .iconst (-1), 1, 0, 0, 0), (40, .if_icmp .eq 15, 3, 0, 0, 0), (43, .aload_n 0, 1, 0, 0, 0), (44, .getfield 41, 3, 9, 0, 0), (47, .aload_n 0, 1, 0, 0, 0), (48, .getfield 18, 3, 9, 5, 0), (51, .arraylength, 1, 0, 0, 0), (52, .if_icmp .lt 5, 3, 0, 0, 0), (55, .iconst 0, 1, 0, 0, 0), (56, .ireturn, 1, 0, 0, 0), (57, .aload_n 0, 1, 0, 0, 0), (58, .getfield 18, 3, 9, 5, 0)]
noncomputable def k_cX9_strike_1 : List xR := [(61, .aload_n 0, 1, 0, 0, 0), (62, .getfield 41, 3, 9, 0, 0), (65, .iload 7, 2, 0, 0, 0), (67, .iastore, 1, 0, 0, 0), (68, .aload_n 0, 1, 0, 0, 0), (69, .getfield 21, 3, 9, 6, 0), (72, .aload_n 0, 1, 0, 0, 0), (73, .getfield 41, 3, 9, 0, 0), (76, .iload 5, 2, 0, 0, 0), (78, .iastore, 1, 0, 0, 0), (79, .aload_n 0, 1, 0, 0, 0), (80, .dup, 1, 0, 0, 0), (81, .getfield 41, 3, 9, 0, 0), (84, .iconst 1, 1, 0, 0, 0), (85, .iadd, 1, 0, 0, 0), (86, .putfield 41, 3, 9, 0, 0), (89, .aload_n 0, 1, 0, 0, 0), (90, .getfield 9, 3, 9, 2, 0), (93, .iload 4, 2, 0, 0, 0), (95, .iload 7, 2, 0, 0, 0), (97, .iastore, 1, 0, 0, 0), (98, .aload_n 0, 1, 0, 0, 0), (99, .getfield 15, 3, 9, 3, 0), (102, .iload 4, 2, 0, 0, 0), (104, .dup2, 1, 0, 0, 0), (105, .iaload, 1, 0, 0, 0), (106, .iconst 1, 1, 0, 0, 0), (107, .iadd, 1, 0, 0, 0), (108, .iastore, 1, 0, 0, 0), (109, .aload_n 0, 1, 0, 0, 0), (110, .dup, 1, 0, 0, 0), (111, .getfield 47, 3, 9, 1, 0)]
noncomputable def k_cX9_strike_2 : List xR := [(114, .aload_n 1, 1, 0, 0, 0), (115, .aload_n 0, 1, 0, 0, 0), (116, .getfield 58, 3, 9, 7, 0), (119, .iload 5, 2, 0, 0, 0), (121, .invokevirtual 71, 3, 18, 2, 0), (124, .iadd, 1, 0, 0, 0), (125, .putfield 47, 3, 9, 1, 0), (128, .aload_n 0, 1, 0, 0, 0), (129, .iload 5, 2, 0, 0, 0), (131, .putfield 58, 3, 9, 7, 0), (134, .aload_n 0, 1, 0, 0, 0), (135, .iload 7, 2, 0, 0, 0), (137, .iconst 1, 1, 0, 0, 0), (138, .iadd, 1, 0, 0, 0), (139, .putfield 50, 3, 9, 8, 0), (142, .iconst 1, 1, 0, 0, 0), (143, .ireturn, 1, 0, 0, 0)]
noncomputable def M_cX9_strike : xM := (RX9, yX9_strike, cX9_strike, 8, (some .boolean), false, 9, [(58, k_cX9_strike_0), (111, k_cX9_strike_1), (143, k_cX9_strike_2)])
noncomputable def k_cX9_holeBehind_0 : List xR := [(0, .iload_n 2, 1, 0, 0, 0), (1, .istore_n 3, 1, 0, 0, 0), (2, .iconst 0, 1, 0, 0, 0), (3, .istore 4, 2, 0, 0, 0), (5, .iload 4, 2, 0, 0, 0), (7, .aload_n 0, 1, 0, 0, 0), (8, .getfield 41, 3, 9, 0, 0), (11, .if_icmp .ge 28, 3, 0, 0, 0), (14, .aload_n 0, 1, 0, 0, 0), (15, .getfield 18, 3, 9, 5, 0), (18, .iload 4, 2, 0, 0, 0), (20, .iaload, 1, 0, 0, 0), (21, .iload_n 1, 1, 0, 0, 0), (22, .if_icmp .gt 17, 3, 0, 0, 0), (25, .aload_n 0, 1, 0, 0, 0), (26, .getfield 21, 3, 9, 6, 0), (29, .iload 4, 2, 0, 0, 0), (31, .iaload, 1, 0, 0, 0), (32, .istore_n 3, 1, 0, 0, 0), (33, .iinc 4 1, 3, 0, 0, 0), (36, .goto (-31), 3, 0, 0, 0), (39, .iload_n 3, 1, 0, 0, 0), (40, .ireturn, 1, 0, 0, 0)]
noncomputable def M_cX9_holeBehind : xM := (RX9, yX9_holeBehind, cX9_holeBehind, 5, (some .int), false, 9, [(40, k_cX9_holeBehind_0)])
noncomputable def k_cX9_firstMissed_0 : List xR := [(0, .iconst 0, 1, 0, 0, 0), (1, .istore_n 2, 1, 0, 0, 0), (2, .iload_n 2, 1, 0, 0, 0), (3, .aload_n 1, 1, 0, 0, 0), (4, .getfield 28, 3, 4, 0, 0), (7, .if_icmp .ge 37, 3, 0, 0, 0), (10, .aload_n 1, 1, 0, 0, 0), (11, .getfield 34, 3, 4, 3, 0), (14, .iload_n 2, 1, 0, 0, 0), (15, .iaload, 1, 0, 0, 0), (16, .ifCond .ne 22, 3, 0, 0, 0), (19, .aload_n 0, 1, 0, 0, 0), (20, .getfield 15, 3, 9, 3, 0), (23, .iload_n 2, 1, 0, 0, 0), (24, .iaload, 1, 0, 0, 0), (25, .aload_n 1, 1, 0, 0, 0), (26, .iload_n 2, 1, 0, 0, 0), (27, .invokevirtual 95, 3, 49, 1, 0), (30, .invokestatic 99, 3, 356, 1, 0), (33, .if_icmp .ge 5, 3, 0, 0, 0), (36, .iload_n 2, 1, 0, 0, 0), (37, .ireturn, 1, 0, 0, 0), (38, .iinc 2 1, 3, 0, 0, 0), (41, .goto (-39), 3, 0, 0, 0), (44, .iconst (-1), 1, 0, 0, 0), (45, .ireturn, 1, 0, 0, 0)]
noncomputable def M_cX9_firstMissed : xM := (RX9, yX9_firstMissed, cX9_firstMissed, 3, (some .int), false, 9, [(45, k_cX9_firstMissed_0)])
noncomputable def k_cX10_init_0 : List xR := [(0, .aload_n 0, 1, 0, 0, 0), (1, .invokespecial 3, 3, 9000, 0, 0), (4, .aload_n 0, 1, 0, 0, 0), (5, .sipush 1200, 3, 0, 0, 0), (8, .newarray .byte, 2, 0, 0, 0), (10, .putfield 9, 3, 10, 1, 0), (13, .return_, 1, 0, 0, 0)]
noncomputable def M_cX10_init : xM := (RX10, yX10_init, cX10_init, 1, none, false, 10, [(13, k_cX10_init_0)])
noncomputable def k_cX10_put_0 : List xR := [(0, .bipush 24, 2, 0, 0, 0), (2, .istore_n 2, 1, 0, 0, 0), (3, .iload_n 2, 1, 0, 0, 0), (4, .ifCond .lt 42, 3, 0, 0, 0), (7, .aload_n 0, 1, 0, 0, 0), (8, .getfield 15, 3, 10, 0, 0), (11, .sipush 1200, 3, 0, 0, 0), (14, .if_icmp .ge 32, 3, 0, 0, 0), (17, .aload_n 0, 1, 0, 0, 0), (18, .getfield 9, 3, 10, 1, 0), (21, .aload_n 0, 1, 0, 0, 0), (22, .getfield 15, 3, 10, 0, 0), (25, .iload_n 1, 1, 0, 0, 0), (26, .iload_n 2, 1, 0, 0, 0), (27, .ishr, 1, 0, 0, 0), (28, .i2b, 1, 0, 0, 0), (29, .bastore, 1, 0, 0, 0), (30, .aload_n 0, 1, 0, 0, 0), (31, .dup, 1, 0, 0, 0), (32, .getfield 15, 3, 10, 0, 0), (35, .iconst 1, 1, 0, 0, 0), (36, .iadd, 1, 0, 0, 0), (37, .putfield 15, 3, 10, 0, 0), (40, .iinc 2 (-8), 3, 0, 0, 0), (43, .goto (-40), 3, 0, 0, 0), (46, .return_, 1, 0, 0, 0)]
noncomputable def M_cX10_put : xM := (RX10, yX10_put, cX10_put, 3, none, false, 10, [(46, k_cX10_put_0)])
noncomputable def k_cX10_at_0 : List xR := [(0, .iload_n 1, 1, 0, 0, 0), (1, .ifCond .lt 24, 3, 0, 0, 0), (4, .iload_n 1, 1, 0, 0, 0), (5, .aload_n 0, 1, 0, 0, 0), (6, .getfield 15, 3, 10, 0, 0), (9, .if_icmp .ge 16, 3, 0, 0, 0), (12, .aload_n 0, 1, 0, 0, 0), (13, .getfield 9, 3, 10, 1, 0), (16, .iload_n 1, 1, 0, 0, 0), (17, .baload, 1, 0, 0, 0), (18, .sipush 255, 3, 0, 0, 0), (21, .iand, 1, 0, 0, 0), (22, .goto 4, 3, 0, 0, 0), (25, .iconst (-1), 1, 0, 0, 0), (26, .ireturn, 1, 0, 0, 0)]
noncomputable def M_cX10_at : xM := (RX10, yX10_at, cX10_at, 2, (some .int), false, 10, [(26, k_cX10_at_0)])
noncomputable def k_cX11_init_0 : List xR := [(0, .aload_n 0, 1, 0, 0, 0), (1, .invokespecial 1, 3, 9000, 0, 0), (4, .aload_n 0, 1, 0, 0, 0), (5, .new 7, 3, 2, 15, 0), (8, .dup, 1, 0, 0, 0), (9, .invokespecial 9, 3, 8, 0, 0), (12, .putfield 10, 3, 11, 0, 0), (15, .aload_n 0, 1, 0, 0, 0), (16, .iconst 3, 1, 0, 0, 0), (17, .anewarray 7, 3, 2, 0, 0), (20, .putfield 16, 3, 11, 1, 0), (23, .aload_n 0, 1, 0, 0, 0), (24, .new 20, 3, 7, 9, 0), (27, .dup, 1, 0, 0, 0), (28, .invokespecial 22, 3, 69, 0, 0), (31, .putfield 23, 3, 11, 2, 0), (34, .aload_n 0, 1, 0, 0, 0), (35, .new 27, 3, 4, 7, 0), (38, .dup, 1, 0, 0, 0), (39, .invokespecial 29, 3, 40, 0, 0), (42, .putfield 30, 3, 11, 3, 0), (45, .aload_n 0, 1, 0, 0, 0), (46, .new 34, 3, 6, 5, 0), (49, .dup, 1, 0, 0, 0), (50, .invokespecial 36, 3, 63, 0, 0), (53, .putfield 37, 3, 11, 4, 0), (56, .aload_n 0, 1, 0, 0, 0), (57, .new 34, 3, 6, 5, 0), (60, .dup, 1, 0, 0, 0), (61, .invokespecial 36, 3, 63, 0, 0), (64, .putfield 41, 3, 11, 5, 0), (67, .aload_n 0, 1, 0, 0, 0)]
noncomputable def k_cX11_init_1 : List xR := [(68, .new 44, 3, 9, 9, 0), (71, .dup, 1, 0, 0, 0), (72, .invokespecial 46, 3, 99, 0, 0), (75, .putfield 47, 3, 11, 6, 0), (78, .aload_n 0, 1, 0, 0, 0), (79, .new 51, 3, 0, 1, 0), (82, .dup, 1, 0, 0, 0), (83, .invokespecial 53, 3, 0, 0, 0), (86, .putfield 54, 3, 11, 7, 0), (89, .aload_n 0, 1, 0, 0, 0), (90, .new 58, 3, 5, 2, 0), (93, .dup, 1, 0, 0, 0), (94, .invokespecial 60, 3, 53, 0, 0), (97, .putfield 61, 3, 11, 8, 0), (100, .aload_n 0, 1, 0, 0, 0), (101, .new 65, 3, 1, 4, 0), (104, .dup, 1, 0, 0, 0), (105, .invokespecial 67, 3, 5, 0, 0), (108, .putfield 68, 3, 11, 9, 0), (111, .aload_n 0, 1, 0, 0, 0), (112, .iconst 4, 1, 0, 0, 0), (113, .anewarray 72, 3, 8, 0, 0), (116, .putfield 74, 3, 11, 10, 0), (119, .iconst 0, 1, 0, 0, 0), (120, .istore_n 1, 1, 0, 0, 0), (121, .iload_n 1, 1, 0, 0, 0), (122, .iconst 3, 1, 0, 0, 0), (123, .if_icmp .ge 22, 3, 0, 0, 0), (126, .aload_n 0, 1, 0, 0, 0), (127, .getfield 16, 3, 11, 1, 0), (130, .iload_n 1, 1, 0, 0, 0), (131, .new 7, 3, 2, 15, 0)]
noncomputable def k_cX11_init_2 : List xR := [(134, .dup, 1, 0, 0, 0), (135, .invokespecial 9, 3, 8, 0, 0), (138, .aastore, 1, 0, 0, 0), (139, .iinc 1 1, 3, 0, 0, 0), (142, .goto (-21), 3, 0, 0, 0), (145, .iconst 0, 1, 0, 0, 0), (146, .istore_n 1, 1, 0, 0, 0), (147, .iload_n 1, 1, 0, 0, 0), (148, .iconst 4, 1, 0, 0, 0), (149, .if_icmp .ge 22, 3, 0, 0, 0), (152, .aload_n 0, 1, 0, 0, 0), (153, .getfield 74, 3, 11, 10, 0), (156, .iload_n 1, 1, 0, 0, 0), (157, .new 72, 3, 8, 3, 0), (160, .dup, 1, 0, 0, 0), (161, .invokespecial 78, 3, 90, 0, 0), (164, .aastore, 1, 0, 0, 0), (165, .iinc 1 1, 3, 0, 0, 0), (168, .goto (-21), 3, 0, 0, 0), (171, .return_, 1, 0, 0, 0)]
noncomputable def M_cX11_init : xM := (RX11, yX11_init, cX11_init, 2, none, false, 11, [(67, k_cX11_init_0), (131, k_cX11_init_1), (171, k_cX11_init_2)])
noncomputable def k_cX11_feed_0 : List xR := [(0, .aload_n 0, 1, 0, 0, 0), (1, .getfield 23, 3, 11, 2, 0), (4, .getfield 79, 3, 7, 3, 0), (7, .getfield 83, 3, 10, 0, 0), (10, .bipush 20, 2, 0, 0, 0), (12, .iadd, 1, 0, 0, 0), (13, .sipush 1200, 3, 0, 0, 0), (16, .if_icmp .le 5, 3, 0, 0, 0), (19, .iconst (-1), 1, 0, 0, 0), (20, .ireturn, 1, 0, 0, 0), (21, .aload_n 0, 1, 0, 0, 0), (22, .getfield 23, 3, 11, 2, 0), (25, .getfield 79, 3, 7, 3, 0), (28, .iload_n 1, 1, 0, 0, 0), (29, .invokevirtual 89, 3, 109, 1, 0), (32, .aload_n 0, 1, 0, 0, 0), (33, .getfield 23, 3, 11, 2, 0), (36, .getfield 79, 3, 7, 3, 0), (39, .iload_n 2, 1, 0, 0, 0), (40, .invokevirtual 89, 3, 109, 1, 0), (43, .aload_n 0, 1, 0, 0, 0), (44, .getfield 23, 3, 11, 2, 0), (47, .getfield 79, 3, 7, 3, 0), (50, .iload_n 3, 1, 0, 0, 0), (51, .invokevirtual 89, 3, 109, 1, 0), (54, .aload_n 0, 1, 0, 0, 0), (55, .getfield 23, 3, 11, 2, 0), (58, .getfield 79, 3, 7, 3, 0), (61, .iload 4, 2, 0, 0, 0), (63, .invokevirtual 89, 3, 109, 1, 0), (66, .aload_n 0, 1, 0, 0, 0), (67, .getfield 23, 3, 11, 2, 0)]
noncomputable def k_cX11_feed_1 : List xR := [(70, .getfield 79, 3, 7, 3, 0), (73, .iload 5, 2, 0, 0, 0), (75, .invokevirtual 89, 3, 109, 1, 0), (78, .aload_n 0, 1, 0, 0, 0), (79, .getfield 23, 3, 11, 2, 0), (82, .getfield 79, 3, 7, 3, 0), (85, .getfield 83, 3, 10, 0, 0), (88, .ireturn, 1, 0, 0, 0)]
noncomputable def M_cX11_feed : xM := (RX11, yX11_feed, cX11_feed, 6, (some .int), false, 11, [(67, k_cX11_feed_0), (88, k_cX11_feed_1)])
noncomputable def k_cX11_end_0 : List xR := [(0, .iload_n 1, 1, 0, 0, 0), (1, .ifCond .lt 17, 3, 0, 0, 0), (4, .iload_n 1, 1, 0, 0, 0), (5, .aload_n 0, 1, 0, 0, 0), (6, .getfield 23, 3, 11, 2, 0), (9, .getfield 79, 3, 7, 3, 0), (12, .getfield 83, 3, 10, 0, 0), (15, .if_icmp .le 5, 3, 0, 0, 0), (18, .iconst (-1), 1, 0, 0, 0), (19, .ireturn, 1, 0, 0, 0), (20, .aload_n 0, 1, 0, 0, 0), (21, .getfield 23, 3, 11, 2, 0), (24, .getfield 79, 3, 7, 3, 0), (27, .iload_n 1, 1, 0, 0, 0), (28, .putfield 83, 3, 10, 0, 0), (31, .iload_n 1, 1, 0, 0, 0), (32, .ireturn, 1, 0, 0, 0)]
noncomputable def M_cX11_end : xM := (RX11, yX11_end, cX11_end, 2, (some .int), false, 11, [(32, k_cX11_end_0)])
noncomputable def k_cX11_board_0 : List xR := [(0, .aload_n 0, 1, 0, 0, 0), (1, .getfield 23, 3, 11, 2, 0), (4, .invokevirtual 93, 3, 70, 0, 0), (7, .istore_n 1, 1, 0, 0, 0), (8, .aload_n 0, 1, 0, 0, 0), (9, .getfield 23, 3, 11, 2, 0), (12, .getfield 79, 3, 7, 3, 0), (15, .iconst 0, 1, 0, 0, 0), (16, .putfield 83, 3, 10, 0, 0), (19, .iload_n 1, 1, 0, 0, 0), (20, .ifCond .ne 6, 3, 0, 0, 0), (23, .bipush (-4), 2, 0, 0, 0), (25, .ireturn, 1, 0, 0, 0), (26, .aload_n 0, 1, 0, 0, 0), (27, .getfield 10, 3, 11, 0, 0), (30, .aload_n 0, 1, 0, 0, 0), (31, .getfield 23, 3, 11, 2, 0), (34, .getfield 97, 3, 7, 0, 0), (37, .invokevirtual 100, 3, 10, 1, 0), (40, .aload_n 0, 1, 0, 0, 0), (41, .getfield 10, 3, 11, 0, 0), (44, .getfield 104, 3, 2, 1, 0), (47, .ireturn, 1, 0, 0, 0)]
noncomputable def M_cX11_board : xM := (RX11, yX11_board, cX11_board, 2, (some .int), false, 11, [(47, k_cX11_board_0)])
noncomputable def k_cX11_fault_0 : List xR := [(0, .iload_n 1, 1, 0, 0, 0), (1, .lookupswitch 43 #[(0, 27), (1, 35)], 27, 0, 0, 0), (28, .aload_n 0, 1, 0, 0, 0), (29, .getfield 23, 3, 11, 2, 0), (32, .getfield 107, 3, 7, 1, 0), (35, .ireturn, 1, 0, 0, 0), (36, .aload_n 0, 1, 0, 0, 0), (37, .getfield 23, 3, 11, 2, 0), (40, .getfield 110, 3, 7, 2, 0), (43, .ireturn, 1, 0, 0, 0), (44, .iconst (-1), 1, 0, 0, 0), (45, .ireturn, 1, 0, 0, 0)]
noncomputable def M_cX11_fault : xM := (RX11, yX11_fault, cX11_fault, 2, (some .int), false, 11, [(45, k_cX11_fault_0)])
noncomputable def k_cX11_drum_0 : List xR := [(0, .aload_n 0, 1, 0, 0, 0), (1, .getfield 10, 3, 11, 0, 0), (4, .getfield 113, 3, 2, 14, 0), (7, .iload_n 1, 1, 0, 0, 0), (8, .invokevirtual 117, 3, 31, 1, 0), (11, .ifCond .ne 6, 3, 0, 0, 0), (14, .bipush (-2), 2, 0, 0, 0), (16, .ireturn, 1, 0, 0, 0), (17, .iload_n 2, 1, 0, 0, 0), (18, .tableswitch 65 0 2 #[26, 39, 52], 26, 0, 0, 0), (44, .aload_n 0, 1, 0, 0, 0), (45, .getfield 10, 3, 11, 0, 0), (48, .getfield 113, 3, 2, 14, 0), (51, .getfield 123, 3, 3, 2, 0), (54, .iload_n 1, 1, 0, 0, 0), (55, .iaload, 1, 0, 0, 0), (56, .ireturn, 1, 0, 0, 0), (57, .aload_n 0, 1, 0, 0, 0), (58, .getfield 10, 3, 11, 0, 0), (61, .getfield 113, 3, 2, 14, 0), (64, .getfield 127, 3, 3, 3, 0), (67, .iload_n 1, 1, 0, 0, 0), (68, .iaload, 1, 0, 0, 0), (69, .ireturn, 1, 0, 0, 0), (70, .aload_n 0, 1, 0, 0, 0), (71, .getfield 10, 3, 11, 0, 0), (74, .getfield 113, 3, 2, 14, 0), (77, .getfield 130, 3, 3, 4, 0), (80, .iload_n 1, 1, 0, 0, 0), (81, .iaload, 1, 0, 0, 0), (82, .ireturn, 1, 0, 0, 0), (83, .bipush (-2), 2, 0, 0, 0)]
noncomputable def k_cX11_drum_1 : List xR := [(85, .ireturn, 1, 0, 0, 0)]
noncomputable def M_cX11_drum : xM := (RX11, yX11_drum, cX11_drum, 3, (some .int), false, 11, [(83, k_cX11_drum_0), (85, k_cX11_drum_1)])
noncomputable def k_cX11_player_0 : List xR := [(0, .aload_n 0, 1, 0, 0, 0), (1, .getfield 10, 3, 11, 0, 0), (4, .iload_n 1, 1, 0, 0, 0), (5, .invokevirtual 133, 3, 15, 1, 0), (8, .ifCond .eq 12, 3, 0, 0, 0), (11, .iload_n 2, 1, 0, 0, 0), (12, .ifCond .lt 8, 3, 0, 0, 0), (15, .iload_n 2, 1, 0, 0, 0), (16, .iconst 5, 1, 0, 0, 0), (17, .if_icmp .lt 6, 3, 0, 0, 0), (20, .bipush (-2), 2, 0, 0, 0), (22, .ireturn, 1, 0, 0, 0), (23, .aload_n 0, 1, 0, 0, 0), (24, .getfield 10, 3, 11, 0, 0), (27, .iload_n 1, 1, 0, 0, 0), (28, .iload_n 2, 1, 0, 0, 0), (29, .invokevirtual 136, 3, 24, 2, 0), (32, .ireturn, 1, 0, 0, 0)]
noncomputable def M_cX11_player : xM := (RX11, yX11_player, cX11_player, 3, (some .int), false, 11, [(32, k_cX11_player_0)])
noncomputable def k_cX11_stay_0 : List xR := [(0, .aload_n 0, 1, 0, 0, 0), (1, .getfield 10, 3, 11, 0, 0), (4, .iload_n 1, 1, 0, 0, 0), (5, .invokevirtual 140, 3, 14, 1, 0), (8, .ifCond .eq 14, 3, 0, 0, 0), (11, .aload_n 0, 1, 0, 0, 0), (12, .getfield 10, 3, 11, 0, 0), (15, .iload_n 1, 1, 0, 0, 0), (16, .invokevirtual 143, 3, 21, 1, 0), (19, .goto 5, 3, 0, 0, 0), (22, .bipush (-2), 2, 0, 0, 0), (24, .ireturn, 1, 0, 0, 0)]
noncomputable def M_cX11_stay : xM := (RX11, yX11_stay, cX11_stay, 2, (some .int), false, 11, [(24, k_cX11_stay_0)])
noncomputable def k_cX11_count_0 : List xR := [(0, .iload_n 1, 1, 0, 0, 0), (1, .tableswitch 153 0 10 #[59, 67, 75, 83, 91, 102, 110, 118, 129, 137, 148], 59, 0, 0, 0), (60, .aload_n 0, 1, 0, 0, 0), (61, .getfield 10, 3, 11, 0, 0), (64, .getfield 147, 3, 2, 2, 0), (67, .ireturn, 1, 0, 0, 0), (68, .aload_n 0, 1, 0, 0, 0), (69, .getfield 10, 3, 11, 0, 0), (72, .getfield 150, 3, 2, 3, 0), (75, .ireturn, 1, 0, 0, 0), (76, .aload_n 0, 1, 0, 0, 0), (77, .getfield 10, 3, 11, 0, 0), (80, .getfield 153, 3, 2, 4, 0), (83, .ireturn, 1, 0, 0, 0), (84, .aload_n 0, 1, 0, 0, 0), (85, .getfield 10, 3, 11, 0, 0), (88, .getfield 156, 3, 2, 5, 0), (91, .ireturn, 1, 0, 0, 0), (92, .aload_n 0, 1, 0, 0, 0), (93, .getfield 10, 3, 11, 0, 0), (96, .getfield 113, 3, 2, 14, 0), (99, .getfield 159, 3, 3, 0, 0), (102, .ireturn, 1, 0, 0, 0), (103, .aload_n 0, 1, 0, 0, 0), (104, .getfield 10, 3, 11, 0, 0), (107, .getfield 160, 3, 2, 7, 0), (110, .ireturn, 1, 0, 0, 0), (111, .aload_n 0, 1, 0, 0, 0), (112, .getfield 10, 3, 11, 0, 0), (115, .getfield 163, 3, 2, 6, 0), (118, .ireturn, 1, 0, 0, 0), (119, .aload_n 0, 1, 0, 0, 0)]
noncomputable def k_cX11_count_1 : List xR := [(120, .getfield 10, 3, 11, 0, 0), (123, .getfield 113, 3, 2, 14, 0), (126, .getfield 166, 3, 3, 1, 0), (129, .ireturn, 1, 0, 0, 0), (130, .aload_n 0, 1, 0, 0, 0), (131, .getfield 10, 3, 11, 0, 0), (134, .getfield 104, 3, 2, 1, 0), (137, .ireturn, 1, 0, 0, 0), (138, .aload_n 0, 1, 0, 0, 0), (139, .getfield 23, 3, 11, 2, 0), (142, .getfield 79, 3, 7, 3, 0), (145, .getfield 83, 3, 10, 0, 0), (148, .ireturn, 1, 0, 0, 0), (149, .aload_n 0, 1, 0, 0, 0), (150, .invokevirtual 169, 3, 185, 0, 0), (153, .ireturn, 1, 0, 0, 0), (154, .iconst (-1), 1, 0, 0, 0), (155, .ireturn, 1, 0, 0, 0)]
noncomputable def M_cX11_count : xM := (RX11, yX11_count, cX11_count, 2, (some .int), false, 11, [(119, k_cX11_count_0), (155, k_cX11_count_1)])
noncomputable def k_cX11_comings_0 : List xR := [(0, .aload_n 0, 1, 0, 0, 0), (1, .getfield 10, 3, 11, 0, 0), (4, .invokevirtual 173, 3, 11, 0, 0), (7, .ifCond .ne 6, 3, 0, 0, 0), (10, .bipush (-2), 2, 0, 0, 0), (12, .ireturn, 1, 0, 0, 0), (13, .aload_n 0, 1, 0, 0, 0), (14, .getfield 30, 3, 11, 3, 0), (17, .aload_n 0, 1, 0, 0, 0), (18, .getfield 10, 3, 11, 0, 0), (21, .aload_n 0, 1, 0, 0, 0), (22, .getfield 10, 3, 11, 0, 0), (25, .getfield 113, 3, 2, 14, 0), (28, .getfield 166, 3, 3, 1, 0), (31, .invokevirtual 176, 3, 42, 2, 0), (34, .aload_n 0, 1, 0, 0, 0), (35, .getfield 30, 3, 11, 3, 0), (38, .getfield 180, 3, 4, 0, 0), (41, .ireturn, 1, 0, 0, 0)]
noncomputable def M_cX11_comings : xM := (RX11, yX11_comings, cX11_comings, 1, (some .int), false, 11, [(41, k_cX11_comings_0)])
noncomputable def k_cX11_comes_0 : List xR := [(0, .aload_n 0, 1, 0, 0, 0), (1, .getfield 10, 3, 11, 0, 0), (4, .invokevirtual 173, 3, 11, 0, 0), (7, .ifCond .eq 12, 3, 0, 0, 0), (10, .iload_n 2, 1, 0, 0, 0), (11, .ifCond .lt 8, 3, 0, 0, 0), (14, .iload_n 2, 1, 0, 0, 0), (15, .iconst 4, 1, 0, 0, 0), (16, .if_icmp .le 6, 3, 0, 0, 0), (19, .bipush (-2), 2, 0, 0, 0), (21, .ireturn, 1, 0, 0, 0), (22, .aload_n 0, 1, 0, 0, 0), (23, .getfield 30, 3, 11, 3, 0), (26, .aload_n 0, 1, 0, 0, 0), (27, .getfield 10, 3, 11, 0, 0), (30, .aload_n 0, 1, 0, 0, 0), (31, .getfield 10, 3, 11, 0, 0), (34, .getfield 113, 3, 2, 14, 0), (37, .getfield 166, 3, 3, 1, 0), (40, .invokevirtual 176, 3, 42, 2, 0), (43, .aload_n 0, 1, 0, 0, 0), (44, .getfield 30, 3, 11, 3, 0), (47, .iload_n 1, 1, 0, 0, 0), (48, .invokevirtual 181, 3, 41, 1, 0), (51, .ifCond .ne 5, 3, 0, 0, 0), (54, .iconst (-1), 1, 0, 0, 0), (55, .ireturn, 1, 0, 0, 0), (56, .iload_n 2, 1, 0, 0, 0), (57, .tableswitch 71 0 3 #[31, 41, 51, 61], 31, 0, 0, 0), (88, .aload_n 0, 1, 0, 0, 0), (89, .getfield 30, 3, 11, 3, 0), (92, .getfield 182, 3, 4, 1, 0)]
noncomputable def k_cX11_comes_1 : List xR := [(95, .iload_n 1, 1, 0, 0, 0), (96, .iaload, 1, 0, 0, 0), (97, .ireturn, 1, 0, 0, 0), (98, .aload_n 0, 1, 0, 0, 0), (99, .getfield 30, 3, 11, 3, 0), (102, .getfield 183, 3, 4, 2, 0), (105, .iload_n 1, 1, 0, 0, 0), (106, .iaload, 1, 0, 0, 0), (107, .ireturn, 1, 0, 0, 0), (108, .aload_n 0, 1, 0, 0, 0), (109, .getfield 30, 3, 11, 3, 0), (112, .getfield 184, 3, 4, 3, 0), (115, .iload_n 1, 1, 0, 0, 0), (116, .iaload, 1, 0, 0, 0), (117, .ireturn, 1, 0, 0, 0), (118, .aload_n 0, 1, 0, 0, 0), (119, .getfield 30, 3, 11, 3, 0), (122, .getfield 185, 3, 4, 4, 0), (125, .iload_n 1, 1, 0, 0, 0), (126, .iaload, 1, 0, 0, 0), (127, .ireturn, 1, 0, 0, 0), (128, .aload_n 0, 1, 0, 0, 0), (129, .getfield 30, 3, 11, 3, 0), (132, .getfield 188, 3, 4, 5, 0), (135, .iload_n 1, 1, 0, 0, 0), (136, .iaload, 1, 0, 0, 0), (137, .ireturn, 1, 0, 0, 0)]
noncomputable def M_cX11_comes : xM := (RX11, yX11_comes, cX11_comes, 3, (some .int), false, 11, [(92, k_cX11_comes_0), (137, k_cX11_comes_1)])
noncomputable def k_cX11_up_0 : List xR := [(0, .aload_n 0, 1, 0, 0, 0), (1, .getfield 10, 3, 11, 0, 0), (4, .iload_n 1, 1, 0, 0, 0), (5, .invokevirtual 140, 3, 14, 1, 0), (8, .ifCond .ne 6, 3, 0, 0, 0), (11, .bipush (-2), 2, 0, 0, 0), (13, .ireturn, 1, 0, 0, 0), (14, .aload_n 0, 1, 0, 0, 0), (15, .getfield 30, 3, 11, 3, 0), (18, .aload_n 0, 1, 0, 0, 0), (19, .getfield 10, 3, 11, 0, 0), (22, .aload_n 0, 1, 0, 0, 0), (23, .getfield 10, 3, 11, 0, 0), (26, .getfield 113, 3, 2, 14, 0), (29, .getfield 166, 3, 3, 1, 0), (32, .invokevirtual 176, 3, 42, 2, 0), (35, .aload_n 0, 1, 0, 0, 0), (36, .getfield 30, 3, 11, 3, 0), (39, .iload_n 1, 1, 0, 0, 0), (40, .invokevirtual 191, 3, 48, 1, 0), (43, .istore_n 2, 1, 0, 0, 0), (44, .aload_n 0, 1, 0, 0, 0), (45, .getfield 30, 3, 11, 3, 0), (48, .iload_n 2, 1, 0, 0, 0), (49, .invokevirtual 181, 3, 41, 1, 0), (52, .ifCond .eq 14, 3, 0, 0, 0), (55, .aload_n 0, 1, 0, 0, 0), (56, .getfield 30, 3, 11, 3, 0), (59, .iload_n 2, 1, 0, 0, 0), (60, .invokevirtual 194, 3, 49, 1, 0), (63, .goto 4, 3, 0, 0, 0), (66, .iconst 0, 1, 0, 0, 0)]
noncomputable def k_cX11_up_1 : List xR := [(67, .ireturn, 1, 0, 0, 0)]
noncomputable def M_cX11_up : xM := (RX11, yX11_up, cX11_up, 3, (some .int), false, 11, [(66, k_cX11_up_0), (67, k_cX11_up_1)])
noncomputable def k_cX11_calm_0 : List xR := [(0, .aload_n 0, 1, 0, 0, 0), (1, .getfield 10, 3, 11, 0, 0), (4, .invokevirtual 173, 3, 11, 0, 0), (7, .ifCond .ne 6, 3, 0, 0, 0), (10, .bipush (-2), 2, 0, 0, 0), (12, .ireturn, 1, 0, 0, 0), (13, .aload_n 0, 1, 0, 0, 0), (14, .getfield 30, 3, 11, 3, 0), (17, .aload_n 0, 1, 0, 0, 0), (18, .getfield 10, 3, 11, 0, 0), (21, .aload_n 0, 1, 0, 0, 0), (22, .getfield 10, 3, 11, 0, 0), (25, .getfield 113, 3, 2, 14, 0), (28, .getfield 166, 3, 3, 1, 0), (31, .invokevirtual 176, 3, 42, 2, 0), (34, .aload_n 0, 1, 0, 0, 0), (35, .getfield 10, 3, 11, 0, 0), (38, .getfield 153, 3, 2, 4, 0), (41, .istore_n 1, 1, 0, 0, 0), (42, .iconst 0, 1, 0, 0, 0), (43, .istore_n 2, 1, 0, 0, 0), (44, .iload_n 2, 1, 0, 0, 0), (45, .aload_n 0, 1, 0, 0, 0), (46, .getfield 30, 3, 11, 3, 0), (49, .getfield 180, 3, 4, 0, 0), (52, .if_icmp .ge 33, 3, 0, 0, 0), (55, .iload_n 1, 1, 0, 0, 0), (56, .aload_n 0, 1, 0, 0, 0), (57, .getfield 30, 3, 11, 3, 0), (60, .getfield 188, 3, 4, 5, 0), (63, .iload_n 2, 1, 0, 0, 0), (64, .iaload, 1, 0, 0, 0)]
noncomputable def k_cX11_calm_1 : List xR := [(65, .aload_n 0, 1, 0, 0, 0), (66, .getfield 30, 3, 11, 3, 0), (69, .getfield 185, 3, 4, 4, 0), (72, .iload_n 2, 1, 0, 0, 0), (73, .iaload, 1, 0, 0, 0), (74, .isub, 1, 0, 0, 0), (75, .iconst 1, 1, 0, 0, 0), (76, .iadd, 1, 0, 0, 0), (77, .isub, 1, 0, 0, 0), (78, .istore_n 1, 1, 0, 0, 0), (79, .iinc 2 1, 3, 0, 0, 0), (82, .goto (-38), 3, 0, 0, 0), (85, .iload_n 1, 1, 0, 0, 0), (86, .ireturn, 1, 0, 0, 0)]
noncomputable def M_cX11_calm : xM := (RX11, yX11_calm, cX11_calm, 3, (some .int), false, 11, [(64, k_cX11_calm_0), (86, k_cX11_calm_1)])
noncomputable def k_cX11_steps_0 : List xR := [(0, .aload_n 0, 1, 0, 0, 0), (1, .getfield 10, 3, 11, 0, 0), (4, .iload_n 1, 1, 0, 0, 0), (5, .invokevirtual 197, 3, 13, 1, 0), (8, .ifCond .eq 26, 3, 0, 0, 0), (11, .aload_n 0, 1, 0, 0, 0), (12, .getfield 10, 3, 11, 0, 0), (15, .iload_n 2, 1, 0, 0, 0), (16, .invokevirtual 197, 3, 13, 1, 0), (19, .ifCond .eq 15, 3, 0, 0, 0), (22, .aload_n 0, 1, 0, 0, 0), (23, .getfield 10, 3, 11, 0, 0), (26, .iload_n 1, 1, 0, 0, 0), (27, .iload_n 2, 1, 0, 0, 0), (28, .invokevirtual 200, 3, 18, 2, 0), (31, .goto 5, 3, 0, 0, 0), (34, .bipush (-2), 2, 0, 0, 0), (36, .ireturn, 1, 0, 0, 0)]
noncomputable def M_cX11_steps : xM := (RX11, yX11_steps, cX11_steps, 3, (some .int), false, 11, [(36, k_cX11_steps_0)])
noncomputable def k_cX11_pace_0 : List xR := [(0, .aload_n 0, 1, 0, 0, 0), (1, .getfield 10, 3, 11, 0, 0), (4, .iload_n 1, 1, 0, 0, 0), (5, .invokevirtual 133, 3, 15, 1, 0), (8, .ifCond .eq 14, 3, 0, 0, 0), (11, .aload_n 0, 1, 0, 0, 0), (12, .getfield 10, 3, 11, 0, 0), (15, .iload_n 2, 1, 0, 0, 0), (16, .invokevirtual 140, 3, 14, 1, 0), (19, .ifCond .ne 6, 3, 0, 0, 0), (22, .bipush (-2), 2, 0, 0, 0), (24, .ireturn, 1, 0, 0, 0), (25, .aload_n 0, 1, 0, 0, 0), (26, .getfield 37, 3, 11, 4, 0), (29, .aload_n 0, 1, 0, 0, 0), (30, .getfield 10, 3, 11, 0, 0), (33, .iload_n 1, 1, 0, 0, 0), (34, .invokevirtual 203, 3, 64, 2, 0), (37, .aload_n 0, 1, 0, 0, 0), (38, .getfield 37, 3, 11, 4, 0), (41, .iload_n 2, 1, 0, 0, 0), (42, .invokevirtual 206, 3, 65, 1, 0), (45, .ireturn, 1, 0, 0, 0)]
noncomputable def M_cX11_pace : xM := (RX11, yX11_pace, cX11_pace, 3, (some .int), false, 11, [(45, k_cX11_pace_0)])
noncomputable def k_cX11_aware_0 : List xR := [(0, .aload_n 0, 1, 0, 0, 0), (1, .iload_n 1, 1, 0, 0, 0), (2, .invokevirtual 209, 3, 186, 1, 0), (5, .ifCond .ne 6, 3, 0, 0, 0), (8, .bipush (-2), 2, 0, 0, 0), (10, .ireturn, 1, 0, 0, 0), (11, .aload_n 0, 1, 0, 0, 0), (12, .getfield 30, 3, 11, 3, 0), (15, .iload_n 2, 1, 0, 0, 0), (16, .invokevirtual 181, 3, 41, 1, 0), (19, .ifCond .eq 18, 3, 0, 0, 0), (22, .aload_n 0, 1, 0, 0, 0), (23, .getfield 37, 3, 11, 4, 0), (26, .aload_n 0, 1, 0, 0, 0), (27, .getfield 30, 3, 11, 3, 0), (30, .iload_n 2, 1, 0, 0, 0), (31, .invokevirtual 212, 3, 66, 2, 0), (34, .goto 4, 3, 0, 0, 0), (37, .iconst (-1), 1, 0, 0, 0), (38, .ireturn, 1, 0, 0, 0)]
noncomputable def M_cX11_aware : xM := (RX11, yX11_aware, cX11_aware, 3, (some .int), false, 11, [(38, k_cX11_aware_0)])
noncomputable def k_cX11_hits_0 : List xR := [(0, .aload_n 0, 1, 0, 0, 0), (1, .iload_n 1, 1, 0, 0, 0), (2, .invokevirtual 216, 3, 187, 1, 0), (5, .ifCond .eq 13, 3, 0, 0, 0), (8, .aload_n 0, 1, 0, 0, 0), (9, .getfield 47, 3, 11, 6, 0), (12, .getfield 219, 3, 9, 0, 0), (15, .goto 5, 3, 0, 0, 0), (18, .bipush (-2), 2, 0, 0, 0), (20, .ireturn, 1, 0, 0, 0)]
noncomputable def M_cX11_hits : xM := (RX11, yX11_hits, cX11_hits, 2, (some .int), false, 11, [(20, k_cX11_hits_0)])
noncomputable def k_cX11_hit_0 : List xR := [(0, .aload_n 0, 1, 0, 0, 0), (1, .iload_n 1, 1, 0, 0, 0), (2, .invokevirtual 216, 3, 187, 1, 0), (5, .ifCond .ne 6, 3, 0, 0, 0), (8, .bipush (-2), 2, 0, 0, 0), (10, .ireturn, 1, 0, 0, 0), (11, .aload_n 0, 1, 0, 0, 0), (12, .getfield 30, 3, 11, 3, 0), (15, .iload_n 2, 1, 0, 0, 0), (16, .invokevirtual 181, 3, 41, 1, 0), (19, .ifCond .eq 15, 3, 0, 0, 0), (22, .aload_n 0, 1, 0, 0, 0), (23, .getfield 47, 3, 11, 6, 0), (26, .getfield 222, 3, 9, 2, 0), (29, .iload_n 2, 1, 0, 0, 0), (30, .iaload, 1, 0, 0, 0), (31, .goto 4, 3, 0, 0, 0), (34, .iconst (-1), 1, 0, 0, 0), (35, .ireturn, 1, 0, 0, 0)]
noncomputable def M_cX11_hit : xM := (RX11, yX11_hit, cX11_hit, 3, (some .int), false, 11, [(35, k_cX11_hit_0)])
noncomputable def k_cX11_twice_0 : List xR := [(0, .aload_n 0, 1, 0, 0, 0), (1, .iload_n 1, 1, 0, 0, 0), (2, .invokevirtual 216, 3, 187, 1, 0), (5, .ifCond .ne 6, 3, 0, 0, 0), (8, .bipush (-2), 2, 0, 0, 0), (10, .ireturn, 1, 0, 0, 0), (11, .aload_n 0, 1, 0, 0, 0), (12, .getfield 30, 3, 11, 3, 0), (15, .iload_n 2, 1, 0, 0, 0), (16, .invokevirtual 181, 3, 41, 1, 0), (19, .ifCond .eq 15, 3, 0, 0, 0), (22, .aload_n 0, 1, 0, 0, 0), (23, .getfield 47, 3, 11, 6, 0), (26, .getfield 225, 3, 9, 3, 0), (29, .iload_n 2, 1, 0, 0, 0), (30, .iaload, 1, 0, 0, 0), (31, .goto 4, 3, 0, 0, 0), (34, .iconst (-1), 1, 0, 0, 0), (35, .ireturn, 1, 0, 0, 0)]
noncomputable def M_cX11_twice : xM := (RX11, yX11_twice, cX11_twice, 3, (some .int), false, 11, [(35, k_cX11_twice_0)])
noncomputable def k_cX11_where_0 : List xR := [(0, .aload_n 0, 1, 0, 0, 0), (1, .getfield 10, 3, 11, 0, 0), (4, .iload_n 2, 1, 0, 0, 0), (5, .invokevirtual 140, 3, 14, 1, 0), (8, .ifCond .eq 11, 3, 0, 0, 0), (11, .aload_n 0, 1, 0, 0, 0), (12, .iload_n 1, 1, 0, 0, 0), (13, .invokevirtual 216, 3, 187, 1, 0), (16, .ifCond .ne 6, 3, 0, 0, 0), (19, .bipush (-2), 2, 0, 0, 0), (21, .ireturn, 1, 0, 0, 0), (22, .aload_n 0, 1, 0, 0, 0), (23, .getfield 47, 3, 11, 6, 0), (26, .iload_n 2, 1, 0, 0, 0), (27, .aload_n 0, 1, 0, 0, 0), (28, .getfield 37, 3, 11, 4, 0), (31, .getfield 228, 3, 6, 4, 0), (34, .invokevirtual 231, 3, 106, 2, 0), (37, .ireturn, 1, 0, 0, 0)]
noncomputable def M_cX11_where : xM := (RX11, yX11_where, cX11_where, 3, (some .int), false, 11, [(37, k_cX11_where_0)])
noncomputable def k_cX11_missed_0 : List xR := [(0, .aload_n 0, 1, 0, 0, 0), (1, .iload_n 1, 1, 0, 0, 0), (2, .invokevirtual 216, 3, 187, 1, 0), (5, .ifCond .eq 17, 3, 0, 0, 0), (8, .aload_n 0, 1, 0, 0, 0), (9, .getfield 47, 3, 11, 6, 0), (12, .aload_n 0, 1, 0, 0, 0), (13, .getfield 30, 3, 11, 3, 0), (16, .invokevirtual 234, 3, 107, 1, 0), (19, .goto 5, 3, 0, 0, 0), (22, .bipush (-2), 2, 0, 0, 0), (24, .ireturn, 1, 0, 0, 0)]
noncomputable def M_cX11_missed : xM := (RX11, yX11_missed, cX11_missed, 2, (some .int), false, 11, [(24, k_cX11_missed_0)])
noncomputable def k_cX11_walked_0 : List xR := [(0, .aload_n 0, 1, 0, 0, 0), (1, .iload_n 1, 1, 0, 0, 0), (2, .invokevirtual 216, 3, 187, 1, 0), (5, .ifCond .eq 13, 3, 0, 0, 0), (8, .aload_n 0, 1, 0, 0, 0), (9, .getfield 47, 3, 11, 6, 0), (12, .getfield 238, 3, 9, 1, 0), (15, .goto 5, 3, 0, 0, 0), (18, .bipush (-2), 2, 0, 0, 0), (20, .ireturn, 1, 0, 0, 0)]
noncomputable def M_cX11_walked : xM := (RX11, yX11_walked, cX11_walked, 2, (some .int), false, 11, [(20, k_cX11_walked_0)])
noncomputable def k_cX11_best_0 : List xR := [(0, .aload_n 0, 1, 0, 0, 0), (1, .iload_n 1, 1, 0, 0, 0), (2, .bipush 60, 2, 0, 0, 0), (4, .invokevirtual 241, 3, 134, 2, 0), (7, .ireturn, 1, 0, 0, 0)]
noncomputable def M_cX11_best : xM := (RX11, yX11_best, cX11_best, 2, (some .int), false, 11, [(7, k_cX11_best_0)])
noncomputable def k_cX11_ahead_0 : List xR := [(0, .iload_n 2, 1, 0, 0, 0), (1, .ifCond .lt 17, 3, 0, 0, 0), (4, .iload_n 2, 1, 0, 0, 0), (5, .bipush 60, 2, 0, 0, 0), (7, .if_icmp .gt 11, 3, 0, 0, 0), (10, .aload_n 0, 1, 0, 0, 0), (11, .iload_n 1, 1, 0, 0, 0), (12, .invokevirtual 209, 3, 186, 1, 0), (15, .ifCond .ne 6, 3, 0, 0, 0), (18, .bipush (-2), 2, 0, 0, 0), (20, .ireturn, 1, 0, 0, 0), (21, .aload_n 0, 1, 0, 0, 0), (22, .getfield 54, 3, 11, 7, 0), (25, .aload_n 0, 1, 0, 0, 0), (26, .getfield 10, 3, 11, 0, 0), (29, .aload_n 0, 1, 0, 0, 0), (30, .getfield 30, 3, 11, 3, 0), (33, .aload_n 0, 1, 0, 0, 0), (34, .getfield 37, 3, 11, 4, 0), (37, .iload_n 2, 1, 0, 0, 0), (38, .invokevirtual 244, 3, 1, 4, 0), (41, .ireturn, 1, 0, 0, 0)]
noncomputable def M_cX11_ahead : xM := (RX11, yX11_ahead, cX11_ahead, 3, (some .int), false, 11, [(41, k_cX11_ahead_0)])
noncomputable def k_cX11_learns_0 : List xR := [(0, .iload_n 2, 1, 0, 0, 0), (1, .ifCond .lt 17, 3, 0, 0, 0), (4, .iload_n 2, 1, 0, 0, 0), (5, .bipush 9, 2, 0, 0, 0), (7, .if_icmp .gt 11, 3, 0, 0, 0), (10, .aload_n 0, 1, 0, 0, 0), (11, .iload_n 1, 1, 0, 0, 0), (12, .invokevirtual 209, 3, 186, 1, 0), (15, .ifCond .ne 6, 3, 0, 0, 0), (18, .bipush (-2), 2, 0, 0, 0), (20, .ireturn, 1, 0, 0, 0), (21, .aload_n 0, 1, 0, 0, 0), (22, .iload_n 2, 1, 0, 0, 0), (23, .invokevirtual 248, 3, 188, 1, 0), (26, .ireturn, 1, 0, 0, 0)]
noncomputable def M_cX11_learns : xM := (RX11, yX11_learns, cX11_learns, 3, (some .int), false, 11, [(26, k_cX11_learns_0)])
noncomputable def k_cX11_enough_0 : List xR := [(0, .aload_n 0, 1, 0, 0, 0), (1, .iload_n 1, 1, 0, 0, 0), (2, .invokevirtual 209, 3, 186, 1, 0), (5, .ifCond .ne 6, 3, 0, 0, 0), (8, .bipush (-2), 2, 0, 0, 0), (10, .ireturn, 1, 0, 0, 0), (11, .iconst 0, 1, 0, 0, 0), (12, .istore_n 2, 1, 0, 0, 0), (13, .aload_n 0, 1, 0, 0, 0), (14, .iconst 0, 1, 0, 0, 0), (15, .invokevirtual 248, 3, 188, 1, 0), (18, .istore_n 3, 1, 0, 0, 0), (19, .iconst 1, 1, 0, 0, 0), (20, .istore 4, 2, 0, 0, 0), (22, .iload 4, 2, 0, 0, 0), (24, .bipush 9, 2, 0, 0, 0), (26, .if_icmp .gt 29, 3, 0, 0, 0), (29, .aload_n 0, 1, 0, 0, 0), (30, .iload 4, 2, 0, 0, 0), (32, .invokevirtual 248, 3, 188, 1, 0), (35, .istore 5, 2, 0, 0, 0), (37, .iload 5, 2, 0, 0, 0), (39, .iload_n 3, 1, 0, 0, 0), (40, .if_icmp .le 9, 3, 0, 0, 0), (43, .iload 5, 2, 0, 0, 0), (45, .istore_n 3, 1, 0, 0, 0), (46, .iload 4, 2, 0, 0, 0), (48, .istore_n 2, 1, 0, 0, 0), (49, .iinc 4 1, 3, 0, 0, 0), (52, .goto (-30), 3, 0, 0, 0), (55, .iload_n 2, 1, 0, 0, 0), (56, .ireturn, 1, 0, 0, 0)]
noncomputable def M_cX11_enough : xM := (RX11, yX11_enough, cX11_enough, 6, (some .int), false, 11, [(56, k_cX11_enough_0)])
noncomputable def k_cX11_waits_0 : List xR := [(0, .iload_n 2, 1, 0, 0, 0), (1, .ifCond .lt 16, 3, 0, 0, 0), (4, .iload_n 2, 1, 0, 0, 0), (5, .iconst 1, 1, 0, 0, 0), (6, .if_icmp .gt 11, 3, 0, 0, 0), (9, .aload_n 0, 1, 0, 0, 0), (10, .iload_n 1, 1, 0, 0, 0), (11, .invokevirtual 209, 3, 186, 1, 0), (14, .ifCond .ne 6, 3, 0, 0, 0), (17, .bipush (-2), 2, 0, 0, 0), (19, .ireturn, 1, 0, 0, 0), (20, .iconst 0, 1, 0, 0, 0), (21, .istore_n 3, 1, 0, 0, 0), (22, .iconst (-1), 1, 0, 0, 0), (23, .istore 4, 2, 0, 0, 0), (25, .iconst 0, 1, 0, 0, 0), (26, .istore 5, 2, 0, 0, 0), (28, .iload 5, 2, 0, 0, 0), (30, .aload_n 0, 1, 0, 0, 0), (31, .getfield 10, 3, 11, 0, 0), (34, .invokevirtual 251, 3, 12, 0, 0), (37, .if_icmp .ge 54, 3, 0, 0, 0), (40, .aload_n 0, 1, 0, 0, 0), (41, .getfield 37, 3, 11, 4, 0), (44, .iload 5, 2, 0, 0, 0), (46, .putfield 228, 3, 6, 4, 0), (49, .aload_n 0, 1, 0, 0, 0), (50, .getfield 47, 3, 11, 6, 0), (53, .aload_n 0, 1, 0, 0, 0), (54, .getfield 10, 3, 11, 0, 0), (57, .aload_n 0, 1, 0, 0, 0), (58, .getfield 30, 3, 11, 3, 0)]
noncomputable def k_cX11_waits_1 : List xR := [(61, .aload_n 0, 1, 0, 0, 0), (62, .getfield 37, 3, 11, 4, 0), (65, .iconst (-1), 1, 0, 0, 0), (66, .invokevirtual 254, 3, 100, 4, 0), (69, .istore 6, 2, 0, 0, 0), (71, .iload 6, 2, 0, 0, 0), (73, .iload 4, 2, 0, 0, 0), (75, .if_icmp .le 10, 3, 0, 0, 0), (78, .iload 6, 2, 0, 0, 0), (80, .istore 4, 2, 0, 0, 0), (82, .iload 5, 2, 0, 0, 0), (84, .istore_n 3, 1, 0, 0, 0), (85, .iinc 5 1, 3, 0, 0, 0), (88, .goto (-60), 3, 0, 0, 0), (91, .iload_n 2, 1, 0, 0, 0), (92, .ifCond .ne 7, 3, 0, 0, 0), (95, .iload_n 3, 1, 0, 0, 0), (96, .goto 5, 3, 0, 0, 0), (99, .iload 4, 2, 0, 0, 0), (101, .ireturn, 1, 0, 0, 0)]
noncomputable def M_cX11_waits : xM := (RX11, yX11_waits, cX11_waits, 7, (some .int), false, 11, [(58, k_cX11_waits_0), (101, k_cX11_waits_1)])
noncomputable def k_cX11_slack_0 : List xR := [(0, .aload_n 0, 1, 0, 0, 0), (1, .iload_n 1, 1, 0, 0, 0), (2, .invokevirtual 209, 3, 186, 1, 0), (5, .ifCond .ne 6, 3, 0, 0, 0), (8, .bipush (-2), 2, 0, 0, 0), (10, .ireturn, 1, 0, 0, 0), (11, .iconst 0, 1, 0, 0, 0), (12, .istore_n 2, 1, 0, 0, 0), (13, .aload_n 0, 1, 0, 0, 0), (14, .iconst 0, 1, 0, 0, 0), (15, .invokevirtual 257, 3, 189, 1, 0), (18, .istore_n 3, 1, 0, 0, 0), (19, .iconst 1, 1, 0, 0, 0), (20, .istore 4, 2, 0, 0, 0), (22, .iload 4, 2, 0, 0, 0), (24, .bipush 20, 2, 0, 0, 0), (26, .if_icmp .gt 22, 3, 0, 0, 0), (29, .aload_n 0, 1, 0, 0, 0), (30, .iload 4, 2, 0, 0, 0), (32, .invokevirtual 257, 3, 189, 1, 0), (35, .iload_n 3, 1, 0, 0, 0), (36, .if_icmp .ne 6, 3, 0, 0, 0), (39, .iload 4, 2, 0, 0, 0), (41, .istore_n 2, 1, 0, 0, 0), (42, .iinc 4 1, 3, 0, 0, 0), (45, .goto (-23), 3, 0, 0, 0), (48, .iload_n 2, 1, 0, 0, 0), (49, .ireturn, 1, 0, 0, 0)]
noncomputable def M_cX11_slack : xM := (RX11, yX11_slack, cX11_slack, 5, (some .int), false, 11, [(49, k_cX11_slack_0)])
noncomputable def k_cX11_lucky_0 : List xR := [(0, .aload_n 0, 1, 0, 0, 0), (1, .getfield 10, 3, 11, 0, 0), (4, .iload_n 1, 1, 0, 0, 0), (5, .invokevirtual 133, 3, 15, 1, 0), (8, .ifCond .ne 6, 3, 0, 0, 0), (11, .bipush (-2), 2, 0, 0, 0), (13, .ireturn, 1, 0, 0, 0), (14, .aload_n 0, 1, 0, 0, 0), (15, .getfield 37, 3, 11, 4, 0), (18, .aload_n 0, 1, 0, 0, 0), (19, .getfield 10, 3, 11, 0, 0), (22, .iload_n 1, 1, 0, 0, 0), (23, .invokevirtual 203, 3, 64, 2, 0), (26, .iconst (-1), 1, 0, 0, 0), (27, .istore_n 2, 1, 0, 0, 0), (28, .iconst (-1), 1, 0, 0, 0), (29, .istore_n 3, 1, 0, 0, 0), (30, .iconst 0, 1, 0, 0, 0), (31, .istore 4, 2, 0, 0, 0), (33, .iload 4, 2, 0, 0, 0), (35, .aload_n 0, 1, 0, 0, 0), (36, .getfield 10, 3, 11, 0, 0), (39, .getfield 113, 3, 2, 14, 0), (42, .getfield 159, 3, 3, 0, 0), (45, .if_icmp .ge 56, 3, 0, 0, 0), (48, .aload_n 0, 1, 0, 0, 0), (49, .getfield 30, 3, 11, 3, 0), (52, .aload_n 0, 1, 0, 0, 0), (53, .getfield 10, 3, 11, 0, 0), (56, .iload 4, 2, 0, 0, 0), (58, .invokevirtual 176, 3, 42, 2, 0), (61, .aload_n 0, 1, 0, 0, 0)]
noncomputable def k_cX11_lucky_1 : List xR := [(62, .getfield 47, 3, 11, 6, 0), (65, .aload_n 0, 1, 0, 0, 0), (66, .getfield 10, 3, 11, 0, 0), (69, .aload_n 0, 1, 0, 0, 0), (70, .getfield 30, 3, 11, 3, 0), (73, .aload_n 0, 1, 0, 0, 0), (74, .getfield 37, 3, 11, 4, 0), (77, .iconst (-1), 1, 0, 0, 0), (78, .invokevirtual 254, 3, 100, 4, 0), (81, .istore 5, 2, 0, 0, 0), (83, .iload 5, 2, 0, 0, 0), (85, .iload_n 3, 1, 0, 0, 0), (86, .if_icmp .le 9, 3, 0, 0, 0), (89, .iload 5, 2, 0, 0, 0), (91, .istore_n 3, 1, 0, 0, 0), (92, .iload 4, 2, 0, 0, 0), (94, .istore_n 2, 1, 0, 0, 0), (95, .iinc 4 1, 3, 0, 0, 0), (98, .goto (-65), 3, 0, 0, 0), (101, .iload_n 2, 1, 0, 0, 0), (102, .ireturn, 1, 0, 0, 0)]
noncomputable def M_cX11_lucky : xM := (RX11, yX11_lucky, cX11_lucky, 6, (some .int), false, 11, [(61, k_cX11_lucky_0), (102, k_cX11_lucky_1)])
noncomputable def k_cX11_mean_0 : List xR := [(0, .aload_n 0, 1, 0, 0, 0), (1, .getfield 10, 3, 11, 0, 0), (4, .iload_n 1, 1, 0, 0, 0), (5, .invokevirtual 197, 3, 13, 1, 0), (8, .ifCond .eq 12, 3, 0, 0, 0), (11, .iload_n 2, 1, 0, 0, 0), (12, .ifCond .lt 8, 3, 0, 0, 0), (15, .iload_n 2, 1, 0, 0, 0), (16, .iconst 1, 1, 0, 0, 0), (17, .if_icmp .le 6, 3, 0, 0, 0), (20, .bipush (-2), 2, 0, 0, 0), (22, .ireturn, 1, 0, 0, 0), (23, .aload_n 0, 1, 0, 0, 0), (24, .getfield 10, 3, 11, 0, 0), (27, .invokevirtual 260, 3, 17, 0, 0), (30, .istore_n 3, 1, 0, 0, 0), (31, .iload_n 3, 1, 0, 0, 0), (32, .ifCond .ne 5, 3, 0, 0, 0), (35, .iconst (-1), 1, 0, 0, 0), (36, .ireturn, 1, 0, 0, 0), (37, .iload_n 2, 1, 0, 0, 0), (38, .ifCond .ne 14, 3, 0, 0, 0), (41, .aload_n 0, 1, 0, 0, 0), (42, .getfield 10, 3, 11, 0, 0), (45, .iload_n 1, 1, 0, 0, 0), (46, .invokevirtual 263, 3, 19, 1, 0), (49, .goto 4, 3, 0, 0, 0), (52, .iload_n 3, 1, 0, 0, 0), (53, .ireturn, 1, 0, 0, 0)]
noncomputable def M_cX11_mean : xM := (RX11, yX11_mean, cX11_mean, 4, (some .int), false, 11, [(53, k_cX11_mean_0)])
noncomputable def k_cX11_middle_0 : List xR := [(0, .aload_n 0, 1, 0, 0, 0), (1, .getfield 10, 3, 11, 0, 0), (4, .invokevirtual 173, 3, 11, 0, 0), (7, .ifCond .eq 12, 3, 0, 0, 0), (10, .iload_n 1, 1, 0, 0, 0), (11, .ifCond .lt 8, 3, 0, 0, 0), (14, .iload_n 1, 1, 0, 0, 0), (15, .iconst 1, 1, 0, 0, 0), (16, .if_icmp .le 6, 3, 0, 0, 0), (19, .bipush (-2), 2, 0, 0, 0), (21, .ireturn, 1, 0, 0, 0), (22, .aload_n 0, 1, 0, 0, 0), (23, .getfield 10, 3, 11, 0, 0), (26, .invokevirtual 260, 3, 17, 0, 0), (29, .ifCond .ne 5, 3, 0, 0, 0), (32, .iconst (-1), 1, 0, 0, 0), (33, .ireturn, 1, 0, 0, 0), (34, .iconst 0, 1, 0, 0, 0), (35, .istore_n 2, 1, 0, 0, 0), (36, .aload_n 0, 1, 0, 0, 0), (37, .getfield 10, 3, 11, 0, 0), (40, .iconst 0, 1, 0, 0, 0), (41, .invokevirtual 263, 3, 19, 1, 0), (44, .istore_n 3, 1, 0, 0, 0), (45, .iconst 1, 1, 0, 0, 0), (46, .istore 4, 2, 0, 0, 0), (48, .iload 4, 2, 0, 0, 0), (50, .aload_n 0, 1, 0, 0, 0), (51, .getfield 10, 3, 11, 0, 0), (54, .invokevirtual 251, 3, 12, 0, 0), (57, .if_icmp .ge 45, 3, 0, 0, 0), (60, .aload_n 0, 1, 0, 0, 0)]
noncomputable def k_cX11_middle_1 : List xR := [(61, .getfield 10, 3, 11, 0, 0), (64, .iload 4, 2, 0, 0, 0), (66, .invokevirtual 263, 3, 19, 1, 0), (69, .istore 5, 2, 0, 0, 0), (71, .iload_n 1, 1, 0, 0, 0), (72, .ifCond .ne 12, 3, 0, 0, 0), (75, .iload 5, 2, 0, 0, 0), (77, .iload_n 3, 1, 0, 0, 0), (78, .if_icmp .ge 18, 3, 0, 0, 0), (81, .goto 9, 3, 0, 0, 0), (84, .iload 5, 2, 0, 0, 0), (86, .iload_n 3, 1, 0, 0, 0), (87, .if_icmp .le 9, 3, 0, 0, 0), (90, .iload 5, 2, 0, 0, 0), (92, .istore_n 3, 1, 0, 0, 0), (93, .iload 4, 2, 0, 0, 0), (95, .istore_n 2, 1, 0, 0, 0), (96, .iinc 4 1, 3, 0, 0, 0), (99, .goto (-51), 3, 0, 0, 0), (102, .iload_n 2, 1, 0, 0, 0), (103, .ireturn, 1, 0, 0, 0)]
noncomputable def M_cX11_middle : xM := (RX11, yX11_middle, cX11_middle, 6, (some .int), false, 11, [(60, k_cX11_middle_0), (103, k_cX11_middle_1)])
noncomputable def k_cX11_reach_0 : List xR := [(0, .aload_n 0, 1, 0, 0, 0), (1, .getfield 10, 3, 11, 0, 0), (4, .iload_n 1, 1, 0, 0, 0), (5, .invokevirtual 133, 3, 15, 1, 0), (8, .ifCond .eq 14, 3, 0, 0, 0), (11, .aload_n 0, 1, 0, 0, 0), (12, .getfield 10, 3, 11, 0, 0), (15, .iload_n 2, 1, 0, 0, 0), (16, .invokevirtual 197, 3, 13, 1, 0), (19, .ifCond .ne 6, 3, 0, 0, 0), (22, .bipush (-2), 2, 0, 0, 0), (24, .ireturn, 1, 0, 0, 0), (25, .aload_n 0, 1, 0, 0, 0), (26, .getfield 37, 3, 11, 4, 0), (29, .aload_n 0, 1, 0, 0, 0), (30, .getfield 10, 3, 11, 0, 0), (33, .iload_n 1, 1, 0, 0, 0), (34, .invokevirtual 203, 3, 64, 2, 0), (37, .aload_n 0, 1, 0, 0, 0), (38, .getfield 37, 3, 11, 4, 0), (41, .aload_n 0, 1, 0, 0, 0), (42, .getfield 10, 3, 11, 0, 0), (45, .iload_n 2, 1, 0, 0, 0), (46, .invokevirtual 266, 3, 68, 2, 0), (49, .ireturn, 1, 0, 0, 0)]
noncomputable def M_cX11_reach : xM := (RX11, yX11_reach, cX11_reach, 3, (some .int), false, 11, [(49, k_cX11_reach_0)])
noncomputable def k_cX11_post_0 : List xR := [(0, .aload_n 0, 1, 0, 0, 0), (1, .getfield 10, 3, 11, 0, 0), (4, .iload_n 1, 1, 0, 0, 0), (5, .invokevirtual 133, 3, 15, 1, 0), (8, .ifCond .ne 6, 3, 0, 0, 0), (11, .bipush (-2), 2, 0, 0, 0), (13, .ireturn, 1, 0, 0, 0), (14, .aload_n 0, 1, 0, 0, 0), (15, .getfield 37, 3, 11, 4, 0), (18, .aload_n 0, 1, 0, 0, 0), (19, .getfield 10, 3, 11, 0, 0), (22, .iload_n 1, 1, 0, 0, 0), (23, .invokevirtual 203, 3, 64, 2, 0), (26, .iconst 0, 1, 0, 0, 0), (27, .istore_n 2, 1, 0, 0, 0), (28, .iconst (-1), 1, 0, 0, 0), (29, .istore_n 3, 1, 0, 0, 0), (30, .iconst 0, 1, 0, 0, 0), (31, .istore 4, 2, 0, 0, 0), (33, .iload 4, 2, 0, 0, 0), (35, .aload_n 0, 1, 0, 0, 0), (36, .getfield 10, 3, 11, 0, 0), (39, .invokevirtual 251, 3, 12, 0, 0), (42, .if_icmp .ge 39, 3, 0, 0, 0), (45, .aload_n 0, 1, 0, 0, 0), (46, .getfield 37, 3, 11, 4, 0), (49, .aload_n 0, 1, 0, 0, 0), (50, .getfield 10, 3, 11, 0, 0), (53, .iload 4, 2, 0, 0, 0), (55, .invokevirtual 266, 3, 68, 2, 0), (58, .invokestatic 270, 3, 356, 1, 0), (61, .istore 5, 2, 0, 0, 0)]
noncomputable def k_cX11_post_1 : List xR := [(63, .iload 5, 2, 0, 0, 0), (65, .iload_n 3, 1, 0, 0, 0), (66, .if_icmp .le 9, 3, 0, 0, 0), (69, .iload 5, 2, 0, 0, 0), (71, .istore_n 3, 1, 0, 0, 0), (72, .iload 4, 2, 0, 0, 0), (74, .istore_n 2, 1, 0, 0, 0), (75, .iinc 4 1, 3, 0, 0, 0), (78, .goto (-45), 3, 0, 0, 0), (81, .iload_n 2, 1, 0, 0, 0), (82, .ireturn, 1, 0, 0, 0)]
noncomputable def M_cX11_post : xM := (RX11, yX11_post, cX11_post, 6, (some .int), false, 11, [(61, k_cX11_post_0), (82, k_cX11_post_1)])
noncomputable def k_cX11_rows_0 : List xR := [(0, .aload_n 0, 1, 0, 0, 0), (1, .iload_n 1, 1, 0, 0, 0), (2, .iload_n 2, 1, 0, 0, 0), (3, .invokevirtual 275, 3, 192, 2, 0), (6, .ifCond .eq 17, 3, 0, 0, 0), (9, .aload_n 0, 1, 0, 0, 0), (10, .getfield 61, 3, 11, 8, 0), (13, .aload_n 0, 1, 0, 0, 0), (14, .getfield 10, 3, 11, 0, 0), (17, .invokevirtual 279, 3, 61, 1, 0), (20, .goto 6, 3, 0, 0, 0), (23, .ldc2_w 283, 3, 18446744073709551614, 0, 0), (26, .lreturn, 1, 0, 0, 0)]
noncomputable def M_cX11_rows : xM := (RX11, yX11_rows, cX11_rows, 3, (some .long), false, 11, [(26, k_cX11_rows_0)])
noncomputable def k_cX11_ends_0 : List xR := [(0, .aload_n 0, 1, 0, 0, 0), (1, .getfield 10, 3, 11, 0, 0), (4, .iload_n 3, 1, 0, 0, 0), (5, .invokevirtual 197, 3, 13, 1, 0), (8, .ifCond .eq 27, 3, 0, 0, 0), (11, .aload_n 0, 1, 0, 0, 0), (12, .iload_n 1, 1, 0, 0, 0), (13, .iload_n 2, 1, 0, 0, 0), (14, .invokevirtual 275, 3, 192, 2, 0), (17, .ifCond .eq 18, 3, 0, 0, 0), (20, .aload_n 0, 1, 0, 0, 0), (21, .getfield 61, 3, 11, 8, 0), (24, .aload_n 0, 1, 0, 0, 0), (25, .getfield 10, 3, 11, 0, 0), (28, .iload_n 3, 1, 0, 0, 0), (29, .invokevirtual 285, 3, 60, 2, 0), (32, .goto 6, 3, 0, 0, 0), (35, .ldc2_w 283, 3, 18446744073709551614, 0, 0), (38, .lreturn, 1, 0, 0, 0)]
noncomputable def M_cX11_ends : xM := (RX11, yX11_ends, cX11_ends, 4, (some .long), false, 11, [(38, k_cX11_ends_0)])
noncomputable def k_cX11_fair_0 : List xR := [(0, .aload_n 0, 1, 0, 0, 0), (1, .getfield 10, 3, 11, 0, 0), (4, .invokevirtual 173, 3, 11, 0, 0), (7, .ifCond .eq 10, 3, 0, 0, 0), (10, .iload_n 1, 1, 0, 0, 0), (11, .invokestatic 289, 3, 183, 1, 0), (14, .ifCond .ne 6, 3, 0, 0, 0), (17, .bipush (-2), 2, 0, 0, 0), (19, .ireturn, 1, 0, 0, 0), (20, .aload_n 0, 1, 0, 0, 0), (21, .getfield 61, 3, 11, 8, 0), (24, .aload_n 0, 1, 0, 0, 0), (25, .getfield 10, 3, 11, 0, 0), (28, .invokevirtual 292, 3, 54, 1, 0), (31, .aload_n 0, 1, 0, 0, 0), (32, .getfield 61, 3, 11, 8, 0), (35, .aload_n 0, 1, 0, 0, 0), (36, .getfield 10, 3, 11, 0, 0), (39, .invokevirtual 295, 3, 62, 1, 0), (42, .istore_n 2, 1, 0, 0, 0), (43, .iconst 2, 1, 0, 0, 0), (44, .istore_n 3, 1, 0, 0, 0), (45, .iload_n 3, 1, 0, 0, 0), (46, .bipush 12, 2, 0, 0, 0), (48, .if_icmp .gt 37, 3, 0, 0, 0), (51, .iload_n 2, 1, 0, 0, 0), (52, .ifCond .eq 33, 3, 0, 0, 0), (55, .aload_n 0, 1, 0, 0, 0), (56, .getfield 61, 3, 11, 8, 0), (59, .aload_n 0, 1, 0, 0, 0), (60, .getfield 10, 3, 11, 0, 0), (63, .iload_n 1, 1, 0, 0, 0)]
noncomputable def k_cX11_fair_1 : List xR := [(64, .invokevirtual 299, 3, 55, 2, 0), (67, .aload_n 0, 1, 0, 0, 0), (68, .getfield 61, 3, 11, 8, 0), (71, .aload_n 0, 1, 0, 0, 0), (72, .getfield 10, 3, 11, 0, 0), (75, .invokevirtual 295, 3, 62, 1, 0), (78, .istore_n 2, 1, 0, 0, 0), (79, .iinc 3 1, 3, 0, 0, 0), (82, .goto (-37), 3, 0, 0, 0), (85, .iload_n 2, 1, 0, 0, 0), (86, .ifCond .eq 7, 3, 0, 0, 0), (89, .iconst 1, 1, 0, 0, 0), (90, .goto 4, 3, 0, 0, 0), (93, .iconst 0, 1, 0, 0, 0), (94, .ireturn, 1, 0, 0, 0)]
noncomputable def M_cX11_fair : xM := (RX11, yX11_fair, cX11_fair, 4, (some .int), false, 11, [(63, k_cX11_fair_0), (94, k_cX11_fair_1)])
noncomputable def k_cX11_breaks_0 : List xR := [(0, .aload_n 0, 1, 0, 0, 0), (1, .getfield 10, 3, 11, 0, 0), (4, .invokevirtual 173, 3, 11, 0, 0), (7, .ifCond .eq 10, 3, 0, 0, 0), (10, .iload_n 1, 1, 0, 0, 0), (11, .invokestatic 289, 3, 183, 1, 0), (14, .ifCond .ne 6, 3, 0, 0, 0), (17, .bipush (-2), 2, 0, 0, 0), (19, .ireturn, 1, 0, 0, 0), (20, .aload_n 0, 1, 0, 0, 0), (21, .getfield 10, 3, 11, 0, 0), (24, .getfield 113, 3, 2, 14, 0), (27, .astore_n 2, 1, 0, 0, 0), (28, .iconst 0, 1, 0, 0, 0), (29, .istore_n 3, 1, 0, 0, 0), (30, .iload_n 3, 1, 0, 0, 0), (31, .aload_n 2, 1, 0, 0, 0), (32, .getfield 159, 3, 3, 0, 0), (35, .if_icmp .ge 41, 3, 0, 0, 0), (38, .aload_n 0, 1, 0, 0, 0), (39, .getfield 10, 3, 11, 0, 0), (42, .iload_n 1, 1, 0, 0, 0), (43, .aload_n 2, 1, 0, 0, 0), (44, .iload_n 3, 1, 0, 0, 0), (45, .iconst 2, 1, 0, 0, 0), (46, .isub, 1, 0, 0, 0), (47, .invokevirtual 302, 3, 35, 1, 0), (50, .aload_n 2, 1, 0, 0, 0), (51, .iload_n 3, 1, 0, 0, 0), (52, .iconst 1, 1, 0, 0, 0), (53, .isub, 1, 0, 0, 0), (54, .invokevirtual 302, 3, 35, 1, 0)]
noncomputable def k_cX11_breaks_1 : List xR := [(57, .aload_n 2, 1, 0, 0, 0), (58, .iload_n 3, 1, 0, 0, 0), (59, .invokevirtual 302, 3, 35, 1, 0), (62, .invokevirtual 305, 3, 27, 4, 0), (65, .ifCond .ne 5, 3, 0, 0, 0), (68, .iload_n 3, 1, 0, 0, 0), (69, .ireturn, 1, 0, 0, 0), (70, .iinc 3 1, 3, 0, 0, 0), (73, .goto (-43), 3, 0, 0, 0), (76, .iconst (-1), 1, 0, 0, 0), (77, .ireturn, 1, 0, 0, 0)]
noncomputable def M_cX11_breaks : xM := (RX11, yX11_breaks, cX11_breaks, 4, (some .int), false, 11, [(54, k_cX11_breaks_0), (77, k_cX11_breaks_1)])
noncomputable def k_cX11_period_0 : List xR := [(0, .aload_n 0, 1, 0, 0, 0), (1, .iload_n 1, 1, 0, 0, 0), (2, .invokevirtual 309, 3, 193, 1, 0), (5, .istore_n 2, 1, 0, 0, 0), (6, .iload_n 2, 1, 0, 0, 0), (7, .ifCond .ne 15, 3, 0, 0, 0), (10, .aload_n 0, 1, 0, 0, 0), (11, .getfield 74, 3, 11, 10, 0), (14, .iload_n 1, 1, 0, 0, 0), (15, .aaload, 1, 0, 0, 0), (16, .invokevirtual 312, 3, 97, 0, 0), (19, .goto 4, 3, 0, 0, 0), (22, .iload_n 2, 1, 0, 0, 0), (23, .ireturn, 1, 0, 0, 0)]
noncomputable def M_cX11_period : xM := (RX11, yX11_period, cX11_period, 3, (some .int), false, 11, [(23, k_cX11_period_0)])
noncomputable def k_cX11_periods_0 : List xR := [(0, .aload_n 0, 1, 0, 0, 0), (1, .iload_n 1, 1, 0, 0, 0), (2, .invokevirtual 309, 3, 193, 1, 0), (5, .istore_n 2, 1, 0, 0, 0), (6, .iload_n 2, 1, 0, 0, 0), (7, .ifCond .ne 15, 3, 0, 0, 0), (10, .aload_n 0, 1, 0, 0, 0), (11, .getfield 74, 3, 11, 10, 0), (14, .iload_n 1, 1, 0, 0, 0), (15, .aaload, 1, 0, 0, 0), (16, .invokevirtual 315, 3, 98, 0, 0), (19, .goto 4, 3, 0, 0, 0), (22, .iload_n 2, 1, 0, 0, 0), (23, .ireturn, 1, 0, 0, 0)]
noncomputable def M_cX11_periods : xM := (RX11, yX11_periods, cX11_periods, 3, (some .int), false, 11, [(23, k_cX11_periods_0)])
noncomputable def k_cX11_luck_0 : List xR := [(0, .aload_n 0, 1, 0, 0, 0), (1, .iload_n 1, 1, 0, 0, 0), (2, .invokevirtual 309, 3, 193, 1, 0), (5, .istore_n 2, 1, 0, 0, 0), (6, .iload_n 2, 1, 0, 0, 0), (7, .ifCond .eq 5, 3, 0, 0, 0), (10, .iload_n 2, 1, 0, 0, 0), (11, .ireturn, 1, 0, 0, 0), (12, .aload_n 0, 1, 0, 0, 0), (13, .getfield 74, 3, 11, 10, 0), (16, .iload_n 1, 1, 0, 0, 0), (17, .aaload, 1, 0, 0, 0), (18, .invokevirtual 312, 3, 97, 0, 0), (21, .istore_n 3, 1, 0, 0, 0), (22, .iload_n 3, 1, 0, 0, 0), (23, .iconst (-1), 1, 0, 0, 0), (24, .if_icmp .ne 5, 3, 0, 0, 0), (27, .iconst (-1), 1, 0, 0, 0), (28, .ireturn, 1, 0, 0, 0), (29, .lconst 1, 1, 0, 0, 0), (30, .lstore 4, 2, 0, 0, 0), (32, .aload_n 0, 1, 0, 0, 0), (33, .getfield 10, 3, 11, 0, 0), (36, .invokevirtual 260, 3, 17, 0, 0), (39, .istore 6, 2, 0, 0, 0), (41, .iload_n 3, 1, 0, 0, 0), (42, .istore 7, 2, 0, 0, 0), (44, .iload 7, 2, 0, 0, 0), (46, .aload_n 0, 1, 0, 0, 0), (47, .getfield 74, 3, 11, 10, 0), (50, .iload_n 1, 1, 0, 0, 0), (51, .aaload, 1, 0, 0, 0)]
noncomputable def k_cX11_luck_1 : List xR := [(52, .getfield 318, 3, 8, 0, 0), (55, .if_icmp .ge 26, 3, 0, 0, 0), (58, .lload 4, 2, 0, 0, 0), (60, .ldc2_w 319, 3, 1000000000, 0, 0), (63, .lcmp, 1, 0, 0, 0), (64, .ifCond .gt 17, 3, 0, 0, 0), (67, .lload 4, 2, 0, 0, 0), (69, .iload 6, 2, 0, 0, 0), (71, .i2l, 1, 0, 0, 0), (72, .lmul, 1, 0, 0, 0), (73, .lstore 4, 2, 0, 0, 0), (75, .iinc 7 1, 3, 0, 0, 0), (78, .goto (-34), 3, 0, 0, 0), (81, .lload 4, 2, 0, 0, 0), (83, .ldc2_w 319, 3, 1000000000, 0, 0), (86, .lcmp, 1, 0, 0, 0), (87, .ifCond .le 7, 3, 0, 0, 0), (90, .iconst (-1), 1, 0, 0, 0), (91, .goto 6, 3, 0, 0, 0), (94, .lload 4, 2, 0, 0, 0), (96, .l2i, 1, 0, 0, 0), (97, .ireturn, 1, 0, 0, 0)]
noncomputable def M_cX11_luck : xM := (RX11, yX11_luck, cX11_luck, 8, (some .int), false, 11, [(51, k_cX11_luck_0), (97, k_cX11_luck_1)])
noncomputable def k_cX11_fits_0 : List xR := [(0, .aload_n 0, 1, 0, 0, 0), (1, .iload_n 1, 1, 0, 0, 0), (2, .invokevirtual 309, 3, 193, 1, 0), (5, .istore_n 2, 1, 0, 0, 0), (6, .iload_n 2, 1, 0, 0, 0), (7, .ifCond .eq 5, 3, 0, 0, 0), (10, .iload_n 2, 1, 0, 0, 0), (11, .ireturn, 1, 0, 0, 0), (12, .iconst 0, 1, 0, 0, 0), (13, .istore_n 3, 1, 0, 0, 0), (14, .iconst 0, 1, 0, 0, 0), (15, .istore 4, 2, 0, 0, 0), (17, .iload 4, 2, 0, 0, 0), (19, .aload_n 0, 1, 0, 0, 0), (20, .getfield 10, 3, 11, 0, 0), (23, .getfield 113, 3, 2, 14, 0), (26, .getfield 159, 3, 3, 0, 0), (29, .if_icmp .ge 33, 3, 0, 0, 0), (32, .aload_n 0, 1, 0, 0, 0), (33, .getfield 10, 3, 11, 0, 0), (36, .getfield 113, 3, 2, 14, 0), (39, .iload 4, 2, 0, 0, 0), (41, .aload_n 0, 1, 0, 0, 0), (42, .getfield 74, 3, 11, 10, 0), (45, .iload_n 1, 1, 0, 0, 0), (46, .aaload, 1, 0, 0, 0), (47, .invokevirtual 321, 3, 37, 2, 0), (50, .ifCond .eq 6, 3, 0, 0, 0), (53, .iinc 3 1, 3, 0, 0, 0), (56, .iinc 4 1, 3, 0, 0, 0), (59, .goto (-42), 3, 0, 0, 0), (62, .iload_n 3, 1, 0, 0, 0)]
noncomputable def k_cX11_fits_1 : List xR := [(63, .ireturn, 1, 0, 0, 0)]
noncomputable def M_cX11_fits : xM := (RX11, yX11_fits, cX11_fits, 5, (some .int), false, 11, [(62, k_cX11_fits_0), (63, k_cX11_fits_1)])
noncomputable def k_cX11_place_0 : List xR := [(0, .aload_n 0, 1, 0, 0, 0), (1, .iload_n 1, 1, 0, 0, 0), (2, .invokevirtual 309, 3, 193, 1, 0), (5, .istore_n 3, 1, 0, 0, 0), (6, .iload_n 3, 1, 0, 0, 0), (7, .ifCond .eq 5, 3, 0, 0, 0), (10, .iload_n 3, 1, 0, 0, 0), (11, .ireturn, 1, 0, 0, 0), (12, .iconst 0, 1, 0, 0, 0), (13, .istore 4, 2, 0, 0, 0), (15, .iconst 0, 1, 0, 0, 0), (16, .istore 5, 2, 0, 0, 0), (18, .iload 5, 2, 0, 0, 0), (20, .aload_n 0, 1, 0, 0, 0), (21, .getfield 10, 3, 11, 0, 0), (24, .getfield 113, 3, 2, 14, 0), (27, .getfield 159, 3, 3, 0, 0), (30, .if_icmp .ge 42, 3, 0, 0, 0), (33, .aload_n 0, 1, 0, 0, 0), (34, .getfield 10, 3, 11, 0, 0), (37, .getfield 113, 3, 2, 14, 0), (40, .iload 5, 2, 0, 0, 0), (42, .aload_n 0, 1, 0, 0, 0), (43, .getfield 74, 3, 11, 10, 0), (46, .iload_n 1, 1, 0, 0, 0), (47, .aaload, 1, 0, 0, 0), (48, .invokevirtual 321, 3, 37, 2, 0), (51, .ifCond .eq 15, 3, 0, 0, 0), (54, .iload 4, 2, 0, 0, 0), (56, .iload_n 2, 1, 0, 0, 0), (57, .if_icmp .ne 6, 3, 0, 0, 0), (60, .iload 5, 2, 0, 0, 0)]
noncomputable def k_cX11_place_1 : List xR := [(62, .ireturn, 1, 0, 0, 0), (63, .iinc 4 1, 3, 0, 0, 0), (66, .iinc 5 1, 3, 0, 0, 0), (69, .goto (-51), 3, 0, 0, 0), (72, .iconst (-1), 1, 0, 0, 0), (73, .ireturn, 1, 0, 0, 0)]
noncomputable def M_cX11_place : xM := (RX11, yX11_place, cX11_place, 6, (some .int), false, 11, [(60, k_cX11_place_0), (73, k_cX11_place_1)])
noncomputable def k_cX11_next_0 : List xR := [(0, .aload_n 0, 1, 0, 0, 0), (1, .iload_n 1, 1, 0, 0, 0), (2, .invokevirtual 309, 3, 193, 1, 0), (5, .istore_n 2, 1, 0, 0, 0), (6, .iload_n 2, 1, 0, 0, 0), (7, .ifCond .eq 5, 3, 0, 0, 0), (10, .iload_n 2, 1, 0, 0, 0), (11, .ireturn, 1, 0, 0, 0), (12, .iconst (-1), 1, 0, 0, 0), (13, .istore_n 3, 1, 0, 0, 0), (14, .iconst 0, 1, 0, 0, 0), (15, .istore 4, 2, 0, 0, 0), (17, .iload 4, 2, 0, 0, 0), (19, .aload_n 0, 1, 0, 0, 0), (20, .getfield 10, 3, 11, 0, 0), (23, .getfield 113, 3, 2, 14, 0), (26, .getfield 159, 3, 3, 0, 0), (29, .if_icmp .ge 70, 3, 0, 0, 0), (32, .aload_n 0, 1, 0, 0, 0), (33, .getfield 10, 3, 11, 0, 0), (36, .getfield 113, 3, 2, 14, 0), (39, .iload 4, 2, 0, 0, 0), (41, .aload_n 0, 1, 0, 0, 0), (42, .getfield 74, 3, 11, 10, 0), (45, .iload_n 1, 1, 0, 0, 0), (46, .aaload, 1, 0, 0, 0), (47, .invokevirtual 321, 3, 37, 2, 0), (50, .ifCond .eq 43, 3, 0, 0, 0), (53, .aload_n 0, 1, 0, 0, 0), (54, .getfield 10, 3, 11, 0, 0), (57, .getfield 113, 3, 2, 14, 0), (60, .iload 4, 2, 0, 0, 0)]
noncomputable def k_cX11_next_1 : List xR := [(62, .aload_n 0, 1, 0, 0, 0), (63, .getfield 74, 3, 11, 10, 0), (66, .iload_n 1, 1, 0, 0, 0), (67, .aaload, 1, 0, 0, 0), (68, .getfield 318, 3, 8, 0, 0), (71, .iadd, 1, 0, 0, 0), (72, .invokevirtual 302, 3, 35, 1, 0), (75, .istore 5, 2, 0, 0, 0), (77, .iload_n 3, 1, 0, 0, 0), (78, .iconst (-1), 1, 0, 0, 0), (79, .if_icmp .eq 11, 3, 0, 0, 0), (82, .iload_n 3, 1, 0, 0, 0), (83, .iload 5, 2, 0, 0, 0), (85, .if_icmp .eq 5, 3, 0, 0, 0), (88, .iconst (-1), 1, 0, 0, 0), (89, .ireturn, 1, 0, 0, 0), (90, .iload 5, 2, 0, 0, 0), (92, .istore_n 3, 1, 0, 0, 0), (93, .iinc 4 1, 3, 0, 0, 0), (96, .goto (-79), 3, 0, 0, 0), (99, .iload_n 3, 1, 0, 0, 0), (100, .ireturn, 1, 0, 0, 0)]
noncomputable def M_cX11_next : xM := (RX11, yX11_next, cX11_next, 6, (some .int), false, 11, [(60, k_cX11_next_0), (100, k_cX11_next_1)])
noncomputable def k_cX11_needed_0 : List xR := [(0, .aload_n 0, 1, 0, 0, 0), (1, .getfield 10, 3, 11, 0, 0), (4, .getfield 113, 3, 2, 14, 0), (7, .iload_n 1, 1, 0, 0, 0), (8, .invokevirtual 117, 3, 31, 1, 0), (11, .ifCond .eq 17, 3, 0, 0, 0), (14, .aload_n 0, 1, 0, 0, 0), (15, .getfield 10, 3, 11, 0, 0), (18, .getfield 113, 3, 2, 14, 0), (21, .iload_n 1, 1, 0, 0, 0), (22, .invokevirtual 325, 3, 38, 1, 0), (25, .goto 5, 3, 0, 0, 0), (28, .bipush (-2), 2, 0, 0, 0), (30, .ireturn, 1, 0, 0, 0)]
noncomputable def M_cX11_needed : xM := (RX11, yX11_needed, cX11_needed, 2, (some .int), false, 11, [(30, k_cX11_needed_0)])
noncomputable def k_cX11_known_0 : List xR := [(0, .aload_n 0, 1, 0, 0, 0), (1, .getfield 10, 3, 11, 0, 0), (4, .invokevirtual 173, 3, 11, 0, 0), (7, .ifCond .ne 6, 3, 0, 0, 0), (10, .bipush (-2), 2, 0, 0, 0), (12, .ireturn, 1, 0, 0, 0), (13, .iconst (-1), 1, 0, 0, 0), (14, .istore_n 1, 1, 0, 0, 0), (15, .iconst 0, 1, 0, 0, 0), (16, .istore_n 2, 1, 0, 0, 0), (17, .iload_n 2, 1, 0, 0, 0), (18, .aload_n 0, 1, 0, 0, 0), (19, .getfield 10, 3, 11, 0, 0), (22, .getfield 113, 3, 2, 14, 0), (25, .getfield 159, 3, 3, 0, 0), (28, .if_icmp .ge 34, 3, 0, 0, 0), (31, .aload_n 0, 1, 0, 0, 0), (32, .getfield 10, 3, 11, 0, 0), (35, .getfield 113, 3, 2, 14, 0), (38, .iload_n 2, 1, 0, 0, 0), (39, .invokevirtual 325, 3, 38, 1, 0), (42, .istore_n 3, 1, 0, 0, 0), (43, .iload_n 3, 1, 0, 0, 0), (44, .iconst (-1), 1, 0, 0, 0), (45, .if_icmp .ne 5, 3, 0, 0, 0), (48, .iconst (-1), 1, 0, 0, 0), (49, .ireturn, 1, 0, 0, 0), (50, .iload_n 1, 1, 0, 0, 0), (51, .iload_n 3, 1, 0, 0, 0), (52, .invokestatic 328, 3, 9001, 2, 0), (55, .istore_n 1, 1, 0, 0, 0), (56, .iinc 2 1, 3, 0, 0, 0)]
noncomputable def k_cX11_known_1 : List xR := [(59, .goto (-42), 3, 0, 0, 0), (62, .iload_n 1, 1, 0, 0, 0), (63, .ireturn, 1, 0, 0, 0)]
noncomputable def M_cX11_known : xM := (RX11, yX11_known, cX11_known, 4, (some .int), false, 11, [(56, k_cX11_known_0), (63, k_cX11_known_1)])
noncomputable def k_cX11_rash_0 : List xR := [(0, .aload_n 0, 1, 0, 0, 0), (1, .iload_n 1, 1, 0, 0, 0), (2, .invokevirtual 209, 3, 186, 1, 0), (5, .ifCond .eq 25, 3, 0, 0, 0), (8, .aload_n 0, 1, 0, 0, 0), (9, .getfield 47, 3, 11, 6, 0), (12, .aload_n 0, 1, 0, 0, 0), (13, .getfield 10, 3, 11, 0, 0), (16, .aload_n 0, 1, 0, 0, 0), (17, .getfield 30, 3, 11, 3, 0), (20, .aload_n 0, 1, 0, 0, 0), (21, .getfield 37, 3, 11, 4, 0), (24, .invokevirtual 333, 3, 101, 3, 0), (27, .goto 6, 3, 0, 0, 0), (30, .sipush (-2000), 3, 0, 0, 0), (33, .ireturn, 1, 0, 0, 0)]
noncomputable def M_cX11_rash : xM := (RX11, yX11_rash, cX11_rash, 2, (some .int), false, 11, [(33, k_cX11_rash_0)])
noncomputable def k_cX11_look_0 : List xR := [(0, .iload_n 2, 1, 0, 0, 0), (1, .ifCond .lt 17, 3, 0, 0, 0), (4, .iload_n 2, 1, 0, 0, 0), (5, .bipush 20, 2, 0, 0, 0), (7, .if_icmp .gt 11, 3, 0, 0, 0), (10, .aload_n 0, 1, 0, 0, 0), (11, .iload_n 1, 1, 0, 0, 0), (12, .invokevirtual 209, 3, 186, 1, 0), (15, .ifCond .ne 7, 3, 0, 0, 0), (18, .sipush (-2000), 3, 0, 0, 0), (21, .ireturn, 1, 0, 0, 0), (22, .aload_n 0, 1, 0, 0, 0), (23, .aload_n 0, 1, 0, 0, 0), (24, .getfield 10, 3, 11, 0, 0), (27, .iload_n 1, 1, 0, 0, 0), (28, .iconst 1, 1, 0, 0, 0), (29, .invokevirtual 136, 3, 24, 2, 0), (32, .iload_n 2, 1, 0, 0, 0), (33, .iadd, 1, 0, 0, 0), (34, .invokevirtual 337, 3, 190, 1, 0), (37, .ireturn, 1, 0, 0, 0)]
noncomputable def M_cX11_look : xM := (RX11, yX11_look, cX11_look, 3, (some .int), false, 11, [(37, k_cX11_look_0)])
noncomputable def k_cX11_line_0 : List xR := [(0, .aload_n 0, 1, 0, 0, 0), (1, .iload_n 1, 1, 0, 0, 0), (2, .invokevirtual 209, 3, 186, 1, 0), (5, .ifCond .ne 6, 3, 0, 0, 0), (8, .bipush (-2), 2, 0, 0, 0), (10, .ireturn, 1, 0, 0, 0), (11, .aload_n 0, 1, 0, 0, 0), (12, .getfield 47, 3, 11, 6, 0), (15, .aload_n 0, 1, 0, 0, 0), (16, .getfield 10, 3, 11, 0, 0), (19, .aload_n 0, 1, 0, 0, 0), (20, .getfield 30, 3, 11, 3, 0), (23, .aload_n 0, 1, 0, 0, 0), (24, .getfield 37, 3, 11, 4, 0), (27, .invokevirtual 333, 3, 101, 3, 0), (30, .istore_n 2, 1, 0, 0, 0), (31, .aload_n 0, 1, 0, 0, 0), (32, .getfield 10, 3, 11, 0, 0), (35, .iload_n 1, 1, 0, 0, 0), (36, .iconst 1, 1, 0, 0, 0), (37, .invokevirtual 136, 3, 24, 2, 0), (40, .istore_n 3, 1, 0, 0, 0), (41, .bipush 20, 2, 0, 0, 0), (43, .istore 4, 2, 0, 0, 0), (45, .iload 4, 2, 0, 0, 0), (47, .ifCond .lt 24, 3, 0, 0, 0), (50, .aload_n 0, 1, 0, 0, 0), (51, .iload_n 3, 1, 0, 0, 0), (52, .iload 4, 2, 0, 0, 0), (54, .iadd, 1, 0, 0, 0), (55, .invokevirtual 337, 3, 190, 1, 0), (58, .iload_n 2, 1, 0, 0, 0)]
noncomputable def k_cX11_line_1 : List xR := [(59, .if_icmp .lt 6, 3, 0, 0, 0), (62, .iload 4, 2, 0, 0, 0), (64, .ireturn, 1, 0, 0, 0), (65, .iinc 4 (-1), 3, 0, 0, 0), (68, .goto (-23), 3, 0, 0, 0), (71, .iconst (-1), 1, 0, 0, 0), (72, .ireturn, 1, 0, 0, 0)]
noncomputable def M_cX11_line : xM := (RX11, yX11_line, cX11_line, 5, (some .int), false, 11, [(58, k_cX11_line_0), (72, k_cX11_line_1)])
noncomputable def k_cX11_two_0 : List xR := [(0, .iload_n 3, 1, 0, 0, 0), (1, .ifCond .lt 32, 3, 0, 0, 0), (4, .iload_n 3, 1, 0, 0, 0), (5, .iconst 1, 1, 0, 0, 0), (6, .if_icmp .gt 27, 3, 0, 0, 0), (9, .iload_n 1, 1, 0, 0, 0), (10, .iload_n 2, 1, 0, 0, 0), (11, .if_icmp .eq 22, 3, 0, 0, 0), (14, .aload_n 0, 1, 0, 0, 0), (15, .getfield 10, 3, 11, 0, 0), (18, .iload_n 2, 1, 0, 0, 0), (19, .invokevirtual 133, 3, 15, 1, 0), (22, .ifCond .eq 11, 3, 0, 0, 0), (25, .aload_n 0, 1, 0, 0, 0), (26, .iload_n 1, 1, 0, 0, 0), (27, .invokevirtual 209, 3, 186, 1, 0), (30, .ifCond .ne 6, 3, 0, 0, 0), (33, .bipush (-2), 2, 0, 0, 0), (35, .ireturn, 1, 0, 0, 0), (36, .aload_n 0, 1, 0, 0, 0), (37, .getfield 41, 3, 11, 5, 0), (40, .aload_n 0, 1, 0, 0, 0), (41, .getfield 10, 3, 11, 0, 0), (44, .iload_n 2, 1, 0, 0, 0), (45, .invokevirtual 203, 3, 64, 2, 0), (48, .aload_n 0, 1, 0, 0, 0), (49, .getfield 30, 3, 11, 3, 0), (52, .invokevirtual 340, 3, 50, 0, 0), (55, .istore 4, 2, 0, 0, 0), (57, .aload_n 0, 1, 0, 0, 0), (58, .getfield 30, 3, 11, 3, 0), (61, .iload 4, 2, 0, 0, 0)]
noncomputable def k_cX11_two_1 : List xR := [(63, .invokevirtual 343, 3, 51, 1, 0), (66, .istore 5, 2, 0, 0, 0), (68, .iconst (-1), 1, 0, 0, 0), (69, .istore 6, 2, 0, 0, 0), (71, .iconst 0, 1, 0, 0, 0), (72, .istore 7, 2, 0, 0, 0), (74, .iconst 0, 1, 0, 0, 0), (75, .istore 8, 2, 0, 0, 0), (77, .iload 8, 2, 0, 0, 0), (79, .iload 4, 2, 0, 0, 0), (81, .if_icmp .gt 120, 3, 0, 0, 0), (84, .iload 6, 2, 0, 0, 0), (86, .iload 5, 2, 0, 0, 0), (88, .if_icmp .ge 113, 3, 0, 0, 0), (91, .iload 8, 2, 0, 0, 0), (93, .iload 4, 2, 0, 0, 0), (95, .iconst (-1), 1, 0, 0, 0), (96, .ixor, 1, 0, 0, 0), (97, .iand, 1, 0, 0, 0), (98, .ifCond .eq 6, 3, 0, 0, 0), (101, .goto 94, 3, 0, 0, 0), (104, .aload_n 0, 1, 0, 0, 0), (105, .getfield 47, 3, 11, 6, 0), (108, .aload_n 0, 1, 0, 0, 0), (109, .getfield 10, 3, 11, 0, 0), (112, .aload_n 0, 1, 0, 0, 0), (113, .getfield 30, 3, 11, 3, 0), (116, .aload_n 0, 1, 0, 0, 0), (117, .getfield 37, 3, 11, 4, 0), (120, .iload 8, 2, 0, 0, 0), (122, .invokevirtual 254, 3, 100, 4, 0), (125, .istore 9, 2, 0, 0, 0)]
noncomputable def k_cX11_two_2 : List xR := [(127, .iload 9, 2, 0, 0, 0), (129, .aload_n 0, 1, 0, 0, 0), (130, .getfield 30, 3, 11, 3, 0), (133, .iload 4, 2, 0, 0, 0), (135, .iload 8, 2, 0, 0, 0), (137, .iconst (-1), 1, 0, 0, 0), (138, .ixor, 1, 0, 0, 0), (139, .iand, 1, 0, 0, 0), (140, .invokevirtual 343, 3, 51, 1, 0), (143, .iadd, 1, 0, 0, 0), (144, .iload 6, 2, 0, 0, 0), (146, .if_icmp .le 49, 3, 0, 0, 0), (149, .iload 9, 2, 0, 0, 0), (151, .aload_n 0, 1, 0, 0, 0), (152, .getfield 47, 3, 11, 6, 0), (155, .aload_n 0, 1, 0, 0, 0), (156, .getfield 10, 3, 11, 0, 0), (159, .aload_n 0, 1, 0, 0, 0), (160, .getfield 30, 3, 11, 3, 0), (163, .aload_n 0, 1, 0, 0, 0), (164, .getfield 41, 3, 11, 5, 0), (167, .iload 4, 2, 0, 0, 0), (169, .iload 8, 2, 0, 0, 0), (171, .iconst (-1), 1, 0, 0, 0), (172, .ixor, 1, 0, 0, 0), (173, .iand, 1, 0, 0, 0), (174, .invokevirtual 254, 3, 100, 4, 0), (177, .iadd, 1, 0, 0, 0), (178, .istore 9, 2, 0, 0, 0), (180, .iload 9, 2, 0, 0, 0), (182, .iload 6, 2, 0, 0, 0), (184, .if_icmp .le 11, 3, 0, 0, 0)]
noncomputable def k_cX11_two_3 : List xR := [(187, .iload 9, 2, 0, 0, 0), (189, .istore 6, 2, 0, 0, 0), (191, .iload 8, 2, 0, 0, 0), (193, .istore 7, 2, 0, 0, 0), (195, .iinc 8 1, 3, 0, 0, 0), (198, .goto (-121), 3, 0, 0, 0), (201, .iload_n 3, 1, 0, 0, 0), (202, .ifCond .ne 8, 3, 0, 0, 0), (205, .iload 6, 2, 0, 0, 0), (207, .goto 5, 3, 0, 0, 0), (210, .iload 7, 2, 0, 0, 0), (212, .ireturn, 1, 0, 0, 0)]
noncomputable def M_cX11_two : xM := (RX11, yX11_two, cX11_two, 10, (some .int), false, 11, [(61, k_cX11_two_0), (125, k_cX11_two_1), (184, k_cX11_two_2), (212, k_cX11_two_3)])
noncomputable def k_cX11_tickets_0 : List xR := [(0, .aload_n 0, 1, 0, 0, 0), (1, .iload_n 1, 1, 0, 0, 0), (2, .invokevirtual 216, 3, 187, 1, 0), (5, .ifCond .eq 10, 3, 0, 0, 0), (8, .aload_n 0, 1, 0, 0, 0), (9, .invokevirtual 346, 3, 191, 0, 0), (12, .goto 5, 3, 0, 0, 0), (15, .bipush (-2), 2, 0, 0, 0), (17, .ireturn, 1, 0, 0, 0)]
noncomputable def M_cX11_tickets : xM := (RX11, yX11_tickets, cX11_tickets, 2, (some .int), false, 11, [(17, k_cX11_tickets_0)])
noncomputable def k_cX11_prize_0 : List xR := [(0, .aload_n 0, 1, 0, 0, 0), (1, .iload_n 1, 1, 0, 0, 0), (2, .invokevirtual 216, 3, 187, 1, 0), (5, .ifCond .ne 6, 3, 0, 0, 0), (8, .bipush (-2), 2, 0, 0, 0), (10, .ireturn, 1, 0, 0, 0), (11, .aload_n 0, 1, 0, 0, 0), (12, .invokevirtual 346, 3, 191, 0, 0), (15, .istore_n 2, 1, 0, 0, 0), (16, .iload_n 2, 1, 0, 0, 0), (17, .ifCond .le 19, 3, 0, 0, 0), (20, .aload_n 0, 1, 0, 0, 0), (21, .getfield 10, 3, 11, 0, 0), (24, .getfield 349, 3, 2, 8, 0), (27, .iload_n 2, 1, 0, 0, 0), (28, .iadd, 1, 0, 0, 0), (29, .iconst 1, 1, 0, 0, 0), (30, .isub, 1, 0, 0, 0), (31, .iload_n 2, 1, 0, 0, 0), (32, .idiv, 1, 0, 0, 0), (33, .goto 4, 3, 0, 0, 0), (36, .iconst (-1), 1, 0, 0, 0), (37, .ireturn, 1, 0, 0, 0)]
noncomputable def M_cX11_prize : xM := (RX11, yX11_prize, cX11_prize, 3, (some .int), false, 11, [(37, k_cX11_prize_0)])
noncomputable def k_cX11_counted_0 : List xR := [(0, .aload_n 0, 1, 0, 0, 0), (1, .iload_n 1, 1, 0, 0, 0), (2, .invokevirtual 352, 3, 194, 1, 0), (5, .istore_n 2, 1, 0, 0, 0), (6, .iload_n 2, 1, 0, 0, 0), (7, .ifCond .eq 5, 3, 0, 0, 0), (10, .iload_n 2, 1, 0, 0, 0), (11, .ireturn, 1, 0, 0, 0), (12, .aload_n 0, 1, 0, 0, 0), (13, .getfield 68, 3, 11, 9, 0), (16, .aload_n 0, 1, 0, 0, 0), (17, .getfield 30, 3, 11, 3, 0), (20, .aload_n 0, 1, 0, 0, 0), (21, .getfield 74, 3, 11, 10, 0), (24, .iload_n 1, 1, 0, 0, 0), (25, .aaload, 1, 0, 0, 0), (26, .iconst 0, 1, 0, 0, 0), (27, .invokevirtual 355, 3, 6, 3, 0), (30, .aload_n 0, 1, 0, 0, 0), (31, .getfield 68, 3, 11, 9, 0), (34, .getfield 359, 3, 1, 0, 0), (37, .ireturn, 1, 0, 0, 0)]
noncomputable def M_cX11_counted : xM := (RX11, yX11_counted, cX11_counted, 3, (some .int), false, 11, [(37, k_cX11_counted_0)])
noncomputable def k_cX11_scored_0 : List xR := [(0, .aload_n 0, 1, 0, 0, 0), (1, .iload_n 1, 1, 0, 0, 0), (2, .invokevirtual 352, 3, 194, 1, 0), (5, .istore_n 2, 1, 0, 0, 0), (6, .iload_n 2, 1, 0, 0, 0), (7, .ifCond .eq 9, 3, 0, 0, 0), (10, .iload_n 2, 1, 0, 0, 0), (11, .sipush 1000, 3, 0, 0, 0), (14, .imul, 1, 0, 0, 0), (15, .ireturn, 1, 0, 0, 0), (16, .aload_n 0, 1, 0, 0, 0), (17, .getfield 68, 3, 11, 9, 0), (20, .aload_n 0, 1, 0, 0, 0), (21, .getfield 30, 3, 11, 3, 0), (24, .aload_n 0, 1, 0, 0, 0), (25, .getfield 74, 3, 11, 10, 0), (28, .iload_n 1, 1, 0, 0, 0), (29, .aaload, 1, 0, 0, 0), (30, .iconst 0, 1, 0, 0, 0), (31, .invokevirtual 355, 3, 6, 3, 0), (34, .bipush 10, 2, 0, 0, 0), (36, .aload_n 0, 1, 0, 0, 0), (37, .getfield 68, 3, 11, 9, 0), (40, .getfield 359, 3, 1, 0, 0), (43, .imul, 1, 0, 0, 0), (44, .bipush 20, 2, 0, 0, 0), (46, .aload_n 0, 1, 0, 0, 0), (47, .getfield 68, 3, 11, 9, 0), (50, .getfield 361, 3, 1, 1, 0), (53, .imul, 1, 0, 0, 0), (54, .isub, 1, 0, 0, 0), (55, .ireturn, 1, 0, 0, 0)]
noncomputable def M_cX11_scored : xM := (RX11, yX11_scored, cX11_scored, 3, (some .int), false, 11, [(55, k_cX11_scored_0)])
noncomputable def k_cX11_early_0 : List xR := [(0, .iload_n 2, 1, 0, 0, 0), (1, .ifCond .lt 9, 3, 0, 0, 0), (4, .iload_n 2, 1, 0, 0, 0), (5, .bipush 20, 2, 0, 0, 0), (7, .if_icmp .le 6, 3, 0, 0, 0), (10, .bipush (-2), 2, 0, 0, 0), (12, .ireturn, 1, 0, 0, 0), (13, .aload_n 0, 1, 0, 0, 0), (14, .iload_n 1, 1, 0, 0, 0), (15, .invokevirtual 352, 3, 194, 1, 0), (18, .istore_n 3, 1, 0, 0, 0), (19, .iload_n 3, 1, 0, 0, 0), (20, .ifCond .eq 5, 3, 0, 0, 0), (23, .iload_n 3, 1, 0, 0, 0), (24, .ireturn, 1, 0, 0, 0), (25, .aload_n 0, 1, 0, 0, 0), (26, .getfield 68, 3, 11, 9, 0), (29, .aload_n 0, 1, 0, 0, 0), (30, .getfield 30, 3, 11, 3, 0), (33, .aload_n 0, 1, 0, 0, 0), (34, .getfield 74, 3, 11, 10, 0), (37, .iload_n 1, 1, 0, 0, 0), (38, .aaload, 1, 0, 0, 0), (39, .iload_n 2, 1, 0, 0, 0), (40, .invokevirtual 355, 3, 6, 3, 0), (43, .aload_n 0, 1, 0, 0, 0), (44, .getfield 68, 3, 11, 9, 0), (47, .getfield 364, 3, 1, 2, 0), (50, .ireturn, 1, 0, 0, 0)]
noncomputable def M_cX11_early : xM := (RX11, yX11_early, cX11_early, 4, (some .int), false, 11, [(50, k_cX11_early_0)])
noncomputable def k_cX11_often_0 : List xR := [(0, .aload_n 0, 1, 0, 0, 0), (1, .getfield 10, 3, 11, 0, 0), (4, .iload_n 1, 1, 0, 0, 0), (5, .invokevirtual 197, 3, 13, 1, 0), (8, .ifCond .eq 17, 3, 0, 0, 0), (11, .aload_n 0, 1, 0, 0, 0), (12, .getfield 10, 3, 11, 0, 0), (15, .getfield 113, 3, 2, 14, 0), (18, .iload_n 1, 1, 0, 0, 0), (19, .invokevirtual 367, 3, 36, 1, 0), (22, .goto 5, 3, 0, 0, 0), (25, .bipush (-2), 2, 0, 0, 0), (27, .ireturn, 1, 0, 0, 0)]
noncomputable def M_cX11_often : xM := (RX11, yX11_often, cX11_often, 2, (some .int), false, 11, [(27, k_cX11_often_0)])
noncomputable def k_cX11_balance_0 : List xR := [(0, .aload_n 0, 1, 0, 0, 0), (1, .getfield 10, 3, 11, 0, 0), (4, .invokevirtual 173, 3, 11, 0, 0), (7, .ifCond .ne 6, 3, 0, 0, 0), (10, .bipush (-2), 2, 0, 0, 0), (12, .ireturn, 1, 0, 0, 0), (13, .iconst (-1), 1, 0, 0, 0), (14, .istore_n 1, 1, 0, 0, 0), (15, .iconst (-1), 1, 0, 0, 0), (16, .istore_n 2, 1, 0, 0, 0), (17, .iconst 0, 1, 0, 0, 0), (18, .istore_n 3, 1, 0, 0, 0), (19, .iload_n 3, 1, 0, 0, 0), (20, .aload_n 0, 1, 0, 0, 0), (21, .getfield 10, 3, 11, 0, 0), (24, .invokevirtual 251, 3, 12, 0, 0), (27, .if_icmp .ge 57, 3, 0, 0, 0), (30, .aload_n 0, 1, 0, 0, 0), (31, .getfield 10, 3, 11, 0, 0), (34, .iload_n 3, 1, 0, 0, 0), (35, .invokevirtual 370, 3, 16, 1, 0), (38, .ifCond .ne 40, 3, 0, 0, 0), (41, .aload_n 0, 1, 0, 0, 0), (42, .getfield 10, 3, 11, 0, 0), (45, .getfield 113, 3, 2, 14, 0), (48, .iload_n 3, 1, 0, 0, 0), (49, .invokevirtual 367, 3, 36, 1, 0), (52, .istore 4, 2, 0, 0, 0), (54, .iload_n 1, 1, 0, 0, 0), (55, .iload 4, 2, 0, 0, 0), (57, .invokestatic 328, 3, 9001, 2, 0), (60, .istore_n 1, 1, 0, 0, 0)]
noncomputable def k_cX11_balance_1 : List xR := [(61, .iload_n 2, 1, 0, 0, 0), (62, .iconst (-1), 1, 0, 0, 0), (63, .if_icmp .ne 8, 3, 0, 0, 0), (66, .iload 4, 2, 0, 0, 0), (68, .goto 9, 3, 0, 0, 0), (71, .iload_n 2, 1, 0, 0, 0), (72, .iload 4, 2, 0, 0, 0), (74, .invokestatic 373, 3, 9002, 2, 0), (77, .istore_n 2, 1, 0, 0, 0), (78, .iinc 3 1, 3, 0, 0, 0), (81, .goto (-62), 3, 0, 0, 0), (84, .iload_n 1, 1, 0, 0, 0), (85, .iconst (-1), 1, 0, 0, 0), (86, .if_icmp .ne 7, 3, 0, 0, 0), (89, .iconst (-1), 1, 0, 0, 0), (90, .goto 6, 3, 0, 0, 0), (93, .iload_n 1, 1, 0, 0, 0), (94, .iload_n 2, 1, 0, 0, 0), (95, .isub, 1, 0, 0, 0), (96, .ireturn, 1, 0, 0, 0)]
noncomputable def M_cX11_balance : xM := (RX11, yX11_balance, cX11_balance, 5, (some .int), false, 11, [(60, k_cX11_balance_0), (96, k_cX11_balance_1)])
noncomputable def k_cX11_path_0 : List xR := [(0, .aload_n 0, 1, 0, 0, 0), (1, .getfield 10, 3, 11, 0, 0), (4, .invokevirtual 173, 3, 11, 0, 0), (7, .ifCond .eq 13, 3, 0, 0, 0), (10, .aload_n 0, 1, 0, 0, 0), (11, .getfield 10, 3, 11, 0, 0), (14, .invokevirtual 376, 3, 20, 0, 0), (17, .goto 5, 3, 0, 0, 0), (20, .bipush (-2), 2, 0, 0, 0), (22, .ireturn, 1, 0, 0, 0)]
noncomputable def M_cX11_path : xM := (RX11, yX11_path, cX11_path, 1, (some .int), false, 11, [(22, k_cX11_path_0)])
noncomputable def k_cX11_better_0 : List xR := [(0, .aload_n 0, 1, 0, 0, 0), (1, .getfield 10, 3, 11, 0, 0), (4, .invokevirtual 173, 3, 11, 0, 0), (7, .ifCond .eq 12, 3, 0, 0, 0), (10, .iload_n 1, 1, 0, 0, 0), (11, .ifCond .lt 8, 3, 0, 0, 0), (14, .iload_n 1, 1, 0, 0, 0), (15, .iconst 1, 1, 0, 0, 0), (16, .if_icmp .le 6, 3, 0, 0, 0), (19, .bipush (-2), 2, 0, 0, 0), (21, .ireturn, 1, 0, 0, 0), (22, .iconst (-1), 1, 0, 0, 0), (23, .istore_n 2, 1, 0, 0, 0), (24, .aload_n 0, 1, 0, 0, 0), (25, .getfield 10, 3, 11, 0, 0), (28, .invokevirtual 376, 3, 20, 0, 0), (31, .istore_n 3, 1, 0, 0, 0), (32, .iconst 0, 1, 0, 0, 0), (33, .istore 4, 2, 0, 0, 0), (35, .iload 4, 2, 0, 0, 0), (37, .aload_n 0, 1, 0, 0, 0), (38, .getfield 10, 3, 11, 0, 0), (41, .getfield 113, 3, 2, 14, 0), (44, .getfield 159, 3, 3, 0, 0), (47, .if_icmp .ge 104, 3, 0, 0, 0), (50, .iload 4, 2, 0, 0, 0), (52, .iconst 1, 1, 0, 0, 0), (53, .iadd, 1, 0, 0, 0), (54, .istore 5, 2, 0, 0, 0), (56, .iload 5, 2, 0, 0, 0), (58, .aload_n 0, 1, 0, 0, 0), (59, .getfield 10, 3, 11, 0, 0)]
noncomputable def k_cX11_better_1 : List xR := [(62, .getfield 113, 3, 2, 14, 0), (65, .getfield 159, 3, 3, 0, 0), (68, .if_icmp .ge 77, 3, 0, 0, 0), (71, .aload_n 0, 1, 0, 0, 0), (72, .getfield 10, 3, 11, 0, 0), (75, .getfield 113, 3, 2, 14, 0), (78, .iload 4, 2, 0, 0, 0), (80, .iload 5, 2, 0, 0, 0), (82, .invokevirtual 379, 3, 33, 2, 0), (85, .aload_n 0, 1, 0, 0, 0), (86, .getfield 10, 3, 11, 0, 0), (89, .invokevirtual 376, 3, 20, 0, 0), (92, .istore 6, 2, 0, 0, 0), (94, .aload_n 0, 1, 0, 0, 0), (95, .getfield 10, 3, 11, 0, 0), (98, .getfield 113, 3, 2, 14, 0), (101, .iload 4, 2, 0, 0, 0), (103, .iload 5, 2, 0, 0, 0), (105, .invokevirtual 379, 3, 33, 2, 0), (108, .iload_n 1, 1, 0, 0, 0), (109, .ifCond .ne 12, 3, 0, 0, 0), (112, .iload 6, 2, 0, 0, 0), (114, .iload_n 3, 1, 0, 0, 0), (115, .if_icmp .le 24, 3, 0, 0, 0), (118, .goto 9, 3, 0, 0, 0), (121, .iload 6, 2, 0, 0, 0), (123, .iload_n 3, 1, 0, 0, 0), (124, .if_icmp .ge 15, 3, 0, 0, 0), (127, .iload 6, 2, 0, 0, 0), (129, .istore_n 3, 1, 0, 0, 0), (130, .bipush 100, 2, 0, 0, 0), (132, .iload 4, 2, 0, 0, 0)]
noncomputable def k_cX11_better_2 : List xR := [(134, .imul, 1, 0, 0, 0), (135, .iload 5, 2, 0, 0, 0), (137, .iadd, 1, 0, 0, 0), (138, .istore_n 2, 1, 0, 0, 0), (139, .iinc 5 1, 3, 0, 0, 0), (142, .goto (-86), 3, 0, 0, 0), (145, .iinc 4 1, 3, 0, 0, 0), (148, .goto (-113), 3, 0, 0, 0), (151, .iload_n 2, 1, 0, 0, 0), (152, .ireturn, 1, 0, 0, 0)]
noncomputable def M_cX11_better : xM := (RX11, yX11_better, cX11_better, 7, (some .int), false, 11, [(59, k_cX11_better_0), (132, k_cX11_better_1), (152, k_cX11_better_2)])
noncomputable def k_cX11_swap_0 : List xR := [(0, .aload_n 0, 1, 0, 0, 0), (1, .getfield 10, 3, 11, 0, 0), (4, .getfield 113, 3, 2, 14, 0), (7, .iload_n 1, 1, 0, 0, 0), (8, .invokevirtual 117, 3, 31, 1, 0), (11, .ifCond .eq 17, 3, 0, 0, 0), (14, .aload_n 0, 1, 0, 0, 0), (15, .getfield 10, 3, 11, 0, 0), (18, .getfield 113, 3, 2, 14, 0), (21, .iload_n 2, 1, 0, 0, 0), (22, .invokevirtual 117, 3, 31, 1, 0), (25, .ifCond .ne 6, 3, 0, 0, 0), (28, .bipush (-2), 2, 0, 0, 0), (30, .ireturn, 1, 0, 0, 0), (31, .aload_n 0, 1, 0, 0, 0), (32, .getfield 10, 3, 11, 0, 0), (35, .getfield 113, 3, 2, 14, 0), (38, .iload_n 1, 1, 0, 0, 0), (39, .iload_n 2, 1, 0, 0, 0), (40, .invokevirtual 379, 3, 33, 2, 0), (43, .iconst 0, 1, 0, 0, 0), (44, .ireturn, 1, 0, 0, 0)]
noncomputable def M_cX11_swap : xM := (RX11, yX11_swap, cX11_swap, 3, (some .int), false, 11, [(44, k_cX11_swap_0)])
noncomputable def k_cX11_paint_0 : List xR := [(0, .aload_n 0, 1, 0, 0, 0), (1, .getfield 10, 3, 11, 0, 0), (4, .getfield 113, 3, 2, 14, 0), (7, .iload_n 1, 1, 0, 0, 0), (8, .invokevirtual 117, 3, 31, 1, 0), (11, .ifCond .eq 28, 3, 0, 0, 0), (14, .iload_n 2, 1, 0, 0, 0), (15, .ifCond .lt 24, 3, 0, 0, 0), (18, .iload_n 2, 1, 0, 0, 0), (19, .iconst 1, 1, 0, 0, 0), (20, .if_icmp .gt 19, 3, 0, 0, 0), (23, .aload_n 0, 1, 0, 0, 0), (24, .getfield 10, 3, 11, 0, 0), (27, .getfield 113, 3, 2, 14, 0), (30, .getfield 127, 3, 3, 3, 0), (33, .iload_n 1, 1, 0, 0, 0), (34, .iaload, 1, 0, 0, 0), (35, .iconst (-1), 1, 0, 0, 0), (36, .if_icmp .eq 6, 3, 0, 0, 0), (39, .bipush (-2), 2, 0, 0, 0), (41, .ireturn, 1, 0, 0, 0), (42, .aload_n 0, 1, 0, 0, 0), (43, .getfield 10, 3, 11, 0, 0), (46, .getfield 113, 3, 2, 14, 0), (49, .getfield 130, 3, 3, 4, 0), (52, .iload_n 1, 1, 0, 0, 0), (53, .iaload, 1, 0, 0, 0), (54, .istore_n 3, 1, 0, 0, 0), (55, .aload_n 0, 1, 0, 0, 0), (56, .getfield 10, 3, 11, 0, 0), (59, .getfield 113, 3, 2, 14, 0), (62, .getfield 130, 3, 3, 4, 0)]
noncomputable def k_cX11_paint_1 : List xR := [(65, .iload_n 1, 1, 0, 0, 0), (66, .iload_n 2, 1, 0, 0, 0), (67, .iastore, 1, 0, 0, 0), (68, .iload_n 3, 1, 0, 0, 0), (69, .ireturn, 1, 0, 0, 0)]
noncomputable def M_cX11_paint : xM := (RX11, yX11_paint, cX11_paint, 4, (some .int), false, 11, [(62, k_cX11_paint_0), (69, k_cX11_paint_1)])
noncomputable def k_cX11_turn_0 : List xR := [(0, .aload_n 0, 1, 0, 0, 0), (1, .getfield 10, 3, 11, 0, 0), (4, .getfield 113, 3, 2, 14, 0), (7, .iload_n 1, 1, 0, 0, 0), (8, .invokevirtual 117, 3, 31, 1, 0), (11, .ifCond .ne 6, 3, 0, 0, 0), (14, .bipush (-2), 2, 0, 0, 0), (16, .ireturn, 1, 0, 0, 0), (17, .aload_n 0, 1, 0, 0, 0), (18, .getfield 10, 3, 11, 0, 0), (21, .getfield 113, 3, 2, 14, 0), (24, .getfield 166, 3, 3, 1, 0), (27, .istore_n 2, 1, 0, 0, 0), (28, .aload_n 0, 1, 0, 0, 0), (29, .getfield 10, 3, 11, 0, 0), (32, .getfield 113, 3, 2, 14, 0), (35, .iload_n 1, 1, 0, 0, 0), (36, .putfield 166, 3, 3, 1, 0), (39, .iload_n 2, 1, 0, 0, 0), (40, .ireturn, 1, 0, 0, 0)]
noncomputable def M_cX11_turn : xM := (RX11, yX11_turn, cX11_turn, 3, (some .int), false, 11, [(40, k_cX11_turn_0)])
noncomputable def k_cX11_shut_0 : List xR := [(0, .aload_n 0, 1, 0, 0, 0), (1, .getfield 10, 3, 11, 0, 0), (4, .iload_n 1, 1, 0, 0, 0), (5, .invokevirtual 197, 3, 13, 1, 0), (8, .ifCond .eq 26, 3, 0, 0, 0), (11, .iload_n 2, 1, 0, 0, 0), (12, .ifCond .lt 22, 3, 0, 0, 0), (15, .iload_n 2, 1, 0, 0, 0), (16, .iconst 1, 1, 0, 0, 0), (17, .if_icmp .gt 17, 3, 0, 0, 0), (20, .aload_n 0, 1, 0, 0, 0), (21, .getfield 10, 3, 11, 0, 0), (24, .getfield 113, 3, 2, 14, 0), (27, .iload_n 1, 1, 0, 0, 0), (28, .invokevirtual 367, 3, 36, 1, 0), (31, .ifCond .le 6, 3, 0, 0, 0), (34, .bipush (-2), 2, 0, 0, 0), (36, .ireturn, 1, 0, 0, 0), (37, .aload_n 0, 1, 0, 0, 0), (38, .getfield 10, 3, 11, 0, 0), (41, .iload_n 1, 1, 0, 0, 0), (42, .invokevirtual 370, 3, 16, 1, 0), (45, .ifCond .eq 7, 3, 0, 0, 0), (48, .iconst 1, 1, 0, 0, 0), (49, .goto 4, 3, 0, 0, 0), (52, .iconst 0, 1, 0, 0, 0), (53, .istore_n 3, 1, 0, 0, 0), (54, .iload_n 3, 1, 0, 0, 0), (55, .iload_n 2, 1, 0, 0, 0), (56, .if_icmp .eq 18, 3, 0, 0, 0), (59, .aload_n 0, 1, 0, 0, 0), (60, .getfield 10, 3, 11, 0, 0)]
noncomputable def k_cX11_shut_1 : List xR := [(63, .dup, 1, 0, 0, 0), (64, .getfield 163, 3, 2, 6, 0), (67, .iconst 1, 1, 0, 0, 0), (68, .iload_n 1, 1, 0, 0, 0), (69, .ishl, 1, 0, 0, 0), (70, .ixor, 1, 0, 0, 0), (71, .putfield 163, 3, 2, 6, 0), (74, .iload_n 3, 1, 0, 0, 0), (75, .ireturn, 1, 0, 0, 0)]
noncomputable def M_cX11_shut : xM := (RX11, yX11_shut, cX11_shut, 4, (some .int), false, 11, [(60, k_cX11_shut_0), (75, k_cX11_shut_1)])
noncomputable def k_cX11_train_0 : List xR := [(0, .aload_n 0, 1, 0, 0, 0), (1, .getfield 10, 3, 11, 0, 0), (4, .iload_n 1, 1, 0, 0, 0), (5, .invokevirtual 133, 3, 15, 1, 0), (8, .ifCond .eq 15, 3, 0, 0, 0), (11, .aload_n 0, 1, 0, 0, 0), (12, .getfield 10, 3, 11, 0, 0), (15, .iload_n 2, 1, 0, 0, 0), (16, .iload_n 3, 1, 0, 0, 0), (17, .invokevirtual 383, 3, 26, 2, 0), (20, .ifCond .ne 6, 3, 0, 0, 0), (23, .bipush (-2), 2, 0, 0, 0), (25, .ireturn, 1, 0, 0, 0), (26, .aload_n 0, 1, 0, 0, 0), (27, .getfield 10, 3, 11, 0, 0), (30, .iload_n 1, 1, 0, 0, 0), (31, .iload_n 2, 1, 0, 0, 0), (32, .invokevirtual 136, 3, 24, 2, 0), (35, .istore 4, 2, 0, 0, 0), (37, .aload_n 0, 1, 0, 0, 0), (38, .getfield 10, 3, 11, 0, 0), (41, .iload_n 1, 1, 0, 0, 0), (42, .iload_n 2, 1, 0, 0, 0), (43, .iload_n 3, 1, 0, 0, 0), (44, .invokevirtual 386, 3, 25, 3, 0), (47, .iload 4, 2, 0, 0, 0), (49, .ireturn, 1, 0, 0, 0)]
noncomputable def M_cX11_train : xM := (RX11, yX11_train, cX11_train, 5, (some .int), false, 11, [(49, k_cX11_train_0)])
noncomputable def k_cX11_drawn_0 : List xR := [(0, .aload_n 0, 1, 0, 0, 0), (1, .getfield 10, 3, 11, 0, 0), (4, .invokevirtual 173, 3, 11, 0, 0), (7, .ifCond .eq 17, 3, 0, 0, 0), (10, .iload_n 1, 1, 0, 0, 0), (11, .invokestatic 390, 3, 184, 1, 0), (14, .ifCond .eq 10, 3, 0, 0, 0), (17, .iload_n 2, 1, 0, 0, 0), (18, .invokestatic 289, 3, 183, 1, 0), (21, .ifCond .ne 6, 3, 0, 0, 0), (24, .bipush (-2), 2, 0, 0, 0), (26, .ireturn, 1, 0, 0, 0), (27, .aload_n 0, 1, 0, 0, 0), (28, .getfield 30, 3, 11, 3, 0), (31, .aload_n 0, 1, 0, 0, 0), (32, .getfield 10, 3, 11, 0, 0), (35, .iload_n 1, 1, 0, 0, 0), (36, .iload_n 2, 1, 0, 0, 0), (37, .invokevirtual 393, 3, 43, 3, 0), (40, .aload_n 0, 1, 0, 0, 0), (41, .getfield 30, 3, 11, 3, 0), (44, .iload_n 3, 1, 0, 0, 0), (45, .invokevirtual 181, 3, 41, 1, 0), (48, .ifCond .eq 15, 3, 0, 0, 0), (51, .aload_n 0, 1, 0, 0, 0), (52, .getfield 30, 3, 11, 3, 0), (55, .getfield 182, 3, 4, 1, 0), (58, .iload_n 3, 1, 0, 0, 0), (59, .iaload, 1, 0, 0, 0), (60, .goto 4, 3, 0, 0, 0), (63, .iconst (-1), 1, 0, 0, 0), (64, .ireturn, 1, 0, 0, 0)]
noncomputable def M_cX11_drawn : xM := (RX11, yX11_drawn, cX11_drawn, 4, (some .int), false, 11, [(64, k_cX11_drawn_0)])
noncomputable def k_cX11_night_0 : List xR := [(0, .aload_n 0, 1, 0, 0, 0), (1, .iload_n 1, 1, 0, 0, 0), (2, .iconst 1, 1, 0, 0, 0), (3, .iload_n 2, 1, 0, 0, 0), (4, .iload_n 3, 1, 0, 0, 0), (5, .invokevirtual 397, 3, 176, 4, 0), (8, .ireturn, 1, 0, 0, 0)]
noncomputable def M_cX11_night : xM := (RX11, yX11_night, cX11_night, 4, (some .int), false, 11, [(8, k_cX11_night_0)])
noncomputable def k_cX11_years_0 : List xR := [(0, .iload_n 1, 1, 0, 0, 0), (1, .invokestatic 390, 3, 184, 1, 0), (4, .ifCond .eq 33, 3, 0, 0, 0), (7, .iload_n 2, 1, 0, 0, 0), (8, .iconst 1, 1, 0, 0, 0), (9, .if_icmp .lt 28, 3, 0, 0, 0), (12, .iload_n 2, 1, 0, 0, 0), (13, .bipush 20, 2, 0, 0, 0), (15, .if_icmp .gt 22, 3, 0, 0, 0), (18, .iload_n 3, 1, 0, 0, 0), (19, .invokestatic 289, 3, 183, 1, 0), (22, .ifCond .eq 15, 3, 0, 0, 0), (25, .aload_n 0, 1, 0, 0, 0), (26, .getfield 10, 3, 11, 0, 0), (29, .iload 4, 2, 0, 0, 0), (31, .invokevirtual 133, 3, 15, 1, 0), (34, .ifCond .ne 6, 3, 0, 0, 0), (37, .bipush (-2), 2, 0, 0, 0), (39, .ireturn, 1, 0, 0, 0), (40, .aload_n 0, 1, 0, 0, 0), (41, .getfield 37, 3, 11, 4, 0), (44, .aload_n 0, 1, 0, 0, 0), (45, .getfield 10, 3, 11, 0, 0), (48, .iload 4, 2, 0, 0, 0), (50, .invokevirtual 203, 3, 64, 2, 0), (53, .iconst 0, 1, 0, 0, 0), (54, .istore 5, 2, 0, 0, 0), (56, .iconst 0, 1, 0, 0, 0), (57, .istore 6, 2, 0, 0, 0), (59, .iload 6, 2, 0, 0, 0), (61, .iload_n 2, 1, 0, 0, 0), (62, .if_icmp .ge 50, 3, 0, 0, 0)]
noncomputable def k_cX11_years_1 : List xR := [(65, .aload_n 0, 1, 0, 0, 0), (66, .getfield 30, 3, 11, 3, 0), (69, .aload_n 0, 1, 0, 0, 0), (70, .getfield 10, 3, 11, 0, 0), (73, .iload_n 1, 1, 0, 0, 0), (74, .iload 6, 2, 0, 0, 0), (76, .iadd, 1, 0, 0, 0), (77, .iload_n 3, 1, 0, 0, 0), (78, .invokevirtual 393, 3, 43, 3, 0), (81, .iload 5, 2, 0, 0, 0), (83, .aload_n 0, 1, 0, 0, 0), (84, .getfield 47, 3, 11, 6, 0), (87, .aload_n 0, 1, 0, 0, 0), (88, .getfield 10, 3, 11, 0, 0), (91, .aload_n 0, 1, 0, 0, 0), (92, .getfield 30, 3, 11, 3, 0), (95, .aload_n 0, 1, 0, 0, 0), (96, .getfield 37, 3, 11, 4, 0), (99, .iconst (-1), 1, 0, 0, 0), (100, .invokevirtual 254, 3, 100, 4, 0), (103, .iadd, 1, 0, 0, 0), (104, .istore 5, 2, 0, 0, 0), (106, .iinc 6 1, 3, 0, 0, 0), (109, .goto (-50), 3, 0, 0, 0), (112, .iload 5, 2, 0, 0, 0), (114, .ireturn, 1, 0, 0, 0)]
noncomputable def M_cX11_years : xM := (RX11, yX11_years, cX11_years, 7, (some .int), false, 11, [(62, k_cX11_years_0), (114, k_cX11_years_1)])
noncomputable def k_cX11_image_0 : List xR := [(0, .iload_n 1, 1, 0, 0, 0), (1, .ifCond .lt 8, 3, 0, 0, 0), (4, .iload_n 1, 1, 0, 0, 0), (5, .iconst 3, 1, 0, 0, 0), (6, .if_icmp .lt 6, 3, 0, 0, 0), (9, .bipush (-2), 2, 0, 0, 0), (11, .ireturn, 1, 0, 0, 0), (12, .aload_n 0, 1, 0, 0, 0), (13, .getfield 16, 3, 11, 1, 0), (16, .iload_n 1, 1, 0, 0, 0), (17, .aaload, 1, 0, 0, 0), (18, .aload_n 0, 1, 0, 0, 0), (19, .getfield 10, 3, 11, 0, 0), (22, .invokevirtual 100, 3, 10, 1, 0), (25, .aload_n 0, 1, 0, 0, 0), (26, .getfield 16, 3, 11, 1, 0), (29, .iload_n 1, 1, 0, 0, 0), (30, .aaload, 1, 0, 0, 0), (31, .iconst 1, 1, 0, 0, 0), (32, .putfield 401, 3, 2, 0, 0), (35, .iconst 0, 1, 0, 0, 0), (36, .ireturn, 1, 0, 0, 0)]
noncomputable def M_cX11_image : xM := (RX11, yX11_image, cX11_image, 2, (some .int), false, 11, [(36, k_cX11_image_0)])
noncomputable def k_cX11_back_0 : List xR := [(0, .iload_n 1, 1, 0, 0, 0), (1, .ifCond .lt 8, 3, 0, 0, 0), (4, .iload_n 1, 1, 0, 0, 0), (5, .iconst 3, 1, 0, 0, 0), (6, .if_icmp .lt 6, 3, 0, 0, 0), (9, .bipush (-2), 2, 0, 0, 0), (11, .ireturn, 1, 0, 0, 0), (12, .aload_n 0, 1, 0, 0, 0), (13, .getfield 16, 3, 11, 1, 0), (16, .iload_n 1, 1, 0, 0, 0), (17, .aaload, 1, 0, 0, 0), (18, .getfield 401, 3, 2, 0, 0), (21, .ifCond .ne 6, 3, 0, 0, 0), (24, .bipush (-6), 2, 0, 0, 0), (26, .ireturn, 1, 0, 0, 0), (27, .aload_n 0, 1, 0, 0, 0), (28, .getfield 10, 3, 11, 0, 0), (31, .aload_n 0, 1, 0, 0, 0), (32, .getfield 16, 3, 11, 1, 0), (35, .iload_n 1, 1, 0, 0, 0), (36, .aaload, 1, 0, 0, 0), (37, .invokevirtual 100, 3, 10, 1, 0), (40, .iconst 0, 1, 0, 0, 0), (41, .ireturn, 1, 0, 0, 0)]
noncomputable def M_cX11_back : xM := (RX11, yX11_back, cX11_back, 2, (some .int), false, 11, [(41, k_cX11_back_0)])
noncomputable def k_cX11_row_0 : List xR := [(0, .iload_n 1, 1, 0, 0, 0), (1, .invokestatic 405, 3, 182, 1, 0), (4, .ifCond .eq 18, 3, 0, 0, 0), (7, .iload_n 2, 1, 0, 0, 0), (8, .ifCond .lt 14, 3, 0, 0, 0), (11, .iload_n 2, 1, 0, 0, 0), (12, .iconst 3, 1, 0, 0, 0), (13, .if_icmp .gt 9, 3, 0, 0, 0), (16, .iload_n 3, 1, 0, 0, 0), (17, .bipush 60, 2, 0, 0, 0), (19, .if_icmp .le 6, 3, 0, 0, 0), (22, .bipush (-2), 2, 0, 0, 0), (24, .ireturn, 1, 0, 0, 0), (25, .iload_n 3, 1, 0, 0, 0), (26, .ifCond .ge 6, 3, 0, 0, 0), (29, .bipush (-3), 2, 0, 0, 0), (31, .ireturn, 1, 0, 0, 0), (32, .aload_n 0, 1, 0, 0, 0), (33, .getfield 74, 3, 11, 10, 0), (36, .iload_n 1, 1, 0, 0, 0), (37, .aaload, 1, 0, 0, 0), (38, .iload_n 2, 1, 0, 0, 0), (39, .iload_n 3, 1, 0, 0, 0), (40, .invokevirtual 408, 3, 92, 2, 0), (43, .iconst 0, 1, 0, 0, 0), (44, .ireturn, 1, 0, 0, 0)]
noncomputable def M_cX11_row : xM := (RX11, yX11_row, cX11_row, 4, (some .int), false, 11, [(44, k_cX11_row_0)])
noncomputable def k_cX11_write_0 : List xR := [(0, .iload_n 1, 1, 0, 0, 0), (1, .invokestatic 405, 3, 182, 1, 0), (4, .ifCond .ne 6, 3, 0, 0, 0), (7, .bipush (-2), 2, 0, 0, 0), (9, .ireturn, 1, 0, 0, 0), (10, .aload_n 0, 1, 0, 0, 0), (11, .getfield 74, 3, 11, 10, 0), (14, .iload_n 1, 1, 0, 0, 0), (15, .aaload, 1, 0, 0, 0), (16, .invokevirtual 411, 3, 91, 0, 0), (19, .ifCond .ne 6, 3, 0, 0, 0), (22, .bipush (-6), 2, 0, 0, 0), (24, .ireturn, 1, 0, 0, 0), (25, .iload_n 2, 1, 0, 0, 0), (26, .ifCond .lt 16, 3, 0, 0, 0), (29, .iload_n 2, 1, 0, 0, 0), (30, .aload_n 0, 1, 0, 0, 0), (31, .getfield 74, 3, 11, 10, 0), (34, .iload_n 1, 1, 0, 0, 0), (35, .aaload, 1, 0, 0, 0), (36, .getfield 318, 3, 8, 0, 0), (39, .if_icmp .lt 6, 3, 0, 0, 0), (42, .bipush (-7), 2, 0, 0, 0), (44, .ireturn, 1, 0, 0, 0), (45, .aload_n 0, 1, 0, 0, 0), (46, .getfield 74, 3, 11, 10, 0), (49, .iload_n 1, 1, 0, 0, 0), (50, .aaload, 1, 0, 0, 0), (51, .iload_n 2, 1, 0, 0, 0), (52, .lload_n 3, 1, 0, 0, 0), (53, .invokevirtual 414, 3, 93, 2, 0), (56, .iconst 0, 1, 0, 0, 0)]
noncomputable def k_cX11_write_1 : List xR := [(57, .ireturn, 1, 0, 0, 0)]
noncomputable def M_cX11_write : xM := (RX11, yX11_write, cX11_write, 5, (some .int), false, 11, [(56, k_cX11_write_0), (57, k_cX11_write_1)])
noncomputable def k_cX11_paste_0 : List xR := [(0, .iload_n 1, 1, 0, 0, 0), (1, .invokestatic 405, 3, 182, 1, 0), (4, .ifCond .eq 10, 3, 0, 0, 0), (7, .iload_n 3, 1, 0, 0, 0), (8, .invokestatic 405, 3, 182, 1, 0), (11, .ifCond .ne 6, 3, 0, 0, 0), (14, .bipush (-2), 2, 0, 0, 0), (16, .ireturn, 1, 0, 0, 0), (17, .aload_n 0, 1, 0, 0, 0), (18, .getfield 74, 3, 11, 10, 0), (21, .iload_n 1, 1, 0, 0, 0), (22, .aaload, 1, 0, 0, 0), (23, .astore 6, 2, 0, 0, 0), (25, .aload_n 0, 1, 0, 0, 0), (26, .getfield 74, 3, 11, 10, 0), (29, .iload_n 3, 1, 0, 0, 0), (30, .aaload, 1, 0, 0, 0), (31, .astore 7, 2, 0, 0, 0), (33, .aload 6, 2, 0, 0, 0), (35, .invokevirtual 411, 3, 91, 0, 0), (38, .ifCond .eq 11, 3, 0, 0, 0), (41, .aload 7, 2, 0, 0, 0), (43, .invokevirtual 411, 3, 91, 0, 0), (46, .ifCond .ne 6, 3, 0, 0, 0), (49, .bipush (-6), 2, 0, 0, 0), (51, .ireturn, 1, 0, 0, 0), (52, .aload 6, 2, 0, 0, 0), (54, .getfield 417, 3, 8, 1, 0), (57, .aload 7, 2, 0, 0, 0), (59, .getfield 417, 3, 8, 1, 0), (62, .if_icmp .eq 6, 3, 0, 0, 0), (65, .bipush (-8), 2, 0, 0, 0)]
noncomputable def k_cX11_paste_1 : List xR := [(67, .ireturn, 1, 0, 0, 0), (68, .aload 6, 2, 0, 0, 0), (70, .iload_n 2, 1, 0, 0, 0), (71, .iload 5, 2, 0, 0, 0), (73, .invokevirtual 420, 3, 94, 2, 0), (76, .ifCond .eq 15, 3, 0, 0, 0), (79, .aload 7, 2, 0, 0, 0), (81, .iload 4, 2, 0, 0, 0), (83, .iload 5, 2, 0, 0, 0), (85, .invokevirtual 420, 3, 94, 2, 0), (88, .ifCond .ne 6, 3, 0, 0, 0), (91, .bipush (-7), 2, 0, 0, 0), (93, .ireturn, 1, 0, 0, 0), (94, .aload 6, 2, 0, 0, 0), (96, .getfield 423, 3, 8, 2, 0), (99, .iload_n 2, 1, 0, 0, 0), (100, .aload 7, 2, 0, 0, 0), (102, .getfield 423, 3, 8, 2, 0), (105, .iload 4, 2, 0, 0, 0), (107, .iload 5, 2, 0, 0, 0), (109, .invokestatic 427, 3, 9005, 5, 0), (112, .iconst 0, 1, 0, 0, 0), (113, .ireturn, 1, 0, 0, 0)]
noncomputable def M_cX11_paste : xM := (RX11, yX11_paste, cX11_paste, 8, (some .int), false, 11, [(65, k_cX11_paste_0), (113, k_cX11_paste_1)])
noncomputable def k_cX11_isSlot_0 : List xR := [(0, .iload_n 0, 1, 0, 0, 0), (1, .ifCond .lt 12, 3, 0, 0, 0), (4, .iload_n 0, 1, 0, 0, 0), (5, .iconst 4, 1, 0, 0, 0), (6, .if_icmp .ge 7, 3, 0, 0, 0), (9, .iconst 1, 1, 0, 0, 0), (10, .goto 4, 3, 0, 0, 0), (13, .iconst 0, 1, 0, 0, 0), (14, .ireturn, 1, 0, 0, 0)]
noncomputable def M_cX11_isSlot : xM := (RX11, yX11_isSlot, cX11_isSlot, 1, (some .boolean), true, 11, [(14, k_cX11_isSlot_0)])
noncomputable def k_cX11_isLaw_0 : List xR := [(0, .iload_n 0, 1, 0, 0, 0), (1, .ifCond .lt 12, 3, 0, 0, 0), (4, .iload_n 0, 1, 0, 0, 0), (5, .iconst 4, 1, 0, 0, 0), (6, .if_icmp .ge 7, 3, 0, 0, 0), (9, .iconst 1, 1, 0, 0, 0), (10, .goto 4, 3, 0, 0, 0), (13, .iconst 0, 1, 0, 0, 0), (14, .ireturn, 1, 0, 0, 0)]
noncomputable def M_cX11_isLaw : xM := (RX11, yX11_isLaw, cX11_isLaw, 1, (some .boolean), true, 11, [(14, k_cX11_isLaw_0)])
noncomputable def k_cX11_isSeed_0 : List xR := [(0, .iload_n 0, 1, 0, 0, 0), (1, .ifCond .lt 14, 3, 0, 0, 0), (4, .iload_n 0, 1, 0, 0, 0), (5, .ldc_w 433, 3, 2000000000, 0, 0), (8, .if_icmp .gt 7, 3, 0, 0, 0), (11, .iconst 1, 1, 0, 0, 0), (12, .goto 4, 3, 0, 0, 0), (15, .iconst 0, 1, 0, 0, 0), (16, .ireturn, 1, 0, 0, 0)]
noncomputable def M_cX11_isSeed : xM := (RX11, yX11_isSeed, cX11_isSeed, 1, (some .boolean), true, 11, [(16, k_cX11_isSeed_0)])
noncomputable def k_cX11_rowsKept_0 : List xR := [(0, .iconst 0, 1, 0, 0, 0), (1, .istore_n 1, 1, 0, 0, 0), (2, .iconst 0, 1, 0, 0, 0), (3, .istore_n 2, 1, 0, 0, 0), (4, .iload_n 2, 1, 0, 0, 0), (5, .iconst 4, 1, 0, 0, 0), (6, .if_icmp .ge 24, 3, 0, 0, 0), (9, .aload_n 0, 1, 0, 0, 0), (10, .getfield 74, 3, 11, 10, 0), (13, .iload_n 2, 1, 0, 0, 0), (14, .aaload, 1, 0, 0, 0), (15, .invokevirtual 411, 3, 91, 0, 0), (18, .ifCond .eq 6, 3, 0, 0, 0), (21, .iinc 1 1, 3, 0, 0, 0), (24, .iinc 2 1, 3, 0, 0, 0), (27, .goto (-23), 3, 0, 0, 0), (30, .iload_n 1, 1, 0, 0, 0), (31, .ireturn, 1, 0, 0, 0)]
noncomputable def M_cX11_rowsKept : xM := (RX11, yX11_rowsKept, cX11_rowsKept, 3, (some .int), false, 11, [(31, k_cX11_rowsKept_0)])
noncomputable def k_cX11_makeReady_0 : List xR := [(0, .aload_n 0, 1, 0, 0, 0), (1, .getfield 10, 3, 11, 0, 0), (4, .iload_n 1, 1, 0, 0, 0), (5, .invokevirtual 133, 3, 15, 1, 0), (8, .ifCond .ne 5, 3, 0, 0, 0), (11, .iconst 0, 1, 0, 0, 0), (12, .ireturn, 1, 0, 0, 0), (13, .aload_n 0, 1, 0, 0, 0), (14, .getfield 30, 3, 11, 3, 0), (17, .aload_n 0, 1, 0, 0, 0), (18, .getfield 10, 3, 11, 0, 0), (21, .aload_n 0, 1, 0, 0, 0), (22, .getfield 10, 3, 11, 0, 0), (25, .getfield 113, 3, 2, 14, 0), (28, .getfield 166, 3, 3, 1, 0), (31, .invokevirtual 176, 3, 42, 2, 0), (34, .aload_n 0, 1, 0, 0, 0), (35, .getfield 37, 3, 11, 4, 0), (38, .aload_n 0, 1, 0, 0, 0), (39, .getfield 10, 3, 11, 0, 0), (42, .iload_n 1, 1, 0, 0, 0), (43, .invokevirtual 203, 3, 64, 2, 0), (46, .iconst 1, 1, 0, 0, 0), (47, .ireturn, 1, 0, 0, 0)]
noncomputable def M_cX11_makeReady : xM := (RX11, yX11_makeReady, cX11_makeReady, 2, (some .boolean), false, 11, [(47, k_cX11_makeReady_0)])
noncomputable def k_cX11_runOf_0 : List xR := [(0, .aload_n 0, 1, 0, 0, 0), (1, .iload_n 1, 1, 0, 0, 0), (2, .invokevirtual 209, 3, 186, 1, 0), (5, .ifCond .ne 5, 3, 0, 0, 0), (8, .iconst 0, 1, 0, 0, 0), (9, .ireturn, 1, 0, 0, 0), (10, .aload_n 0, 1, 0, 0, 0), (11, .getfield 47, 3, 11, 6, 0), (14, .aload_n 0, 1, 0, 0, 0), (15, .getfield 10, 3, 11, 0, 0), (18, .aload_n 0, 1, 0, 0, 0), (19, .getfield 30, 3, 11, 3, 0), (22, .aload_n 0, 1, 0, 0, 0), (23, .getfield 37, 3, 11, 4, 0), (26, .iconst (-1), 1, 0, 0, 0), (27, .invokevirtual 254, 3, 100, 4, 0), (30, .pop, 1, 0, 0, 0), (31, .iconst 1, 1, 0, 0, 0), (32, .ireturn, 1, 0, 0, 0)]
noncomputable def M_cX11_runOf : xM := (RX11, yX11_runOf, cX11_runOf, 2, (some .boolean), false, 11, [(32, k_cX11_runOf_0)])
noncomputable def k_cX11_hitsKnowing_0 : List xR := [(0, .aload_n 0, 1, 0, 0, 0), (1, .getfield 37, 3, 11, 4, 0), (4, .iload_n 1, 1, 0, 0, 0), (5, .putfield 434, 3, 6, 3, 0), (8, .aload_n 0, 1, 0, 0, 0), (9, .getfield 47, 3, 11, 6, 0), (12, .aload_n 0, 1, 0, 0, 0), (13, .getfield 10, 3, 11, 0, 0), (16, .aload_n 0, 1, 0, 0, 0), (17, .getfield 30, 3, 11, 3, 0), (20, .aload_n 0, 1, 0, 0, 0), (21, .getfield 37, 3, 11, 4, 0), (24, .iconst (-1), 1, 0, 0, 0), (25, .invokevirtual 254, 3, 100, 4, 0), (28, .ireturn, 1, 0, 0, 0)]
noncomputable def M_cX11_hitsKnowing : xM := (RX11, yX11_hitsKnowing, cX11_hitsKnowing, 2, (some .int), false, 11, [(28, k_cX11_hitsKnowing_0)])
noncomputable def k_cX11_hitsLagging_0 : List xR := [(0, .aload_n 0, 1, 0, 0, 0), (1, .getfield 37, 3, 11, 4, 0), (4, .iload_n 1, 1, 0, 0, 0), (5, .putfield 437, 3, 6, 1, 0), (8, .aload_n 0, 1, 0, 0, 0), (9, .getfield 47, 3, 11, 6, 0), (12, .aload_n 0, 1, 0, 0, 0), (13, .getfield 10, 3, 11, 0, 0), (16, .aload_n 0, 1, 0, 0, 0), (17, .getfield 30, 3, 11, 3, 0), (20, .aload_n 0, 1, 0, 0, 0), (21, .getfield 37, 3, 11, 4, 0), (24, .iconst (-1), 1, 0, 0, 0), (25, .invokevirtual 254, 3, 100, 4, 0), (28, .ireturn, 1, 0, 0, 0)]
noncomputable def M_cX11_hitsLagging : xM := (RX11, yX11_hitsLagging, cX11_hitsLagging, 2, (some .int), false, 11, [(28, k_cX11_hitsLagging_0)])
noncomputable def k_cX11_lookPoints_0 : List xR := [(0, .aload_n 0, 1, 0, 0, 0), (1, .getfield 37, 3, 11, 4, 0), (4, .iload_n 1, 1, 0, 0, 0), (5, .putfield 437, 3, 6, 1, 0), (8, .aload_n 0, 1, 0, 0, 0), (9, .getfield 37, 3, 11, 4, 0), (12, .iconst 0, 1, 0, 0, 0), (13, .putfield 434, 3, 6, 3, 0), (16, .bipush 10, 2, 0, 0, 0), (18, .aload_n 0, 1, 0, 0, 0), (19, .getfield 47, 3, 11, 6, 0), (22, .aload_n 0, 1, 0, 0, 0), (23, .getfield 10, 3, 11, 0, 0), (26, .aload_n 0, 1, 0, 0, 0), (27, .getfield 30, 3, 11, 3, 0), (30, .aload_n 0, 1, 0, 0, 0), (31, .getfield 37, 3, 11, 4, 0), (34, .iconst (-1), 1, 0, 0, 0), (35, .invokevirtual 254, 3, 100, 4, 0), (38, .imul, 1, 0, 0, 0), (39, .ireturn, 1, 0, 0, 0)]
noncomputable def M_cX11_lookPoints : xM := (RX11, yX11_lookPoints, cX11_lookPoints, 2, (some .int), false, 11, [(39, k_cX11_lookPoints_0)])
noncomputable def k_cX11_ticketsOfRun_0 : List xR := [(0, .aload_n 0, 1, 0, 0, 0), (1, .getfield 10, 3, 11, 0, 0), (4, .getfield 440, 3, 2, 9, 0), (7, .ifCond .le 24, 3, 0, 0, 0), (10, .bipush 10, 2, 0, 0, 0), (12, .aload_n 0, 1, 0, 0, 0), (13, .getfield 47, 3, 11, 6, 0), (16, .getfield 219, 3, 9, 0, 0), (19, .imul, 1, 0, 0, 0), (20, .aload_n 0, 1, 0, 0, 0), (21, .getfield 10, 3, 11, 0, 0), (24, .getfield 440, 3, 2, 9, 0), (27, .idiv, 1, 0, 0, 0), (28, .goto 4, 3, 0, 0, 0), (31, .iconst 0, 1, 0, 0, 0), (32, .ireturn, 1, 0, 0, 0)]
noncomputable def M_cX11_ticketsOfRun : xM := (RX11, yX11_ticketsOfRun, cX11_ticketsOfRun, 1, (some .int), false, 11, [(32, k_cX11_ticketsOfRun_0)])
noncomputable def k_cX11_countLots_0 : List xR := [(0, .aload_n 0, 1, 0, 0, 0), (1, .getfield 10, 3, 11, 0, 0), (4, .invokevirtual 173, 3, 11, 0, 0), (7, .ifCond .eq 21, 3, 0, 0, 0), (10, .iload_n 1, 1, 0, 0, 0), (11, .invokestatic 289, 3, 183, 1, 0), (14, .ifCond .eq 14, 3, 0, 0, 0), (17, .iload_n 2, 1, 0, 0, 0), (18, .iconst 1, 1, 0, 0, 0), (19, .if_icmp .lt 9, 3, 0, 0, 0), (22, .iload_n 2, 1, 0, 0, 0), (23, .bipush 12, 2, 0, 0, 0), (25, .if_icmp .le 5, 3, 0, 0, 0), (28, .iconst 0, 1, 0, 0, 0), (29, .ireturn, 1, 0, 0, 0), (30, .aload_n 0, 1, 0, 0, 0), (31, .getfield 61, 3, 11, 8, 0), (34, .aload_n 0, 1, 0, 0, 0), (35, .getfield 10, 3, 11, 0, 0), (38, .invokevirtual 292, 3, 54, 1, 0), (41, .iconst 1, 1, 0, 0, 0), (42, .istore_n 3, 1, 0, 0, 0), (43, .iload_n 3, 1, 0, 0, 0), (44, .iload_n 2, 1, 0, 0, 0), (45, .if_icmp .ge 21, 3, 0, 0, 0), (48, .aload_n 0, 1, 0, 0, 0), (49, .getfield 61, 3, 11, 8, 0), (52, .aload_n 0, 1, 0, 0, 0), (53, .getfield 10, 3, 11, 0, 0), (56, .iload_n 1, 1, 0, 0, 0), (57, .invokevirtual 299, 3, 55, 2, 0), (60, .iinc 3 1, 3, 0, 0, 0)]
noncomputable def k_cX11_countLots_1 : List xR := [(63, .goto (-20), 3, 0, 0, 0), (66, .iconst 1, 1, 0, 0, 0), (67, .ireturn, 1, 0, 0, 0)]
noncomputable def M_cX11_countLots : xM := (RX11, yX11_countLots, cX11_countLots, 4, (some .boolean), false, 11, [(60, k_cX11_countLots_0), (67, k_cX11_countLots_1)])
noncomputable def k_cX11_whyUnheard_0 : List xR := [(0, .iload_n 1, 1, 0, 0, 0), (1, .invokestatic 405, 3, 182, 1, 0), (4, .ifCond .eq 13, 3, 0, 0, 0), (7, .aload_n 0, 1, 0, 0, 0), (8, .getfield 10, 3, 11, 0, 0), (11, .invokevirtual 173, 3, 11, 0, 0), (14, .ifCond .ne 6, 3, 0, 0, 0), (17, .bipush (-2), 2, 0, 0, 0), (19, .ireturn, 1, 0, 0, 0), (20, .aload_n 0, 1, 0, 0, 0), (21, .getfield 74, 3, 11, 10, 0), (24, .iload_n 1, 1, 0, 0, 0), (25, .aaload, 1, 0, 0, 0), (26, .invokevirtual 411, 3, 91, 0, 0), (29, .ifCond .ne 6, 3, 0, 0, 0), (32, .bipush (-6), 2, 0, 0, 0), (34, .ireturn, 1, 0, 0, 0), (35, .aload_n 0, 1, 0, 0, 0), (36, .getfield 74, 3, 11, 10, 0), (39, .iload_n 1, 1, 0, 0, 0), (40, .aaload, 1, 0, 0, 0), (41, .aload_n 0, 1, 0, 0, 0), (42, .getfield 10, 3, 11, 0, 0), (45, .invokevirtual 251, 3, 12, 0, 0), (48, .aload_n 0, 1, 0, 0, 0), (49, .getfield 10, 3, 11, 0, 0), (52, .invokevirtual 251, 3, 12, 0, 0), (55, .invokevirtual 443, 3, 95, 2, 0), (58, .ifCond .eq 7, 3, 0, 0, 0), (61, .iconst 0, 1, 0, 0, 0), (62, .goto 5, 3, 0, 0, 0), (65, .bipush (-2), 2, 0, 0, 0)]
noncomputable def k_cX11_whyUnheard_1 : List xR := [(67, .ireturn, 1, 0, 0, 0)]
noncomputable def M_cX11_whyUnheard : xM := (RX11, yX11_whyUnheard, cX11_whyUnheard, 2, (some .int), false, 11, [(65, k_cX11_whyUnheard_0), (67, k_cX11_whyUnheard_1)])
noncomputable def k_cX11_whyNoBlows_0 : List xR := [(0, .iload_n 1, 1, 0, 0, 0), (1, .invokestatic 405, 3, 182, 1, 0), (4, .ifCond .eq 13, 3, 0, 0, 0), (7, .aload_n 0, 1, 0, 0, 0), (8, .getfield 10, 3, 11, 0, 0), (11, .invokevirtual 173, 3, 11, 0, 0), (14, .ifCond .ne 6, 3, 0, 0, 0), (17, .bipush (-2), 2, 0, 0, 0), (19, .ireturn, 1, 0, 0, 0), (20, .aload_n 0, 1, 0, 0, 0), (21, .getfield 74, 3, 11, 10, 0), (24, .iload_n 1, 1, 0, 0, 0), (25, .aaload, 1, 0, 0, 0), (26, .astore_n 2, 1, 0, 0, 0), (27, .aload_n 2, 1, 0, 0, 0), (28, .invokevirtual 411, 3, 91, 0, 0), (31, .ifCond .ne 6, 3, 0, 0, 0), (34, .bipush (-6), 2, 0, 0, 0), (36, .ireturn, 1, 0, 0, 0), (37, .aload_n 2, 1, 0, 0, 0), (38, .getfield 318, 3, 8, 0, 0), (41, .iconst 2, 1, 0, 0, 0), (42, .irem, 1, 0, 0, 0), (43, .ifCond .ne 24, 3, 0, 0, 0), (46, .aload_n 2, 1, 0, 0, 0), (47, .aload_n 0, 1, 0, 0, 0), (48, .getfield 10, 3, 11, 0, 0), (51, .invokevirtual 251, 3, 12, 0, 0), (54, .aload_n 0, 1, 0, 0, 0), (55, .getfield 10, 3, 11, 0, 0), (58, .getfield 153, 3, 2, 4, 0), (61, .invokevirtual 443, 3, 95, 2, 0)]
noncomputable def k_cX11_whyNoBlows_1 : List xR := [(64, .ifCond .ne 6, 3, 0, 0, 0), (67, .bipush (-2), 2, 0, 0, 0), (69, .ireturn, 1, 0, 0, 0), (70, .aload_n 0, 1, 0, 0, 0), (71, .getfield 30, 3, 11, 3, 0), (74, .aload_n 0, 1, 0, 0, 0), (75, .getfield 10, 3, 11, 0, 0), (78, .aload_n 0, 1, 0, 0, 0), (79, .getfield 10, 3, 11, 0, 0), (82, .getfield 113, 3, 2, 14, 0), (85, .getfield 166, 3, 3, 1, 0), (88, .invokevirtual 176, 3, 42, 2, 0), (91, .iconst 0, 1, 0, 0, 0), (92, .ireturn, 1, 0, 0, 0)]
noncomputable def M_cX11_whyNoBlows : xM := (RX11, yX11_whyNoBlows, cX11_whyNoBlows, 3, (some .int), false, 11, [(61, k_cX11_whyNoBlows_0), (92, k_cX11_whyNoBlows_1)])
noncomputable def k_cX12_init_0 : List xR := [(0, .aload_n 0, 1, 0, 0, 0), (1, .invokespecial 3, 3, 9000, 0, 0), (4, .aload_n 0, 1, 0, 0, 0), (5, .bipush 116, 2, 0, 0, 0), (7, .newarray .int, 2, 0, 0, 0), (9, .putfield 9, 3, 12, 1, 0), (12, .aload_n 0, 1, 0, 0, 0), (13, .sipush 348, 3, 0, 0, 0), (16, .newarray .int, 2, 0, 0, 0), (18, .putfield 13, 3, 12, 2, 0), (21, .aload_n 0, 1, 0, 0, 0), (22, .iconst 3, 1, 0, 0, 0), (23, .newarray .boolean, 2, 0, 0, 0), (25, .putfield 16, 3, 12, 3, 0), (28, .aload_n 0, 1, 0, 0, 0), (29, .sipush 1200, 3, 0, 0, 0), (32, .newarray .byte, 2, 0, 0, 0), (34, .putfield 20, 3, 12, 4, 0), (37, .aload_n 0, 1, 0, 0, 0), (38, .iconst 5, 1, 0, 0, 0), (39, .newarray .int, 2, 0, 0, 0), (41, .putfield 24, 3, 12, 6, 0), (44, .aload_n 0, 1, 0, 0, 0), (45, .iconst (-1), 1, 0, 0, 0), (46, .putfield 27, 3, 12, 13, 0), (49, .aload_n 0, 1, 0, 0, 0), (50, .bipush 116, 2, 0, 0, 0), (52, .newarray .int, 2, 0, 0, 0), (54, .putfield 31, 3, 12, 14, 0), (57, .aload_n 0, 1, 0, 0, 0), (58, .sipush 180, 3, 0, 0, 0), (61, .newarray .int, 2, 0, 0, 0)]
noncomputable def k_cX12_init_1 : List xR := [(63, .putfield 34, 3, 12, 15, 0), (66, .aload_n 0, 1, 0, 0, 0), (67, .bipush 60, 2, 0, 0, 0), (69, .newarray .int, 2, 0, 0, 0), (71, .putfield 37, 3, 12, 16, 0), (74, .aload_n 0, 1, 0, 0, 0), (75, .bipush 60, 2, 0, 0, 0), (77, .newarray .int, 2, 0, 0, 0), (79, .putfield 40, 3, 12, 17, 0), (82, .aload_n 0, 1, 0, 0, 0), (83, .bipush 60, 2, 0, 0, 0), (85, .newarray .int, 2, 0, 0, 0), (87, .putfield 43, 3, 12, 25, 0), (90, .aload_n 0, 1, 0, 0, 0), (91, .bipush 60, 2, 0, 0, 0), (93, .newarray .int, 2, 0, 0, 0), (95, .putfield 46, 3, 12, 26, 0), (98, .aload_n 0, 1, 0, 0, 0), (99, .bipush 120, 2, 0, 0, 0), (101, .newarray .int, 2, 0, 0, 0), (103, .putfield 49, 3, 12, 27, 0), (106, .aload_n 0, 1, 0, 0, 0), (107, .bipush 120, 2, 0, 0, 0), (109, .newarray .int, 2, 0, 0, 0), (111, .putfield 52, 3, 12, 28, 0), (114, .aload_n 0, 1, 0, 0, 0), (115, .sipush 1452, 3, 0, 0, 0), (118, .newarray .int, 2, 0, 0, 0), (120, .putfield 55, 3, 12, 34, 0), (123, .aload_n 0, 1, 0, 0, 0), (124, .sipush 1452, 3, 0, 0, 0), (127, .newarray .int, 2, 0, 0, 0)]
noncomputable def k_cX12_init_2 : List xR := [(129, .putfield 58, 3, 12, 35, 0), (132, .aload_n 0, 1, 0, 0, 0), (133, .sipush 169, 3, 0, 0, 0), (136, .newarray .long, 2, 0, 0, 0), (138, .putfield 61, 3, 12, 36, 0), (141, .aload_n 0, 1, 0, 0, 0), (142, .sipush 169, 3, 0, 0, 0), (145, .newarray .long, 2, 0, 0, 0), (147, .putfield 65, 3, 12, 37, 0), (150, .aload_n 0, 1, 0, 0, 0), (151, .bipush 60, 2, 0, 0, 0), (153, .newarray .int, 2, 0, 0, 0), (155, .putfield 68, 3, 12, 38, 0), (158, .aload_n 0, 1, 0, 0, 0), (159, .iconst 4, 1, 0, 0, 0), (160, .newarray .int, 2, 0, 0, 0), (162, .dup, 1, 0, 0, 0), (163, .iconst 0, 1, 0, 0, 0), (164, .iconst (-1), 1, 0, 0, 0), (165, .iastore, 1, 0, 0, 0), (166, .dup, 1, 0, 0, 0), (167, .iconst 1, 1, 0, 0, 0), (168, .iconst (-1), 1, 0, 0, 0), (169, .iastore, 1, 0, 0, 0), (170, .dup, 1, 0, 0, 0), (171, .iconst 2, 1, 0, 0, 0), (172, .iconst (-1), 1, 0, 0, 0), (173, .iastore, 1, 0, 0, 0), (174, .dup, 1, 0, 0, 0), (175, .iconst 3, 1, 0, 0, 0), (176, .iconst (-1), 1, 0, 0, 0), (177, .iastore, 1, 0, 0, 0)]
noncomputable def k_cX12_init_3 : List xR := [(178, .putfield 71, 3, 12, 43, 0), (181, .aload_n 0, 1, 0, 0, 0), (182, .iconst 4, 1, 0, 0, 0), (183, .newarray .int, 2, 0, 0, 0), (185, .putfield 74, 3, 12, 44, 0), (188, .aload_n 0, 1, 0, 0, 0), (189, .sipush 240, 3, 0, 0, 0), (192, .newarray .long, 2, 0, 0, 0), (194, .putfield 77, 3, 12, 45, 0), (197, .aload_n 0, 1, 0, 0, 0), (198, .bipush 60, 2, 0, 0, 0), (200, .newarray .long, 2, 0, 0, 0), (202, .putfield 80, 3, 12, 46, 0), (205, .return_, 1, 0, 0, 0)]
noncomputable def M_cX12_init : xM := (RX12, yX12_init, cX12_init, 1, none, false, 12, [(61, k_cX12_init_0), (127, k_cX12_init_1), (177, k_cX12_init_2), (205, k_cX12_init_3)])
noncomputable def k_cX12_in_0 : List xR := [(0, .lload_n 0, 1, 0, 0, 0), (1, .lload_n 2, 1, 0, 0, 0), (2, .lcmp, 1, 0, 0, 0), (3, .ifCond .lt 14, 3, 0, 0, 0), (6, .lload_n 0, 1, 0, 0, 0), (7, .lload 4, 2, 0, 0, 0), (9, .lcmp, 1, 0, 0, 0), (10, .ifCond .gt 7, 3, 0, 0, 0), (13, .iconst 1, 1, 0, 0, 0), (14, .goto 4, 3, 0, 0, 0), (17, .iconst 0, 1, 0, 0, 0), (18, .ireturn, 1, 0, 0, 0)]
noncomputable def M_cX12_in : xM := (RX12, yX12_in, cX12_in, 6, (some .boolean), true, 12, [(18, k_cX12_in_0)])
noncomputable def k_cX12_image_0 : List xR := [(0, .iload_n 1, 1, 0, 0, 0), (1, .i2l, 1, 0, 0, 0), (2, .lconst 0, 1, 0, 0, 0), (3, .ldc2_w 86, 3, 2, 0, 0), (6, .invokestatic 88, 3, 196, 3, 0), (9, .ifCond .ne 6, 3, 0, 0, 0), (12, .bipush (-2), 2, 0, 0, 0), (14, .ireturn, 1, 0, 0, 0), (15, .iconst 0, 1, 0, 0, 0), (16, .istore_n 2, 1, 0, 0, 0), (17, .iload_n 2, 1, 0, 0, 0), (18, .bipush 116, 2, 0, 0, 0), (20, .if_icmp .ge 26, 3, 0, 0, 0), (23, .aload_n 0, 1, 0, 0, 0), (24, .getfield 13, 3, 12, 2, 0), (27, .bipush 116, 2, 0, 0, 0), (29, .iload_n 1, 1, 0, 0, 0), (30, .imul, 1, 0, 0, 0), (31, .iload_n 2, 1, 0, 0, 0), (32, .iadd, 1, 0, 0, 0), (33, .aload_n 0, 1, 0, 0, 0), (34, .getfield 9, 3, 12, 1, 0), (37, .iload_n 2, 1, 0, 0, 0), (38, .iaload, 1, 0, 0, 0), (39, .iastore, 1, 0, 0, 0), (40, .iinc 2 1, 3, 0, 0, 0), (43, .goto (-26), 3, 0, 0, 0), (46, .aload_n 0, 1, 0, 0, 0), (47, .getfield 16, 3, 12, 3, 0), (50, .iload_n 1, 1, 0, 0, 0), (51, .iconst 1, 1, 0, 0, 0), (52, .bastore, 1, 0, 0, 0)]
noncomputable def k_cX12_image_1 : List xR := [(53, .iconst 0, 1, 0, 0, 0), (54, .ireturn, 1, 0, 0, 0)]
noncomputable def M_cX12_image : xM := (RX12, yX12_image, cX12_image, 3, (some .int), false, 12, [(52, k_cX12_image_0), (54, k_cX12_image_1)])
noncomputable def k_cX12_back_0 : List xR := [(0, .iload_n 1, 1, 0, 0, 0), (1, .i2l, 1, 0, 0, 0), (2, .lconst 0, 1, 0, 0, 0), (3, .ldc2_w 86, 3, 2, 0, 0), (6, .invokestatic 88, 3, 196, 3, 0), (9, .ifCond .ne 6, 3, 0, 0, 0), (12, .bipush (-2), 2, 0, 0, 0), (14, .ireturn, 1, 0, 0, 0), (15, .aload_n 0, 1, 0, 0, 0), (16, .getfield 16, 3, 12, 3, 0), (19, .iload_n 1, 1, 0, 0, 0), (20, .baload, 1, 0, 0, 0), (21, .ifCond .ne 6, 3, 0, 0, 0), (24, .bipush (-6), 2, 0, 0, 0), (26, .ireturn, 1, 0, 0, 0), (27, .iconst 0, 1, 0, 0, 0), (28, .istore_n 2, 1, 0, 0, 0), (29, .iload_n 2, 1, 0, 0, 0), (30, .bipush 116, 2, 0, 0, 0), (32, .if_icmp .ge 26, 3, 0, 0, 0), (35, .aload_n 0, 1, 0, 0, 0), (36, .getfield 9, 3, 12, 1, 0), (39, .iload_n 2, 1, 0, 0, 0), (40, .aload_n 0, 1, 0, 0, 0), (41, .getfield 13, 3, 12, 2, 0), (44, .bipush 116, 2, 0, 0, 0), (46, .iload_n 1, 1, 0, 0, 0), (47, .imul, 1, 0, 0, 0), (48, .iload_n 2, 1, 0, 0, 0), (49, .iadd, 1, 0, 0, 0), (50, .iaload, 1, 0, 0, 0), (51, .iastore, 1, 0, 0, 0)]
noncomputable def k_cX12_back_1 : List xR := [(52, .iinc 2 1, 3, 0, 0, 0), (55, .goto (-26), 3, 0, 0, 0), (58, .iconst 0, 1, 0, 0, 0), (59, .ireturn, 1, 0, 0, 0)]
noncomputable def M_cX12_back : xM := (RX12, yX12_back, cX12_back, 3, (some .int), false, 12, [(51, k_cX12_back_0), (59, k_cX12_back_1)])
noncomputable def k_cX12_isBoard_0 : List xR := [(0, .aload_n 0, 1, 0, 0, 0), (1, .getfield 9, 3, 12, 1, 0), (4, .iconst 0, 1, 0, 0, 0), (5, .iaload, 1, 0, 0, 0), (6, .ifCond .le 7, 3, 0, 0, 0), (9, .iconst 1, 1, 0, 0, 0), (10, .goto 4, 3, 0, 0, 0), (13, .iconst 0, 1, 0, 0, 0), (14, .ireturn, 1, 0, 0, 0)]
noncomputable def M_cX12_isBoard : xM := (RX12, yX12_isBoard, cX12_isBoard, 1, (some .boolean), false, 12, [(14, k_cX12_isBoard_0)])
noncomputable def k_cX12_holes_0 : List xR := [(0, .aload_n 0, 1, 0, 0, 0), (1, .getfield 9, 3, 12, 1, 0), (4, .iconst 0, 1, 0, 0, 0), (5, .iaload, 1, 0, 0, 0), (6, .aload_n 0, 1, 0, 0, 0), (7, .getfield 9, 3, 12, 1, 0), (10, .iconst 1, 1, 0, 0, 0), (11, .iaload, 1, 0, 0, 0), (12, .imul, 1, 0, 0, 0), (13, .ireturn, 1, 0, 0, 0)]
noncomputable def M_cX12_holes : xM := (RX12, yX12_holes, cX12_holes, 1, (some .int), false, 12, [(13, k_cX12_holes_0)])
noncomputable def k_cX12_isHole_0 : List xR := [(0, .lload_n 1, 1, 0, 0, 0), (1, .lconst 0, 1, 0, 0, 0), (2, .aload_n 0, 1, 0, 0, 0), (3, .invokevirtual 92, 3, 200, 0, 0), (6, .iconst 1, 1, 0, 0, 0), (7, .isub, 1, 0, 0, 0), (8, .i2l, 1, 0, 0, 0), (9, .invokestatic 88, 3, 196, 3, 0), (12, .ireturn, 1, 0, 0, 0)]
noncomputable def M_cX12_isHole : xM := (RX12, yX12_isHole, cX12_isHole, 3, (some .boolean), false, 12, [(12, k_cX12_isHole_0)])
noncomputable def k_cX12_isShut_0 : List xR := [(0, .aload_n 0, 1, 0, 0, 0), (1, .getfield 9, 3, 12, 1, 0), (4, .bipush 7, 2, 0, 0, 0), (6, .iaload, 1, 0, 0, 0), (7, .iload_n 1, 1, 0, 0, 0), (8, .ishr, 1, 0, 0, 0), (9, .iconst 1, 1, 0, 0, 0), (10, .iand, 1, 0, 0, 0), (11, .iconst 1, 1, 0, 0, 0), (12, .if_icmp .ne 7, 3, 0, 0, 0), (15, .iconst 1, 1, 0, 0, 0), (16, .goto 4, 3, 0, 0, 0), (19, .iconst 0, 1, 0, 0, 0), (20, .ireturn, 1, 0, 0, 0)]
noncomputable def M_cX12_isShut : xM := (RX12, yX12_isShut, cX12_isShut, 2, (some .boolean), false, 12, [(20, k_cX12_isShut_0)])
noncomputable def k_cX12_isTick_0 : List xR := [(0, .lload_n 1, 1, 0, 0, 0), (1, .lconst 0, 1, 0, 0, 0), (2, .aload_n 0, 1, 0, 0, 0), (3, .getfield 9, 3, 12, 1, 0), (6, .iconst 2, 1, 0, 0, 0), (7, .iaload, 1, 0, 0, 0), (8, .iconst 1, 1, 0, 0, 0), (9, .isub, 1, 0, 0, 0), (10, .i2l, 1, 0, 0, 0), (11, .invokestatic 88, 3, 196, 3, 0), (14, .ireturn, 1, 0, 0, 0)]
noncomputable def M_cX12_isTick : xM := (RX12, yX12_isTick, cX12_isTick, 3, (some .boolean), false, 12, [(14, k_cX12_isTick_0)])
noncomputable def k_cX12_isComing_0 : List xR := [(0, .iload_n 1, 1, 0, 0, 0), (1, .i2l, 1, 0, 0, 0), (2, .lconst 0, 1, 0, 0, 0), (3, .aload_n 0, 1, 0, 0, 0), (4, .getfield 9, 3, 12, 1, 0), (7, .iconst 5, 1, 0, 0, 0), (8, .iaload, 1, 0, 0, 0), (9, .iconst 1, 1, 0, 0, 0), (10, .isub, 1, 0, 0, 0), (11, .i2l, 1, 0, 0, 0), (12, .invokestatic 88, 3, 196, 3, 0), (15, .ireturn, 1, 0, 0, 0)]
noncomputable def M_cX12_isComing : xM := (RX12, yX12_isComing, cX12_isComing, 2, (some .boolean), false, 12, [(15, k_cX12_isComing_0)])
noncomputable def k_cX12_isPlayer_0 : List xR := [(0, .iload_n 1, 1, 0, 0, 0), (1, .i2l, 1, 0, 0, 0), (2, .lconst 0, 1, 0, 0, 0), (3, .aload_n 0, 1, 0, 0, 0), (4, .getfield 9, 3, 12, 1, 0), (7, .bipush 6, 2, 0, 0, 0), (9, .iaload, 1, 0, 0, 0), (10, .iconst 1, 1, 0, 0, 0), (11, .isub, 1, 0, 0, 0), (12, .i2l, 1, 0, 0, 0), (13, .invokestatic 88, 3, 196, 3, 0), (16, .ireturn, 1, 0, 0, 0)]
noncomputable def M_cX12_isPlayer : xM := (RX12, yX12_isPlayer, cX12_isPlayer, 2, (some .boolean), false, 12, [(16, k_cX12_isPlayer_0)])
noncomputable def k_cX12_ofComing_0 : List xR := [(0, .aload_n 0, 1, 0, 0, 0), (1, .getfield 9, 3, 12, 1, 0), (4, .bipush 24, 2, 0, 0, 0), (6, .iconst 3, 1, 0, 0, 0), (7, .iload_n 1, 1, 0, 0, 0), (8, .imul, 1, 0, 0, 0), (9, .iadd, 1, 0, 0, 0), (10, .iload_n 2, 1, 0, 0, 0), (11, .iadd, 1, 0, 0, 0), (12, .iaload, 1, 0, 0, 0), (13, .ireturn, 1, 0, 0, 0)]
noncomputable def M_cX12_ofComing : xM := (RX12, yX12_ofComing, cX12_ofComing, 3, (some .int), false, 12, [(13, k_cX12_ofComing_0)])
noncomputable def k_cX12_of_0 : List xR := [(0, .aload_n 0, 1, 0, 0, 0), (1, .getfield 9, 3, 12, 1, 0), (4, .bipush 96, 2, 0, 0, 0), (6, .iconst 5, 1, 0, 0, 0), (7, .iload_n 1, 1, 0, 0, 0), (8, .imul, 1, 0, 0, 0), (9, .iadd, 1, 0, 0, 0), (10, .iload_n 2, 1, 0, 0, 0), (11, .iadd, 1, 0, 0, 0), (12, .iaload, 1, 0, 0, 0), (13, .ireturn, 1, 0, 0, 0)]
noncomputable def M_cX12_of : xM := (RX12, yX12_of, cX12_of, 3, (some .int), false, 12, [(13, k_cX12_of_0)])
noncomputable def k_cX12_feed_0 : List xR := [(0, .aload_n 0, 1, 0, 0, 0), (1, .getfield 96, 3, 12, 5, 0), (4, .bipush 20, 2, 0, 0, 0), (6, .iadd, 1, 0, 0, 0), (7, .sipush 1200, 3, 0, 0, 0), (10, .if_icmp .le 5, 3, 0, 0, 0), (13, .iconst (-1), 1, 0, 0, 0), (14, .ireturn, 1, 0, 0, 0), (15, .aload_n 0, 1, 0, 0, 0), (16, .getfield 24, 3, 12, 6, 0), (19, .iconst 0, 1, 0, 0, 0), (20, .iload_n 1, 1, 0, 0, 0), (21, .iastore, 1, 0, 0, 0), (22, .aload_n 0, 1, 0, 0, 0), (23, .getfield 24, 3, 12, 6, 0), (26, .iconst 1, 1, 0, 0, 0), (27, .iload_n 2, 1, 0, 0, 0), (28, .iastore, 1, 0, 0, 0), (29, .aload_n 0, 1, 0, 0, 0), (30, .getfield 24, 3, 12, 6, 0), (33, .iconst 2, 1, 0, 0, 0), (34, .iload_n 3, 1, 0, 0, 0), (35, .iastore, 1, 0, 0, 0), (36, .aload_n 0, 1, 0, 0, 0), (37, .getfield 24, 3, 12, 6, 0), (40, .iconst 3, 1, 0, 0, 0), (41, .iload 4, 2, 0, 0, 0), (43, .iastore, 1, 0, 0, 0), (44, .aload_n 0, 1, 0, 0, 0), (45, .getfield 24, 3, 12, 6, 0), (48, .iconst 4, 1, 0, 0, 0), (49, .iload 5, 2, 0, 0, 0)]
noncomputable def k_cX12_feed_1 : List xR := [(51, .iastore, 1, 0, 0, 0), (52, .iconst 0, 1, 0, 0, 0), (53, .istore 6, 2, 0, 0, 0), (55, .iload 6, 2, 0, 0, 0), (57, .bipush 20, 2, 0, 0, 0), (59, .if_icmp .ge 42, 3, 0, 0, 0), (62, .aload_n 0, 1, 0, 0, 0), (63, .getfield 20, 3, 12, 4, 0), (66, .aload_n 0, 1, 0, 0, 0), (67, .getfield 96, 3, 12, 5, 0), (70, .iload 6, 2, 0, 0, 0), (72, .iadd, 1, 0, 0, 0), (73, .aload_n 0, 1, 0, 0, 0), (74, .getfield 24, 3, 12, 6, 0), (77, .iload 6, 2, 0, 0, 0), (79, .iconst 4, 1, 0, 0, 0), (80, .idiv, 1, 0, 0, 0), (81, .iaload, 1, 0, 0, 0), (82, .bipush 24, 2, 0, 0, 0), (84, .bipush 8, 2, 0, 0, 0), (86, .iload 6, 2, 0, 0, 0), (88, .iconst 4, 1, 0, 0, 0), (89, .irem, 1, 0, 0, 0), (90, .imul, 1, 0, 0, 0), (91, .isub, 1, 0, 0, 0), (92, .ishr, 1, 0, 0, 0), (93, .i2b, 1, 0, 0, 0), (94, .bastore, 1, 0, 0, 0), (95, .iinc 6 1, 3, 0, 0, 0), (98, .goto (-43), 3, 0, 0, 0), (101, .aload_n 0, 1, 0, 0, 0), (102, .dup, 1, 0, 0, 0)]
noncomputable def k_cX12_feed_2 : List xR := [(103, .getfield 96, 3, 12, 5, 0), (106, .bipush 20, 2, 0, 0, 0), (108, .iadd, 1, 0, 0, 0), (109, .putfield 96, 3, 12, 5, 0), (112, .aload_n 0, 1, 0, 0, 0), (113, .getfield 96, 3, 12, 5, 0), (116, .ireturn, 1, 0, 0, 0)]
noncomputable def M_cX12_feed : xM := (RX12, yX12_feed, cX12_feed, 7, (some .int), false, 12, [(49, k_cX12_feed_0), (102, k_cX12_feed_1), (116, k_cX12_feed_2)])
noncomputable def k_cX12_end_0 : List xR := [(0, .iload_n 1, 1, 0, 0, 0), (1, .i2l, 1, 0, 0, 0), (2, .lconst 0, 1, 0, 0, 0), (3, .aload_n 0, 1, 0, 0, 0), (4, .getfield 96, 3, 12, 5, 0), (7, .i2l, 1, 0, 0, 0), (8, .invokestatic 88, 3, 196, 3, 0), (11, .ifCond .ne 5, 3, 0, 0, 0), (14, .iconst (-1), 1, 0, 0, 0), (15, .ireturn, 1, 0, 0, 0), (16, .aload_n 0, 1, 0, 0, 0), (17, .iload_n 1, 1, 0, 0, 0), (18, .putfield 96, 3, 12, 5, 0), (21, .iload_n 1, 1, 0, 0, 0), (22, .ireturn, 1, 0, 0, 0)]
noncomputable def M_cX12_end : xM := (RX12, yX12_end, cX12_end, 2, (some .int), false, 12, [(22, k_cX12_end_0)])
noncomputable def k_cX12_see_0 : List xR := [(0, .iload_n 1, 1, 0, 0, 0), (1, .aload_n 0, 1, 0, 0, 0), (2, .getfield 99, 3, 12, 7, 0), (5, .if_icmp .ge 16, 3, 0, 0, 0), (8, .aload_n 0, 1, 0, 0, 0), (9, .getfield 20, 3, 12, 4, 0), (12, .iload_n 1, 1, 0, 0, 0), (13, .baload, 1, 0, 0, 0), (14, .sipush 255, 3, 0, 0, 0), (17, .iand, 1, 0, 0, 0), (18, .goto 4, 3, 0, 0, 0), (21, .iconst (-1), 1, 0, 0, 0), (22, .ireturn, 1, 0, 0, 0)]
noncomputable def M_cX12_see : xM := (RX12, yX12_see, cX12_see, 2, (some .int), false, 12, [(22, k_cX12_see_0)])
noncomputable def k_cX12_advance_0 : List xR := [(0, .aload_n 0, 1, 0, 0, 0), (1, .aload_n 0, 1, 0, 0, 0), (2, .getfield 102, 3, 12, 8, 0), (5, .invokevirtual 105, 3, 210, 1, 0), (8, .bipush 32, 2, 0, 0, 0), (10, .if_icmp .eq 16, 3, 0, 0, 0), (13, .aload_n 0, 1, 0, 0, 0), (14, .aload_n 0, 1, 0, 0, 0), (15, .getfield 102, 3, 12, 8, 0), (18, .invokevirtual 105, 3, 210, 1, 0), (21, .bipush 10, 2, 0, 0, 0), (23, .if_icmp .ne 16, 3, 0, 0, 0), (26, .aload_n 0, 1, 0, 0, 0), (27, .dup, 1, 0, 0, 0), (28, .getfield 102, 3, 12, 8, 0), (31, .iconst 1, 1, 0, 0, 0), (32, .iadd, 1, 0, 0, 0), (33, .putfield 102, 3, 12, 8, 0), (36, .goto (-36), 3, 0, 0, 0), (39, .aload_n 0, 1, 0, 0, 0), (40, .aload_n 0, 1, 0, 0, 0), (41, .getfield 102, 3, 12, 8, 0), (44, .putfield 109, 3, 12, 9, 0), (47, .aload_n 0, 1, 0, 0, 0), (48, .aload_n 0, 1, 0, 0, 0), (49, .getfield 102, 3, 12, 8, 0), (52, .invokevirtual 105, 3, 210, 1, 0), (55, .istore_n 1, 1, 0, 0, 0), (56, .iload_n 1, 1, 0, 0, 0), (57, .iconst (-1), 1, 0, 0, 0), (58, .if_icmp .ne 11, 3, 0, 0, 0), (61, .aload_n 0, 1, 0, 0, 0)]
noncomputable def k_cX12_advance_1 : List xR := [(62, .iconst 0, 1, 0, 0, 0), (63, .putfield 112, 3, 12, 10, 0), (66, .goto 173, 3, 0, 0, 0), (69, .iload_n 1, 1, 0, 0, 0), (70, .i2l, 1, 0, 0, 0), (71, .ldc2_w 115, 3, 97, 0, 0), (74, .ldc2_w 117, 3, 122, 0, 0), (77, .invokestatic 88, 3, 196, 3, 0), (80, .ifCond .eq 45, 3, 0, 0, 0), (83, .aload_n 0, 1, 0, 0, 0), (84, .aload_n 0, 1, 0, 0, 0), (85, .getfield 102, 3, 12, 8, 0), (88, .invokevirtual 105, 3, 210, 1, 0), (91, .i2l, 1, 0, 0, 0), (92, .ldc2_w 115, 3, 97, 0, 0), (95, .ldc2_w 117, 3, 122, 0, 0), (98, .invokestatic 88, 3, 196, 3, 0), (101, .ifCond .eq 16, 3, 0, 0, 0), (104, .aload_n 0, 1, 0, 0, 0), (105, .dup, 1, 0, 0, 0), (106, .getfield 102, 3, 12, 8, 0), (109, .iconst 1, 1, 0, 0, 0), (110, .iadd, 1, 0, 0, 0), (111, .putfield 102, 3, 12, 8, 0), (114, .goto (-31), 3, 0, 0, 0), (117, .aload_n 0, 1, 0, 0, 0), (118, .iconst 1, 1, 0, 0, 0), (119, .putfield 112, 3, 12, 10, 0), (122, .goto 117, 3, 0, 0, 0), (125, .iload_n 1, 1, 0, 0, 0), (126, .i2l, 1, 0, 0, 0), (127, .ldc2_w 119, 3, 48, 0, 0)]
noncomputable def k_cX12_advance_2 : List xR := [(130, .ldc2_w 121, 3, 57, 0, 0), (133, .invokestatic 88, 3, 196, 3, 0), (136, .ifCond .eq 78, 3, 0, 0, 0), (139, .aload_n 0, 1, 0, 0, 0), (140, .iconst 0, 1, 0, 0, 0), (141, .putfield 123, 3, 12, 11, 0), (144, .aload_n 0, 1, 0, 0, 0), (145, .aload_n 0, 1, 0, 0, 0), (146, .getfield 102, 3, 12, 8, 0), (149, .invokevirtual 105, 3, 210, 1, 0), (152, .i2l, 1, 0, 0, 0), (153, .ldc2_w 119, 3, 48, 0, 0), (156, .ldc2_w 121, 3, 57, 0, 0), (159, .invokestatic 88, 3, 196, 3, 0), (162, .ifCond .eq 44, 3, 0, 0, 0), (165, .aload_n 0, 1, 0, 0, 0), (166, .ldc 126, 2, 99999, 0, 0), (168, .bipush 10, 2, 0, 0, 0), (170, .aload_n 0, 1, 0, 0, 0), (171, .getfield 123, 3, 12, 11, 0), (174, .imul, 1, 0, 0, 0), (175, .aload_n 0, 1, 0, 0, 0), (176, .aload_n 0, 1, 0, 0, 0), (177, .getfield 102, 3, 12, 8, 0), (180, .invokevirtual 105, 3, 210, 1, 0), (183, .iadd, 1, 0, 0, 0), (184, .bipush 48, 2, 0, 0, 0), (186, .isub, 1, 0, 0, 0), (187, .invokestatic 127, 3, 9002, 2, 0), (190, .putfield 123, 3, 12, 11, 0), (193, .aload_n 0, 1, 0, 0, 0), (194, .dup, 1, 0, 0, 0)]
noncomputable def k_cX12_advance_3 : List xR := [(195, .getfield 102, 3, 12, 8, 0), (198, .iconst 1, 1, 0, 0, 0), (199, .iadd, 1, 0, 0, 0), (200, .putfield 102, 3, 12, 8, 0), (203, .goto (-59), 3, 0, 0, 0), (206, .aload_n 0, 1, 0, 0, 0), (207, .iconst 2, 1, 0, 0, 0), (208, .putfield 112, 3, 12, 10, 0), (211, .goto 28, 3, 0, 0, 0), (214, .aload_n 0, 1, 0, 0, 0), (215, .iload_n 1, 1, 0, 0, 0), (216, .bipush 59, 2, 0, 0, 0), (218, .if_icmp .ne 7, 3, 0, 0, 0), (221, .iconst 3, 1, 0, 0, 0), (222, .goto 4, 3, 0, 0, 0), (225, .iconst 4, 1, 0, 0, 0), (226, .putfield 112, 3, 12, 10, 0), (229, .aload_n 0, 1, 0, 0, 0), (230, .dup, 1, 0, 0, 0), (231, .getfield 102, 3, 12, 8, 0), (234, .iconst 1, 1, 0, 0, 0), (235, .iadd, 1, 0, 0, 0), (236, .putfield 102, 3, 12, 8, 0), (239, .return_, 1, 0, 0, 0)]
noncomputable def M_cX12_advance : xM := (RX12, yX12_advance, cX12_advance, 2, none, false, 12, [(61, k_cX12_advance_0), (127, k_cX12_advance_1), (194, k_cX12_advance_2), (239, k_cX12_advance_3)])
noncomputable def k_cX12_good_0 : List xR := [(0, .aload_n 0, 1, 0, 0, 0), (1, .getfield 133, 3, 12, 12, 0), (4, .ifCond .ne 7, 3, 0, 0, 0), (7, .iconst 1, 1, 0, 0, 0), (8, .goto 4, 3, 0, 0, 0), (11, .iconst 0, 1, 0, 0, 0), (12, .ireturn, 1, 0, 0, 0)]
noncomputable def M_cX12_good : xM := (RX12, yX12_good, cX12_good, 1, (some .boolean), false, 12, [(12, k_cX12_good_0)])
noncomputable def k_cX12_errs_0 : List xR := [(0, .aload_n 0, 1, 0, 0, 0), (1, .invokevirtual 136, 3, 212, 0, 0), (4, .ifCond .ne 4, 3, 0, 0, 0), (7, .return_, 1, 0, 0, 0), (8, .aload_n 0, 1, 0, 0, 0), (9, .iload_n 1, 1, 0, 0, 0), (10, .putfield 133, 3, 12, 12, 0), (13, .aload_n 0, 1, 0, 0, 0), (14, .aload_n 0, 1, 0, 0, 0), (15, .getfield 109, 3, 12, 9, 0), (18, .putfield 27, 3, 12, 13, 0), (21, .return_, 1, 0, 0, 0)]
noncomputable def M_cX12_errs : xM := (RX12, yX12_errs, cX12_errs, 2, none, false, 12, [(21, k_cX12_errs_0)])
noncomputable def k_cX12_is_0 : List xR := [(0, .aload_n 0, 1, 0, 0, 0), (1, .invokevirtual 136, 3, 212, 0, 0), (4, .ifCond .eq 31, 3, 0, 0, 0), (7, .aload_n 0, 1, 0, 0, 0), (8, .getfield 112, 3, 12, 10, 0), (11, .iconst 1, 1, 0, 0, 0), (12, .if_icmp .ne 23, 3, 0, 0, 0), (15, .aload_n 0, 1, 0, 0, 0), (16, .getfield 102, 3, 12, 8, 0), (19, .aload_n 0, 1, 0, 0, 0), (20, .getfield 109, 3, 12, 9, 0), (23, .isub, 1, 0, 0, 0), (24, .aload_n 1, 1, 0, 0, 0), (25, .invokevirtual 140, 3, 9006, 0, 0), (28, .if_icmp .ne 7, 3, 0, 0, 0), (31, .iconst 1, 1, 0, 0, 0), (32, .goto 4, 3, 0, 0, 0), (35, .iconst 0, 1, 0, 0, 0), (36, .istore_n 2, 1, 0, 0, 0), (37, .iconst 0, 1, 0, 0, 0), (38, .istore_n 3, 1, 0, 0, 0), (39, .iload_n 3, 1, 0, 0, 0), (40, .aload_n 1, 1, 0, 0, 0), (41, .invokevirtual 140, 3, 9006, 0, 0), (44, .if_icmp .ge 38, 3, 0, 0, 0), (47, .iload_n 2, 1, 0, 0, 0), (48, .ifCond .eq 34, 3, 0, 0, 0), (51, .aload_n 0, 1, 0, 0, 0), (52, .getfield 20, 3, 12, 4, 0), (55, .aload_n 0, 1, 0, 0, 0), (56, .getfield 109, 3, 12, 9, 0), (59, .iload_n 3, 1, 0, 0, 0)]
noncomputable def k_cX12_is_1 : List xR := [(60, .iadd, 1, 0, 0, 0), (61, .baload, 1, 0, 0, 0), (62, .aload_n 1, 1, 0, 0, 0), (63, .iload_n 3, 1, 0, 0, 0), (64, .invokevirtual 145, 3, 9007, 1, 0), (67, .if_icmp .ne 7, 3, 0, 0, 0), (70, .iconst 1, 1, 0, 0, 0), (71, .goto 4, 3, 0, 0, 0), (74, .iconst 0, 1, 0, 0, 0), (75, .istore_n 2, 1, 0, 0, 0), (76, .iinc 3 1, 3, 0, 0, 0), (79, .goto (-40), 3, 0, 0, 0), (82, .iload_n 2, 1, 0, 0, 0), (83, .ireturn, 1, 0, 0, 0)]
noncomputable def M_cX12_is : xM := (RX12, yX12_is, cX12_is, 4, (some .boolean), false, 12, [(59, k_cX12_is_0), (83, k_cX12_is_1)])
noncomputable def k_cX12_takes_0 : List xR := [(0, .aload_n 0, 1, 0, 0, 0), (1, .aload_n 1, 1, 0, 0, 0), (2, .invokevirtual 149, 3, 214, 1, 0), (5, .istore_n 2, 1, 0, 0, 0), (6, .iload_n 2, 1, 0, 0, 0), (7, .ifCond .eq 7, 3, 0, 0, 0), (10, .aload_n 0, 1, 0, 0, 0), (11, .invokevirtual 153, 3, 211, 0, 0), (14, .iload_n 2, 1, 0, 0, 0), (15, .ireturn, 1, 0, 0, 0)]
noncomputable def M_cX12_takes : xM := (RX12, yX12_takes, cX12_takes, 3, (some .boolean), false, 12, [(15, k_cX12_takes_0)])
noncomputable def k_cX12_needs_0 : List xR := [(0, .aload_n 0, 1, 0, 0, 0), (1, .aload_n 1, 1, 0, 0, 0), (2, .invokevirtual 156, 3, 215, 1, 0), (5, .ifCond .ne 8, 3, 0, 0, 0), (8, .aload_n 0, 1, 0, 0, 0), (9, .iconst 1, 1, 0, 0, 0), (10, .invokevirtual 159, 3, 213, 1, 0), (13, .return_, 1, 0, 0, 0)]
noncomputable def M_cX12_needs : xM := (RX12, yX12_needs, cX12_needs, 2, none, false, 12, [(13, k_cX12_needs_0)])
noncomputable def k_cX12_number_0 : List xR := [(0, .aload_n 0, 1, 0, 0, 0), (1, .invokevirtual 136, 3, 212, 0, 0), (4, .ifCond .eq 16, 3, 0, 0, 0), (7, .aload_n 0, 1, 0, 0, 0), (8, .getfield 112, 3, 12, 10, 0), (11, .iconst 2, 1, 0, 0, 0), (12, .if_icmp .eq 8, 3, 0, 0, 0), (15, .aload_n 0, 1, 0, 0, 0), (16, .iconst 1, 1, 0, 0, 0), (17, .invokevirtual 159, 3, 213, 1, 0), (20, .aload_n 0, 1, 0, 0, 0), (21, .invokevirtual 136, 3, 212, 0, 0), (24, .ifCond .eq 23, 3, 0, 0, 0), (27, .aload_n 0, 1, 0, 0, 0), (28, .getfield 123, 3, 12, 11, 0), (31, .i2l, 1, 0, 0, 0), (32, .iload_n 1, 1, 0, 0, 0), (33, .i2l, 1, 0, 0, 0), (34, .iload_n 2, 1, 0, 0, 0), (35, .i2l, 1, 0, 0, 0), (36, .invokestatic 88, 3, 196, 3, 0), (39, .ifCond .ne 8, 3, 0, 0, 0), (42, .aload_n 0, 1, 0, 0, 0), (43, .iconst 2, 1, 0, 0, 0), (44, .invokevirtual 159, 3, 213, 1, 0), (47, .aload_n 0, 1, 0, 0, 0), (48, .invokevirtual 136, 3, 212, 0, 0), (51, .ifCond .ne 5, 3, 0, 0, 0), (54, .iconst 0, 1, 0, 0, 0), (55, .ireturn, 1, 0, 0, 0), (56, .aload_n 0, 1, 0, 0, 0), (57, .getfield 123, 3, 12, 11, 0)]
noncomputable def k_cX12_number_1 : List xR := [(60, .istore_n 3, 1, 0, 0, 0), (61, .aload_n 0, 1, 0, 0, 0), (62, .invokevirtual 153, 3, 211, 0, 0), (65, .iload_n 3, 1, 0, 0, 0), (66, .ireturn, 1, 0, 0, 0)]
noncomputable def M_cX12_number : xM := (RX12, yX12_number, cX12_number, 4, (some .int), false, 12, [(57, k_cX12_number_0), (66, k_cX12_number_1)])
noncomputable def k_cX12_told_0 : List xR := [(0, .aload_n 0, 1, 0, 0, 0), (1, .aload_n 1, 1, 0, 0, 0), (2, .invokevirtual 163, 3, 216, 1, 0), (5, .aload_n 0, 1, 0, 0, 0), (6, .iload_n 2, 1, 0, 0, 0), (7, .iload_n 3, 1, 0, 0, 0), (8, .invokevirtual 167, 3, 217, 2, 0), (11, .ireturn, 1, 0, 0, 0)]
noncomputable def M_cX12_told : xM := (RX12, yX12_told, cX12_told, 4, (some .int), false, 12, [(11, k_cX12_told_0)])
noncomputable def k_cX12_fault_0 : List xR := [(0, .iload_n 1, 1, 0, 0, 0), (1, .ifCond .ne 10, 3, 0, 0, 0), (4, .aload_n 0, 1, 0, 0, 0), (5, .getfield 133, 3, 12, 12, 0), (8, .goto 16, 3, 0, 0, 0), (11, .iload_n 1, 1, 0, 0, 0), (12, .iconst 1, 1, 0, 0, 0), (13, .if_icmp .ne 10, 3, 0, 0, 0), (16, .aload_n 0, 1, 0, 0, 0), (17, .getfield 27, 3, 12, 13, 0), (20, .goto 4, 3, 0, 0, 0), (23, .iconst (-1), 1, 0, 0, 0), (24, .ireturn, 1, 0, 0, 0)]
noncomputable def M_cX12_fault : xM := (RX12, yX12_fault, cX12_fault, 2, (some .int), false, 12, [(24, k_cX12_fault_0)])
noncomputable def k_cX12_freshHoles_0 : List xR := [(0, .aload_n 0, 1, 0, 0, 0), (1, .getfield 31, 3, 12, 14, 0), (4, .iconst 0, 1, 0, 0, 0), (5, .iaload, 1, 0, 0, 0), (6, .aload_n 0, 1, 0, 0, 0), (7, .getfield 31, 3, 12, 14, 0), (10, .iconst 1, 1, 0, 0, 0), (11, .iaload, 1, 0, 0, 0), (12, .imul, 1, 0, 0, 0), (13, .ireturn, 1, 0, 0, 0)]
noncomputable def M_cX12_freshHoles : xM := (RX12, yX12_freshHoles, cX12_freshHoles, 1, (some .int), false, 12, [(13, k_cX12_freshHoles_0)])
noncomputable def k_cX12_readFirst_0 : List xR := [(0, .aload_n 0, 1, 0, 0, 0), (1, .ldc 170, 2, 4294967304, 0, 0), (3, .invokevirtual 163, 3, 216, 1, 0), (6, .aload_n 0, 1, 0, 0, 0), (7, .getfield 31, 3, 12, 14, 0), (10, .iconst 0, 1, 0, 0, 0), (11, .aload_n 0, 1, 0, 0, 0), (12, .ldc 172, 2, 4294967305, 0, 0), (14, .iconst 1, 1, 0, 0, 0), (15, .iconst 4, 1, 0, 0, 0), (16, .invokevirtual 174, 3, 218, 3, 0), (19, .iastore, 1, 0, 0, 0), (20, .aload_n 0, 1, 0, 0, 0), (21, .getfield 31, 3, 12, 14, 0), (24, .iconst 1, 1, 0, 0, 0), (25, .aload_n 0, 1, 0, 0, 0), (26, .ldc 178, 2, 4294967306, 0, 0), (28, .iconst 1, 1, 0, 0, 0), (29, .iconst 3, 1, 0, 0, 0), (30, .invokevirtual 174, 3, 218, 3, 0), (33, .iastore, 1, 0, 0, 0), (34, .aload_n 0, 1, 0, 0, 0), (35, .getfield 31, 3, 12, 14, 0), (38, .iconst 2, 1, 0, 0, 0), (39, .aload_n 0, 1, 0, 0, 0), (40, .ldc 180, 2, 4294967307, 0, 0), (42, .iconst 1, 1, 0, 0, 0), (43, .sipush 200, 3, 0, 0, 0), (46, .invokevirtual 174, 3, 218, 3, 0), (49, .iastore, 1, 0, 0, 0), (50, .aload_n 0, 1, 0, 0, 0), (51, .getfield 31, 3, 12, 14, 0)]
noncomputable def k_cX12_readFirst_1 : List xR := [(54, .iconst 3, 1, 0, 0, 0), (55, .aload_n 0, 1, 0, 0, 0), (56, .ldc 182, 2, 4294967308, 0, 0), (58, .iconst 0, 1, 0, 0, 0), (59, .bipush 9, 2, 0, 0, 0), (61, .invokevirtual 174, 3, 218, 3, 0), (64, .iastore, 1, 0, 0, 0), (65, .aload_n 0, 1, 0, 0, 0), (66, .getfield 31, 3, 12, 14, 0), (69, .bipush 10, 2, 0, 0, 0), (71, .iconst 1, 1, 0, 0, 0), (72, .iastore, 1, 0, 0, 0), (73, .aload_n 0, 1, 0, 0, 0), (74, .getfield 31, 3, 12, 14, 0), (77, .bipush 11, 2, 0, 0, 0), (79, .bipush 100, 2, 0, 0, 0), (81, .iastore, 1, 0, 0, 0), (82, .return_, 1, 0, 0, 0)]
noncomputable def M_cX12_readFirst : xM := (RX12, yX12_readFirst, cX12_readFirst, 1, none, false, 12, [(51, k_cX12_readFirst_0), (82, k_cX12_readFirst_1)])
noncomputable def k_cX12_freshStay_0 : List xR := [(0, .iconst 0, 1, 0, 0, 0), (1, .istore_n 2, 1, 0, 0, 0), (2, .iload_n 2, 1, 0, 0, 0), (3, .aload_n 0, 1, 0, 0, 0), (4, .getfield 31, 3, 12, 14, 0), (7, .iconst 4, 1, 0, 0, 0), (8, .iaload, 1, 0, 0, 0), (9, .if_icmp .ge 26, 3, 0, 0, 0), (12, .aload_n 0, 1, 0, 0, 0), (13, .getfield 31, 3, 12, 14, 0), (16, .bipush 12, 2, 0, 0, 0), (18, .iconst 2, 1, 0, 0, 0), (19, .iload_n 2, 1, 0, 0, 0), (20, .imul, 1, 0, 0, 0), (21, .iadd, 1, 0, 0, 0), (22, .iaload, 1, 0, 0, 0), (23, .iload_n 1, 1, 0, 0, 0), (24, .if_icmp .ne 5, 3, 0, 0, 0), (27, .iload_n 2, 1, 0, 0, 0), (28, .ireturn, 1, 0, 0, 0), (29, .iinc 2 1, 3, 0, 0, 0), (32, .goto (-30), 3, 0, 0, 0), (35, .iconst (-1), 1, 0, 0, 0), (36, .ireturn, 1, 0, 0, 0)]
noncomputable def M_cX12_freshStay : xM := (RX12, yX12_freshStay, cX12_freshStay, 3, (some .int), false, 12, [(36, k_cX12_freshStay_0)])
noncomputable def k_cX12_readStay_0 : List xR := [(0, .aload_n 0, 1, 0, 0, 0), (1, .iconst 1, 1, 0, 0, 0), (2, .bipush 40, 2, 0, 0, 0), (4, .invokevirtual 167, 3, 217, 2, 0), (7, .istore_n 1, 1, 0, 0, 0), (8, .aload_n 0, 1, 0, 0, 0), (9, .ldc 184, 2, 4294967316, 0, 0), (11, .invokevirtual 163, 3, 216, 1, 0), (14, .aload_n 0, 1, 0, 0, 0), (15, .invokevirtual 136, 3, 212, 0, 0), (18, .ifCond .eq 28, 3, 0, 0, 0), (21, .aload_n 0, 1, 0, 0, 0), (22, .getfield 112, 3, 12, 10, 0), (25, .iconst 2, 1, 0, 0, 0), (26, .if_icmp .ne 20, 3, 0, 0, 0), (29, .aload_n 0, 1, 0, 0, 0), (30, .getfield 123, 3, 12, 11, 0), (33, .aload_n 0, 1, 0, 0, 0), (34, .getfield 31, 3, 12, 14, 0), (37, .iconst 2, 1, 0, 0, 0), (38, .iaload, 1, 0, 0, 0), (39, .if_icmp .ge 7, 3, 0, 0, 0), (42, .iconst 1, 1, 0, 0, 0), (43, .goto 4, 3, 0, 0, 0), (46, .iconst 0, 1, 0, 0, 0), (47, .istore_n 2, 1, 0, 0, 0), (48, .iload_n 2, 1, 0, 0, 0), (49, .ifCond .eq 31, 3, 0, 0, 0), (52, .aload_n 0, 1, 0, 0, 0), (53, .getfield 31, 3, 12, 14, 0), (56, .iconst 4, 1, 0, 0, 0), (57, .iaload, 1, 0, 0, 0)]
noncomputable def k_cX12_readStay_1 : List xR := [(58, .bipush 6, 2, 0, 0, 0), (60, .if_icmp .ne 20, 3, 0, 0, 0), (63, .aload_n 0, 1, 0, 0, 0), (64, .aload_n 0, 1, 0, 0, 0), (65, .getfield 123, 3, 12, 11, 0), (68, .invokevirtual 185, 3, 222, 1, 0), (71, .iconst (-1), 1, 0, 0, 0), (72, .if_icmp .ne 8, 3, 0, 0, 0), (75, .aload_n 0, 1, 0, 0, 0), (76, .iconst 3, 1, 0, 0, 0), (77, .invokevirtual 159, 3, 213, 1, 0), (80, .aload_n 0, 1, 0, 0, 0), (81, .iconst 0, 1, 0, 0, 0), (82, .aload_n 0, 1, 0, 0, 0), (83, .getfield 31, 3, 12, 14, 0), (86, .iconst 2, 1, 0, 0, 0), (87, .iaload, 1, 0, 0, 0), (88, .iconst 1, 1, 0, 0, 0), (89, .isub, 1, 0, 0, 0), (90, .invokevirtual 167, 3, 217, 2, 0), (93, .istore_n 3, 1, 0, 0, 0), (94, .aload_n 0, 1, 0, 0, 0), (95, .invokevirtual 136, 3, 212, 0, 0), (98, .ifCond .ne 4, 3, 0, 0, 0), (101, .return_, 1, 0, 0, 0), (102, .aload_n 0, 1, 0, 0, 0), (103, .iload_n 3, 1, 0, 0, 0), (104, .invokevirtual 185, 3, 222, 1, 0), (107, .istore 4, 2, 0, 0, 0), (109, .iload 4, 2, 0, 0, 0), (111, .iconst (-1), 1, 0, 0, 0), (112, .if_icmp .ne 21, 3, 0, 0, 0)]
noncomputable def k_cX12_readStay_2 : List xR := [(115, .aload_n 0, 1, 0, 0, 0), (116, .getfield 31, 3, 12, 14, 0), (119, .iconst 4, 1, 0, 0, 0), (120, .iaload, 1, 0, 0, 0), (121, .istore 4, 2, 0, 0, 0), (123, .aload_n 0, 1, 0, 0, 0), (124, .getfield 31, 3, 12, 14, 0), (127, .iconst 4, 1, 0, 0, 0), (128, .dup2, 1, 0, 0, 0), (129, .iaload, 1, 0, 0, 0), (130, .iconst 1, 1, 0, 0, 0), (131, .iadd, 1, 0, 0, 0), (132, .iastore, 1, 0, 0, 0), (133, .aload_n 0, 1, 0, 0, 0), (134, .getfield 31, 3, 12, 14, 0), (137, .bipush 12, 2, 0, 0, 0), (139, .iconst 2, 1, 0, 0, 0), (140, .iload 4, 2, 0, 0, 0), (142, .imul, 1, 0, 0, 0), (143, .iadd, 1, 0, 0, 0), (144, .iload_n 3, 1, 0, 0, 0), (145, .iastore, 1, 0, 0, 0), (146, .aload_n 0, 1, 0, 0, 0), (147, .getfield 31, 3, 12, 14, 0), (150, .bipush 12, 2, 0, 0, 0), (152, .iconst 2, 1, 0, 0, 0), (153, .iload 4, 2, 0, 0, 0), (155, .imul, 1, 0, 0, 0), (156, .iadd, 1, 0, 0, 0), (157, .iconst 1, 1, 0, 0, 0), (158, .iadd, 1, 0, 0, 0), (159, .iload_n 1, 1, 0, 0, 0)]
noncomputable def k_cX12_readStay_3 : List xR := [(160, .iastore, 1, 0, 0, 0), (161, .return_, 1, 0, 0, 0)]
noncomputable def M_cX12_readStay : xM := (RX12, yX12_readStay, cX12_readStay, 5, none, false, 12, [(57, k_cX12_readStay_0), (112, k_cX12_readStay_1), (159, k_cX12_readStay_2), (161, k_cX12_readStay_3)])
noncomputable def k_cX12_isNextHole_0 : List xR := [(0, .aload_n 0, 1, 0, 0, 0), (1, .invokevirtual 136, 3, 212, 0, 0), (4, .ifCond .eq 26, 3, 0, 0, 0), (7, .aload_n 0, 1, 0, 0, 0), (8, .getfield 112, 3, 12, 10, 0), (11, .iconst 2, 1, 0, 0, 0), (12, .if_icmp .ne 18, 3, 0, 0, 0), (15, .aload_n 0, 1, 0, 0, 0), (16, .getfield 123, 3, 12, 11, 0), (19, .aload_n 0, 1, 0, 0, 0), (20, .invokevirtual 188, 3, 220, 0, 0), (23, .if_icmp .ge 7, 3, 0, 0, 0), (26, .iconst 1, 1, 0, 0, 0), (27, .goto 4, 3, 0, 0, 0), (30, .iconst 0, 1, 0, 0, 0), (31, .ireturn, 1, 0, 0, 0)]
noncomputable def M_cX12_isNextHole : xM := (RX12, yX12_isNextHole, cX12_isNextHole, 1, (some .boolean), false, 12, [(31, k_cX12_isNextHole_0)])
noncomputable def k_cX12_isFreshComing_0 : List xR := [(0, .iconst 0, 1, 0, 0, 0), (1, .istore_n 2, 1, 0, 0, 0), (2, .iload_n 2, 1, 0, 0, 0), (3, .aload_n 0, 1, 0, 0, 0), (4, .getfield 31, 3, 12, 14, 0), (7, .iconst 5, 1, 0, 0, 0), (8, .iaload, 1, 0, 0, 0), (9, .if_icmp .ge 45, 3, 0, 0, 0), (12, .aload_n 0, 1, 0, 0, 0), (13, .getfield 31, 3, 12, 14, 0), (16, .bipush 24, 2, 0, 0, 0), (18, .iconst 3, 1, 0, 0, 0), (19, .iload_n 2, 1, 0, 0, 0), (20, .imul, 1, 0, 0, 0), (21, .iadd, 1, 0, 0, 0), (22, .iconst 0, 1, 0, 0, 0), (23, .iadd, 1, 0, 0, 0), (24, .iaload, 1, 0, 0, 0), (25, .iload_n 1, 1, 0, 0, 0), (26, .if_icmp .eq 20, 3, 0, 0, 0), (29, .aload_n 0, 1, 0, 0, 0), (30, .getfield 31, 3, 12, 14, 0), (33, .bipush 24, 2, 0, 0, 0), (35, .iconst 3, 1, 0, 0, 0), (36, .iload_n 2, 1, 0, 0, 0), (37, .imul, 1, 0, 0, 0), (38, .iadd, 1, 0, 0, 0), (39, .iconst 1, 1, 0, 0, 0), (40, .iadd, 1, 0, 0, 0), (41, .iaload, 1, 0, 0, 0), (42, .iload_n 1, 1, 0, 0, 0), (43, .if_icmp .ne 5, 3, 0, 0, 0)]
noncomputable def k_cX12_isFreshComing_1 : List xR := [(46, .iconst 1, 1, 0, 0, 0), (47, .ireturn, 1, 0, 0, 0), (48, .iinc 2 1, 3, 0, 0, 0), (51, .goto (-49), 3, 0, 0, 0), (54, .iconst 0, 1, 0, 0, 0), (55, .ireturn, 1, 0, 0, 0)]
noncomputable def M_cX12_isFreshComing : xM := (RX12, yX12_isFreshComing, cX12_isFreshComing, 3, (some .boolean), false, 12, [(43, k_cX12_isFreshComing_0), (55, k_cX12_isFreshComing_1)])
noncomputable def k_cX12_readShut_0 : List xR := [(0, .aload_n 0, 1, 0, 0, 0), (1, .invokevirtual 191, 3, 224, 0, 0), (4, .ifCond .eq 37, 3, 0, 0, 0), (7, .aload_n 0, 1, 0, 0, 0), (8, .getfield 31, 3, 12, 14, 0), (11, .bipush 7, 2, 0, 0, 0), (13, .iaload, 1, 0, 0, 0), (14, .aload_n 0, 1, 0, 0, 0), (15, .getfield 123, 3, 12, 11, 0), (18, .ishr, 1, 0, 0, 0), (19, .iconst 1, 1, 0, 0, 0), (20, .iand, 1, 0, 0, 0), (21, .iconst 1, 1, 0, 0, 0), (22, .if_icmp .eq 14, 3, 0, 0, 0), (25, .aload_n 0, 1, 0, 0, 0), (26, .aload_n 0, 1, 0, 0, 0), (27, .getfield 123, 3, 12, 11, 0), (30, .invokevirtual 194, 3, 225, 1, 0), (33, .ifCond .eq 8, 3, 0, 0, 0), (36, .aload_n 0, 1, 0, 0, 0), (37, .iconst 2, 1, 0, 0, 0), (38, .invokevirtual 159, 3, 213, 1, 0), (41, .aload_n 0, 1, 0, 0, 0), (42, .iconst 0, 1, 0, 0, 0), (43, .aload_n 0, 1, 0, 0, 0), (44, .invokevirtual 188, 3, 220, 0, 0), (47, .iconst 1, 1, 0, 0, 0), (48, .isub, 1, 0, 0, 0), (49, .invokevirtual 167, 3, 217, 2, 0), (52, .istore_n 1, 1, 0, 0, 0), (53, .aload_n 0, 1, 0, 0, 0), (54, .invokevirtual 136, 3, 212, 0, 0)]
noncomputable def k_cX12_readShut_1 : List xR := [(57, .ifCond .eq 16, 3, 0, 0, 0), (60, .aload_n 0, 1, 0, 0, 0), (61, .getfield 31, 3, 12, 14, 0), (64, .bipush 7, 2, 0, 0, 0), (66, .dup2, 1, 0, 0, 0), (67, .iaload, 1, 0, 0, 0), (68, .iconst 1, 1, 0, 0, 0), (69, .iload_n 1, 1, 0, 0, 0), (70, .ishl, 1, 0, 0, 0), (71, .ior, 1, 0, 0, 0), (72, .iastore, 1, 0, 0, 0), (73, .return_, 1, 0, 0, 0)]
noncomputable def M_cX12_readShut : xM := (RX12, yX12_readShut, cX12_readShut, 2, none, false, 12, [(54, k_cX12_readShut_0), (73, k_cX12_readShut_1)])
noncomputable def k_cX12_readHole_0 : List xR := [(0, .aload_n 0, 1, 0, 0, 0), (1, .invokevirtual 191, 3, 224, 0, 0), (4, .ifCond .eq 34, 3, 0, 0, 0), (7, .aload_n 0, 1, 0, 0, 0), (8, .getfield 31, 3, 12, 14, 0), (11, .bipush 7, 2, 0, 0, 0), (13, .iaload, 1, 0, 0, 0), (14, .aload_n 0, 1, 0, 0, 0), (15, .getfield 123, 3, 12, 11, 0), (18, .ishr, 1, 0, 0, 0), (19, .iconst 1, 1, 0, 0, 0), (20, .iand, 1, 0, 0, 0), (21, .iconst 1, 1, 0, 0, 0), (22, .if_icmp .eq 11, 3, 0, 0, 0), (25, .aload_n 0, 1, 0, 0, 0), (26, .getfield 123, 3, 12, 11, 0), (29, .iload_n 1, 1, 0, 0, 0), (30, .if_icmp .ne 8, 3, 0, 0, 0), (33, .aload_n 0, 1, 0, 0, 0), (34, .iconst 2, 1, 0, 0, 0), (35, .invokevirtual 159, 3, 213, 1, 0), (38, .aload_n 0, 1, 0, 0, 0), (39, .iconst 0, 1, 0, 0, 0), (40, .aload_n 0, 1, 0, 0, 0), (41, .invokevirtual 188, 3, 220, 0, 0), (44, .iconst 1, 1, 0, 0, 0), (45, .isub, 1, 0, 0, 0), (46, .invokevirtual 167, 3, 217, 2, 0), (49, .ireturn, 1, 0, 0, 0)]
noncomputable def M_cX12_readHole : xM := (RX12, yX12_readHole, cX12_readHole, 2, (some .int), false, 12, [(49, k_cX12_readHole_0)])
noncomputable def k_cX12_readComing_0 : List xR := [(0, .bipush 24, 2, 0, 0, 0), (2, .iconst 3, 1, 0, 0, 0), (3, .aload_n 0, 1, 0, 0, 0), (4, .getfield 31, 3, 12, 14, 0), (7, .iconst 5, 1, 0, 0, 0), (8, .iaload, 1, 0, 0, 0), (9, .imul, 1, 0, 0, 0), (10, .iadd, 1, 0, 0, 0), (11, .istore_n 3, 1, 0, 0, 0), (12, .aload_n 0, 1, 0, 0, 0), (13, .iconst (-1), 1, 0, 0, 0), (14, .invokevirtual 198, 3, 227, 1, 0), (17, .istore 4, 2, 0, 0, 0), (19, .iload_n 2, 1, 0, 0, 0), (20, .ifCond .eq 12, 3, 0, 0, 0), (23, .aload_n 0, 1, 0, 0, 0), (24, .iload 4, 2, 0, 0, 0), (26, .invokevirtual 198, 3, 227, 1, 0), (29, .goto 4, 3, 0, 0, 0), (32, .iconst (-1), 1, 0, 0, 0), (33, .istore 5, 2, 0, 0, 0), (35, .aload_n 0, 1, 0, 0, 0), (36, .invokevirtual 136, 3, 212, 0, 0), (39, .ifCond .ne 4, 3, 0, 0, 0), (42, .return_, 1, 0, 0, 0), (43, .aload_n 0, 1, 0, 0, 0), (44, .getfield 31, 3, 12, 14, 0), (47, .iload_n 3, 1, 0, 0, 0), (48, .iconst 0, 1, 0, 0, 0), (49, .iadd, 1, 0, 0, 0), (50, .iload 4, 2, 0, 0, 0), (52, .iastore, 1, 0, 0, 0)]
noncomputable def k_cX12_readComing_1 : List xR := [(53, .aload_n 0, 1, 0, 0, 0), (54, .getfield 31, 3, 12, 14, 0), (57, .iload_n 3, 1, 0, 0, 0), (58, .iconst 1, 1, 0, 0, 0), (59, .iadd, 1, 0, 0, 0), (60, .iload 5, 2, 0, 0, 0), (62, .iastore, 1, 0, 0, 0), (63, .aload_n 0, 1, 0, 0, 0), (64, .getfield 31, 3, 12, 14, 0), (67, .iload_n 3, 1, 0, 0, 0), (68, .iconst 2, 1, 0, 0, 0), (69, .iadd, 1, 0, 0, 0), (70, .iload_n 1, 1, 0, 0, 0), (71, .ifCond .eq 7, 3, 0, 0, 0), (74, .iconst 1, 1, 0, 0, 0), (75, .goto 4, 3, 0, 0, 0), (78, .iconst 0, 1, 0, 0, 0), (79, .iastore, 1, 0, 0, 0), (80, .aload_n 0, 1, 0, 0, 0), (81, .getfield 31, 3, 12, 14, 0), (84, .iconst 5, 1, 0, 0, 0), (85, .dup2, 1, 0, 0, 0), (86, .iaload, 1, 0, 0, 0), (87, .iconst 1, 1, 0, 0, 0), (88, .iadd, 1, 0, 0, 0), (89, .iastore, 1, 0, 0, 0), (90, .return_, 1, 0, 0, 0)]
noncomputable def M_cX12_readComing : xM := (RX12, yX12_readComing, cX12_readComing, 6, none, false, 12, [(52, k_cX12_readComing_0), (90, k_cX12_readComing_1)])
noncomputable def k_cX12_readPlayer_0 : List xR := [(0, .bipush 96, 2, 0, 0, 0), (2, .iconst 5, 1, 0, 0, 0), (3, .aload_n 0, 1, 0, 0, 0), (4, .getfield 31, 3, 12, 14, 0), (7, .bipush 6, 2, 0, 0, 0), (9, .iaload, 1, 0, 0, 0), (10, .imul, 1, 0, 0, 0), (11, .iadd, 1, 0, 0, 0), (12, .istore_n 1, 1, 0, 0, 0), (13, .aload_n 0, 1, 0, 0, 0), (14, .getfield 31, 3, 12, 14, 0), (17, .iload_n 1, 1, 0, 0, 0), (18, .iconst 0, 1, 0, 0, 0), (19, .iadd, 1, 0, 0, 0), (20, .aload_n 0, 1, 0, 0, 0), (21, .ldc 201, 2, 4294967317, 0, 0), (23, .iconst 1, 1, 0, 0, 0), (24, .bipush 9, 2, 0, 0, 0), (26, .invokevirtual 174, 3, 218, 3, 0), (29, .iastore, 1, 0, 0, 0), (30, .aload_n 0, 1, 0, 0, 0), (31, .getfield 31, 3, 12, 14, 0), (34, .iload_n 1, 1, 0, 0, 0), (35, .iconst 1, 1, 0, 0, 0), (36, .iadd, 1, 0, 0, 0), (37, .aload_n 0, 1, 0, 0, 0), (38, .ldc 203, 2, 4294967318, 0, 0), (40, .iconst 0, 1, 0, 0, 0), (41, .bipush 20, 2, 0, 0, 0), (43, .invokevirtual 174, 3, 218, 3, 0), (46, .iastore, 1, 0, 0, 0), (47, .aload_n 0, 1, 0, 0, 0)]
noncomputable def k_cX12_readPlayer_1 : List xR := [(48, .getfield 31, 3, 12, 14, 0), (51, .iload_n 1, 1, 0, 0, 0), (52, .iconst 2, 1, 0, 0, 0), (53, .iadd, 1, 0, 0, 0), (54, .aload_n 0, 1, 0, 0, 0), (55, .ldc 205, 2, 4294967319, 0, 0), (57, .iconst 0, 1, 0, 0, 0), (58, .bipush 99, 2, 0, 0, 0), (60, .invokevirtual 174, 3, 218, 3, 0), (63, .iastore, 1, 0, 0, 0), (64, .aload_n 0, 1, 0, 0, 0), (65, .getfield 31, 3, 12, 14, 0), (68, .iload_n 1, 1, 0, 0, 0), (69, .iconst 3, 1, 0, 0, 0), (70, .iadd, 1, 0, 0, 0), (71, .aload_n 0, 1, 0, 0, 0), (72, .ldc 207, 2, 4294967320, 0, 0), (74, .iconst 0, 1, 0, 0, 0), (75, .bipush 9, 2, 0, 0, 0), (77, .invokevirtual 174, 3, 218, 3, 0), (80, .iastore, 1, 0, 0, 0), (81, .aload_n 0, 1, 0, 0, 0), (82, .getfield 31, 3, 12, 14, 0), (85, .iload_n 1, 1, 0, 0, 0), (86, .iconst 4, 1, 0, 0, 0), (87, .iadd, 1, 0, 0, 0), (88, .aload_n 0, 1, 0, 0, 0), (89, .ldc 209, 2, 4294967321, 0, 0), (91, .iconst 0, 1, 0, 0, 0), (92, .aload_n 0, 1, 0, 0, 0), (93, .invokevirtual 188, 3, 220, 0, 0), (96, .iconst 1, 1, 0, 0, 0)]
noncomputable def k_cX12_readPlayer_2 : List xR := [(97, .isub, 1, 0, 0, 0), (98, .invokevirtual 174, 3, 218, 3, 0), (101, .iastore, 1, 0, 0, 0), (102, .aload_n 0, 1, 0, 0, 0), (103, .getfield 31, 3, 12, 14, 0), (106, .bipush 6, 2, 0, 0, 0), (108, .dup2, 1, 0, 0, 0), (109, .iaload, 1, 0, 0, 0), (110, .iconst 1, 1, 0, 0, 0), (111, .iadd, 1, 0, 0, 0), (112, .iastore, 1, 0, 0, 0), (113, .return_, 1, 0, 0, 0)]
noncomputable def M_cX12_readPlayer : xM := (RX12, yX12_readPlayer, cX12_readPlayer, 2, none, false, 12, [(47, k_cX12_readPlayer_0), (96, k_cX12_readPlayer_1), (113, k_cX12_readPlayer_2)])
noncomputable def k_cX12_readNext_0 : List xR := [(0, .aload_n 0, 1, 0, 0, 0), (1, .ldc 211, 2, 4294967309, 0, 0), (3, .invokevirtual 149, 3, 214, 1, 0), (6, .ifCond .ne 21, 3, 0, 0, 0), (9, .aload_n 0, 1, 0, 0, 0), (10, .ldc 212, 2, 4294967310, 0, 0), (12, .invokevirtual 149, 3, 214, 1, 0), (15, .ifCond .ne 12, 3, 0, 0, 0), (18, .aload_n 0, 1, 0, 0, 0), (19, .ldc 214, 2, 4294967311, 0, 0), (21, .invokevirtual 149, 3, 214, 1, 0), (24, .ifCond .eq 7, 3, 0, 0, 0), (27, .iconst 1, 1, 0, 0, 0), (28, .goto 4, 3, 0, 0, 0), (31, .iconst 0, 1, 0, 0, 0), (32, .istore_n 1, 1, 0, 0, 0), (33, .iload_n 1, 1, 0, 0, 0), (34, .ifCond .ne 44, 3, 0, 0, 0), (37, .aload_n 0, 1, 0, 0, 0), (38, .ldc 216, 2, 4294967312, 0, 0), (40, .invokevirtual 149, 3, 214, 1, 0), (43, .ifCond .ne 35, 3, 0, 0, 0), (46, .aload_n 0, 1, 0, 0, 0), (47, .ldc 218, 2, 4294967313, 0, 0), (49, .invokevirtual 149, 3, 214, 1, 0), (52, .ifCond .ne 26, 3, 0, 0, 0), (55, .aload_n 0, 1, 0, 0, 0), (56, .ldc 220, 2, 4294967314, 0, 0), (58, .invokevirtual 149, 3, 214, 1, 0), (61, .ifCond .ne 17, 3, 0, 0, 0), (64, .aload_n 0, 1, 0, 0, 0), (65, .ldc 222, 2, 4294967315, 0, 0)]
noncomputable def k_cX12_readNext_1 : List xR := [(67, .invokevirtual 149, 3, 214, 1, 0), (70, .ifCond .ne 8, 3, 0, 0, 0), (73, .aload_n 0, 1, 0, 0, 0), (74, .iconst 1, 1, 0, 0, 0), (75, .invokevirtual 159, 3, 213, 1, 0), (78, .iload_n 1, 1, 0, 0, 0), (79, .ifCond .eq 14, 3, 0, 0, 0), (82, .aload_n 0, 1, 0, 0, 0), (83, .getfield 31, 3, 12, 14, 0), (86, .iconst 5, 1, 0, 0, 0), (87, .iaload, 1, 0, 0, 0), (88, .bipush 24, 2, 0, 0, 0), (90, .if_icmp .eq 23, 3, 0, 0, 0), (93, .aload_n 0, 1, 0, 0, 0), (94, .ldc 220, 2, 4294967314, 0, 0), (96, .invokevirtual 149, 3, 214, 1, 0), (99, .ifCond .eq 19, 3, 0, 0, 0), (102, .aload_n 0, 1, 0, 0, 0), (103, .getfield 31, 3, 12, 14, 0), (106, .bipush 6, 2, 0, 0, 0), (108, .iaload, 1, 0, 0, 0), (109, .iconst 4, 1, 0, 0, 0), (110, .if_icmp .ne 8, 3, 0, 0, 0), (113, .aload_n 0, 1, 0, 0, 0), (114, .iconst 3, 1, 0, 0, 0), (115, .invokevirtual 159, 3, 213, 1, 0), (118, .aload_n 0, 1, 0, 0, 0), (119, .invokevirtual 136, 3, 212, 0, 0), (122, .ifCond .ne 4, 3, 0, 0, 0), (125, .return_, 1, 0, 0, 0), (126, .aload_n 0, 1, 0, 0, 0), (127, .ldc 216, 2, 4294967312, 0, 0)]
noncomputable def k_cX12_readNext_2 : List xR := [(129, .invokevirtual 156, 3, 215, 1, 0), (132, .ifCond .eq 10, 3, 0, 0, 0), (135, .aload_n 0, 1, 0, 0, 0), (136, .invokevirtual 224, 3, 223, 0, 0), (139, .goto 124, 3, 0, 0, 0), (142, .aload_n 0, 1, 0, 0, 0), (143, .ldc 218, 2, 4294967313, 0, 0), (145, .invokevirtual 156, 3, 215, 1, 0), (148, .ifCond .eq 10, 3, 0, 0, 0), (151, .aload_n 0, 1, 0, 0, 0), (152, .invokevirtual 227, 3, 226, 0, 0), (155, .goto 108, 3, 0, 0, 0), (158, .aload_n 0, 1, 0, 0, 0), (159, .ldc 211, 2, 4294967309, 0, 0), (161, .invokevirtual 156, 3, 215, 1, 0), (164, .ifCond .eq 12, 3, 0, 0, 0), (167, .aload_n 0, 1, 0, 0, 0), (168, .iconst 0, 1, 0, 0, 0), (169, .iconst 0, 1, 0, 0, 0), (170, .invokevirtual 230, 3, 228, 2, 0), (173, .goto 90, 3, 0, 0, 0), (176, .aload_n 0, 1, 0, 0, 0), (177, .ldc 212, 2, 4294967310, 0, 0), (179, .invokevirtual 156, 3, 215, 1, 0), (182, .ifCond .eq 12, 3, 0, 0, 0), (185, .aload_n 0, 1, 0, 0, 0), (186, .iconst 1, 1, 0, 0, 0), (187, .iconst 0, 1, 0, 0, 0), (188, .invokevirtual 230, 3, 228, 2, 0), (191, .goto 72, 3, 0, 0, 0), (194, .aload_n 0, 1, 0, 0, 0), (195, .ldc 214, 2, 4294967311, 0, 0)]
noncomputable def k_cX12_readNext_3 : List xR := [(197, .invokevirtual 156, 3, 215, 1, 0), (200, .ifCond .eq 12, 3, 0, 0, 0), (203, .aload_n 0, 1, 0, 0, 0), (204, .iconst 0, 1, 0, 0, 0), (205, .iconst 1, 1, 0, 0, 0), (206, .invokevirtual 230, 3, 228, 2, 0), (209, .goto 54, 3, 0, 0, 0), (212, .aload_n 0, 1, 0, 0, 0), (213, .ldc 220, 2, 4294967314, 0, 0), (215, .invokevirtual 156, 3, 215, 1, 0), (218, .ifCond .eq 10, 3, 0, 0, 0), (221, .aload_n 0, 1, 0, 0, 0), (222, .invokevirtual 234, 3, 229, 0, 0), (225, .goto 38, 3, 0, 0, 0), (228, .aload_n 0, 1, 0, 0, 0), (229, .invokevirtual 153, 3, 211, 0, 0), (232, .aload_n 0, 1, 0, 0, 0), (233, .getfield 31, 3, 12, 14, 0), (236, .bipush 10, 2, 0, 0, 0), (238, .aload_n 0, 1, 0, 0, 0), (239, .iconst 1, 1, 0, 0, 0), (240, .bipush 99, 2, 0, 0, 0), (242, .invokevirtual 167, 3, 217, 2, 0), (245, .iastore, 1, 0, 0, 0), (246, .aload_n 0, 1, 0, 0, 0), (247, .getfield 31, 3, 12, 14, 0), (250, .bipush 11, 2, 0, 0, 0), (252, .aload_n 0, 1, 0, 0, 0), (253, .ldc 237, 2, 4294967322, 0, 0), (255, .iconst 1, 1, 0, 0, 0), (256, .sipush 500, 3, 0, 0, 0), (259, .invokevirtual 174, 3, 218, 3, 0)]
noncomputable def k_cX12_readNext_4 : List xR := [(262, .iastore, 1, 0, 0, 0), (263, .return_, 1, 0, 0, 0)]
noncomputable def M_cX12_readNext : xM := (RX12, yX12_readNext, cX12_readNext, 2, none, false, 12, [(65, k_cX12_readNext_0), (127, k_cX12_readNext_1), (195, k_cX12_readNext_2), (259, k_cX12_readNext_3), (263, k_cX12_readNext_4)])
noncomputable def k_cX12_readLine_0 : List xR := [(0, .aload_n 0, 1, 0, 0, 0), (1, .getfield 31, 3, 12, 14, 0), (4, .bipush 9, 2, 0, 0, 0), (6, .iaload, 1, 0, 0, 0), (7, .ifCond .ne 10, 3, 0, 0, 0), (10, .aload_n 0, 1, 0, 0, 0), (11, .invokevirtual 239, 3, 221, 0, 0), (14, .goto 7, 3, 0, 0, 0), (17, .aload_n 0, 1, 0, 0, 0), (18, .invokevirtual 242, 3, 230, 0, 0), (21, .aload_n 0, 1, 0, 0, 0), (22, .invokevirtual 136, 3, 212, 0, 0), (25, .ifCond .eq 16, 3, 0, 0, 0), (28, .aload_n 0, 1, 0, 0, 0), (29, .getfield 112, 3, 12, 10, 0), (32, .iconst 3, 1, 0, 0, 0), (33, .if_icmp .eq 8, 3, 0, 0, 0), (36, .aload_n 0, 1, 0, 0, 0), (37, .iconst 1, 1, 0, 0, 0), (38, .invokevirtual 159, 3, 213, 1, 0), (41, .aload_n 0, 1, 0, 0, 0), (42, .invokevirtual 136, 3, 212, 0, 0), (45, .ifCond .eq 7, 3, 0, 0, 0), (48, .aload_n 0, 1, 0, 0, 0), (49, .invokevirtual 153, 3, 211, 0, 0), (52, .aload_n 0, 1, 0, 0, 0), (53, .getfield 31, 3, 12, 14, 0), (56, .bipush 9, 2, 0, 0, 0), (58, .dup2, 1, 0, 0, 0), (59, .iaload, 1, 0, 0, 0), (60, .iconst 1, 1, 0, 0, 0), (61, .iadd, 1, 0, 0, 0)]
noncomputable def k_cX12_readLine_1 : List xR := [(62, .iastore, 1, 0, 0, 0), (63, .return_, 1, 0, 0, 0)]
noncomputable def M_cX12_readLine : xM := (RX12, yX12_readLine, cX12_readLine, 1, none, false, 12, [(61, k_cX12_readLine_0), (63, k_cX12_readLine_1)])
noncomputable def k_cX12_board_0 : List xR := [(0, .aload_n 0, 1, 0, 0, 0), (1, .aload_n 0, 1, 0, 0, 0), (2, .getfield 96, 3, 12, 5, 0), (5, .putfield 99, 3, 12, 7, 0), (8, .aload_n 0, 1, 0, 0, 0), (9, .iconst 0, 1, 0, 0, 0), (10, .putfield 96, 3, 12, 5, 0), (13, .aload_n 0, 1, 0, 0, 0), (14, .iconst 0, 1, 0, 0, 0), (15, .putfield 102, 3, 12, 8, 0), (18, .aload_n 0, 1, 0, 0, 0), (19, .iconst 0, 1, 0, 0, 0), (20, .putfield 133, 3, 12, 12, 0), (23, .aload_n 0, 1, 0, 0, 0), (24, .iconst (-1), 1, 0, 0, 0), (25, .putfield 27, 3, 12, 13, 0), (28, .iconst 0, 1, 0, 0, 0), (29, .istore_n 1, 1, 0, 0, 0), (30, .iload_n 1, 1, 0, 0, 0), (31, .bipush 116, 2, 0, 0, 0), (33, .if_icmp .ge 16, 3, 0, 0, 0), (36, .aload_n 0, 1, 0, 0, 0), (37, .getfield 31, 3, 12, 14, 0), (40, .iload_n 1, 1, 0, 0, 0), (41, .iconst 0, 1, 0, 0, 0), (42, .iastore, 1, 0, 0, 0), (43, .iinc 1 1, 3, 0, 0, 0), (46, .goto (-16), 3, 0, 0, 0), (49, .aload_n 0, 1, 0, 0, 0), (50, .invokevirtual 153, 3, 211, 0, 0), (53, .aload_n 0, 1, 0, 0, 0), (54, .invokevirtual 136, 3, 212, 0, 0)]
noncomputable def k_cX12_board_1 : List xR := [(57, .ifCond .eq 17, 3, 0, 0, 0), (60, .aload_n 0, 1, 0, 0, 0), (61, .getfield 112, 3, 12, 10, 0), (64, .ifCond .eq 10, 3, 0, 0, 0), (67, .aload_n 0, 1, 0, 0, 0), (68, .invokevirtual 245, 3, 231, 0, 0), (71, .goto (-18), 3, 0, 0, 0), (74, .aload_n 0, 1, 0, 0, 0), (75, .invokevirtual 136, 3, 212, 0, 0), (78, .ifCond .ne 6, 3, 0, 0, 0), (81, .bipush (-4), 2, 0, 0, 0), (83, .ireturn, 1, 0, 0, 0), (84, .iconst 0, 1, 0, 0, 0), (85, .istore_n 1, 1, 0, 0, 0), (86, .iload_n 1, 1, 0, 0, 0), (87, .bipush 116, 2, 0, 0, 0), (89, .if_icmp .ge 21, 3, 0, 0, 0), (92, .aload_n 0, 1, 0, 0, 0), (93, .getfield 9, 3, 12, 1, 0), (96, .iload_n 1, 1, 0, 0, 0), (97, .aload_n 0, 1, 0, 0, 0), (98, .getfield 31, 3, 12, 14, 0), (101, .iload_n 1, 1, 0, 0, 0), (102, .iaload, 1, 0, 0, 0), (103, .iastore, 1, 0, 0, 0), (104, .iinc 1 1, 3, 0, 0, 0), (107, .goto (-21), 3, 0, 0, 0), (110, .aload_n 0, 1, 0, 0, 0), (111, .getfield 9, 3, 12, 1, 0), (114, .bipush 9, 2, 0, 0, 0), (116, .iaload, 1, 0, 0, 0), (117, .ireturn, 1, 0, 0, 0)]
noncomputable def M_cX12_board : xM := (RX12, yX12_board, cX12_board, 2, (some .int), false, 12, [(54, k_cX12_board_0), (117, k_cX12_board_1)])
noncomputable def k_cX12_stayIn_0 : List xR := [(0, .iconst (-1), 1, 0, 0, 0), (1, .istore_n 2, 1, 0, 0, 0), (2, .bipush 7, 2, 0, 0, 0), (4, .istore_n 3, 1, 0, 0, 0), (5, .iconst 0, 1, 0, 0, 0), (6, .istore 4, 2, 0, 0, 0), (8, .iload 4, 2, 0, 0, 0), (10, .aload_n 0, 1, 0, 0, 0), (11, .getfield 9, 3, 12, 1, 0), (14, .iconst 4, 1, 0, 0, 0), (15, .iaload, 1, 0, 0, 0), (16, .if_icmp .ge 56, 3, 0, 0, 0), (19, .aload_n 0, 1, 0, 0, 0), (20, .getfield 9, 3, 12, 1, 0), (23, .bipush 12, 2, 0, 0, 0), (25, .iconst 2, 1, 0, 0, 0), (26, .iload 4, 2, 0, 0, 0), (28, .imul, 1, 0, 0, 0), (29, .iadd, 1, 0, 0, 0), (30, .iaload, 1, 0, 0, 0), (31, .istore 5, 2, 0, 0, 0), (33, .iload 5, 2, 0, 0, 0), (35, .iload_n 1, 1, 0, 0, 0), (36, .if_icmp .gt 30, 3, 0, 0, 0), (39, .iload 5, 2, 0, 0, 0), (41, .iload_n 2, 1, 0, 0, 0), (42, .if_icmp .ge 6, 3, 0, 0, 0), (45, .goto 21, 3, 0, 0, 0), (48, .iload 5, 2, 0, 0, 0), (50, .istore_n 2, 1, 0, 0, 0), (51, .aload_n 0, 1, 0, 0, 0), (52, .getfield 9, 3, 12, 1, 0)]
noncomputable def k_cX12_stayIn_1 : List xR := [(55, .bipush 12, 2, 0, 0, 0), (57, .iconst 2, 1, 0, 0, 0), (58, .iload 4, 2, 0, 0, 0), (60, .imul, 1, 0, 0, 0), (61, .iadd, 1, 0, 0, 0), (62, .iconst 1, 1, 0, 0, 0), (63, .iadd, 1, 0, 0, 0), (64, .iaload, 1, 0, 0, 0), (65, .istore_n 3, 1, 0, 0, 0), (66, .iinc 4 1, 3, 0, 0, 0), (69, .goto (-61), 3, 0, 0, 0), (72, .iload_n 3, 1, 0, 0, 0), (73, .ireturn, 1, 0, 0, 0)]
noncomputable def M_cX12_stayIn : xM := (RX12, yX12_stayIn, cX12_stayIn, 6, (some .int), false, 12, [(52, k_cX12_stayIn_0), (73, k_cX12_stayIn_1)])
noncomputable def k_cX12_nextTick_0 : List xR := [(0, .aload_n 0, 1, 0, 0, 0), (1, .getfield 248, 3, 12, 18, 0), (4, .ifCond .ne 7, 3, 0, 0, 0), (7, .iconst 0, 1, 0, 0, 0), (8, .goto 23, 3, 0, 0, 0), (11, .aload_n 0, 1, 0, 0, 0), (12, .getfield 40, 3, 12, 17, 0), (15, .aload_n 0, 1, 0, 0, 0), (16, .getfield 248, 3, 12, 18, 0), (19, .iconst 1, 1, 0, 0, 0), (20, .isub, 1, 0, 0, 0), (21, .iaload, 1, 0, 0, 0), (22, .aload_n 0, 1, 0, 0, 0), (23, .getfield 9, 3, 12, 1, 0), (26, .iconst 3, 1, 0, 0, 0), (27, .iaload, 1, 0, 0, 0), (28, .iadd, 1, 0, 0, 0), (29, .iconst 1, 1, 0, 0, 0), (30, .iadd, 1, 0, 0, 0), (31, .ireturn, 1, 0, 0, 0)]
noncomputable def M_cX12_nextTick : xM := (RX12, yX12_nextTick, cX12_nextTick, 1, (some .int), false, 12, [(31, k_cX12_nextTick_0)])
noncomputable def k_cX12_mayCome_0 : List xR := [(0, .aload_n 0, 1, 0, 0, 0), (1, .invokevirtual 251, 3, 234, 0, 0), (4, .istore_n 1, 1, 0, 0, 0), (5, .aload_n 0, 1, 0, 0, 0), (6, .getfield 248, 3, 12, 18, 0), (9, .bipush 60, 2, 0, 0, 0), (11, .if_icmp .ge 27, 3, 0, 0, 0), (14, .iload_n 1, 1, 0, 0, 0), (15, .aload_n 0, 1, 0, 0, 0), (16, .iload_n 1, 1, 0, 0, 0), (17, .invokevirtual 254, 3, 233, 1, 0), (20, .iadd, 1, 0, 0, 0), (21, .iconst 1, 1, 0, 0, 0), (22, .isub, 1, 0, 0, 0), (23, .aload_n 0, 1, 0, 0, 0), (24, .getfield 9, 3, 12, 1, 0), (27, .iconst 2, 1, 0, 0, 0), (28, .iaload, 1, 0, 0, 0), (29, .iconst 1, 1, 0, 0, 0), (30, .isub, 1, 0, 0, 0), (31, .if_icmp .gt 7, 3, 0, 0, 0), (34, .iconst 1, 1, 0, 0, 0), (35, .goto 4, 3, 0, 0, 0), (38, .iconst 0, 1, 0, 0, 0), (39, .ireturn, 1, 0, 0, 0)]
noncomputable def M_cX12_mayCome : xM := (RX12, yX12_mayCome, cX12_mayCome, 2, (some .boolean), false, 12, [(39, k_cX12_mayCome_0)])
noncomputable def k_cX12_come_0 : List xR := [(0, .aload_n 0, 1, 0, 0, 0), (1, .invokevirtual 251, 3, 234, 0, 0), (4, .istore 4, 2, 0, 0, 0), (6, .aload_n 0, 1, 0, 0, 0), (7, .getfield 34, 3, 12, 15, 0), (10, .iconst 3, 1, 0, 0, 0), (11, .aload_n 0, 1, 0, 0, 0), (12, .getfield 248, 3, 12, 18, 0), (15, .imul, 1, 0, 0, 0), (16, .iconst 0, 1, 0, 0, 0), (17, .iadd, 1, 0, 0, 0), (18, .iload_n 1, 1, 0, 0, 0), (19, .iastore, 1, 0, 0, 0), (20, .aload_n 0, 1, 0, 0, 0), (21, .getfield 34, 3, 12, 15, 0), (24, .iconst 3, 1, 0, 0, 0), (25, .aload_n 0, 1, 0, 0, 0), (26, .getfield 248, 3, 12, 18, 0), (29, .imul, 1, 0, 0, 0), (30, .iconst 1, 1, 0, 0, 0), (31, .iadd, 1, 0, 0, 0), (32, .iload_n 2, 1, 0, 0, 0), (33, .iastore, 1, 0, 0, 0), (34, .aload_n 0, 1, 0, 0, 0), (35, .getfield 34, 3, 12, 15, 0), (38, .iconst 3, 1, 0, 0, 0), (39, .aload_n 0, 1, 0, 0, 0), (40, .getfield 248, 3, 12, 18, 0), (43, .imul, 1, 0, 0, 0), (44, .iconst 2, 1, 0, 0, 0), (45, .iadd, 1, 0, 0, 0), (46, .iload_n 3, 1, 0, 0, 0)]
noncomputable def k_cX12_come_1 : List xR := [(47, .iastore, 1, 0, 0, 0), (48, .aload_n 0, 1, 0, 0, 0), (49, .getfield 37, 3, 12, 16, 0), (52, .aload_n 0, 1, 0, 0, 0), (53, .getfield 248, 3, 12, 18, 0), (56, .iload 4, 2, 0, 0, 0), (58, .iastore, 1, 0, 0, 0), (59, .aload_n 0, 1, 0, 0, 0), (60, .getfield 40, 3, 12, 17, 0), (63, .aload_n 0, 1, 0, 0, 0), (64, .getfield 248, 3, 12, 18, 0), (67, .iload 4, 2, 0, 0, 0), (69, .aload_n 0, 1, 0, 0, 0), (70, .iload 4, 2, 0, 0, 0), (72, .invokevirtual 254, 3, 233, 1, 0), (75, .iadd, 1, 0, 0, 0), (76, .iconst 1, 1, 0, 0, 0), (77, .isub, 1, 0, 0, 0), (78, .iastore, 1, 0, 0, 0), (79, .aload_n 0, 1, 0, 0, 0), (80, .dup, 1, 0, 0, 0), (81, .getfield 248, 3, 12, 18, 0), (84, .iconst 1, 1, 0, 0, 0), (85, .iadd, 1, 0, 0, 0), (86, .putfield 248, 3, 12, 18, 0), (89, .return_, 1, 0, 0, 0)]
noncomputable def M_cX12_come : xM := (RX12, yX12_come, cX12_come, 5, none, false, 12, [(46, k_cX12_come_0), (89, k_cX12_come_1)])
noncomputable def k_cX12_lay_0 : List xR := [(0, .aload_n 0, 1, 0, 0, 0), (1, .iconst 0, 1, 0, 0, 0), (2, .putfield 248, 3, 12, 18, 0), (5, .aload_n 0, 1, 0, 0, 0), (6, .getfield 9, 3, 12, 1, 0), (9, .iconst 5, 1, 0, 0, 0), (10, .iaload, 1, 0, 0, 0), (11, .ifCond .le 55, 3, 0, 0, 0), (14, .aload_n 0, 1, 0, 0, 0), (15, .invokevirtual 257, 3, 235, 0, 0), (18, .ifCond .eq 48, 3, 0, 0, 0), (21, .aload_n 0, 1, 0, 0, 0), (22, .getfield 9, 3, 12, 1, 0), (25, .bipush 8, 2, 0, 0, 0), (27, .iaload, 1, 0, 0, 0), (28, .aload_n 0, 1, 0, 0, 0), (29, .getfield 248, 3, 12, 18, 0), (32, .iadd, 1, 0, 0, 0), (33, .aload_n 0, 1, 0, 0, 0), (34, .getfield 9, 3, 12, 1, 0), (37, .iconst 5, 1, 0, 0, 0), (38, .iaload, 1, 0, 0, 0), (39, .irem, 1, 0, 0, 0), (40, .istore_n 1, 1, 0, 0, 0), (41, .aload_n 0, 1, 0, 0, 0), (42, .aload_n 0, 1, 0, 0, 0), (43, .iload_n 1, 1, 0, 0, 0), (44, .iconst 0, 1, 0, 0, 0), (45, .invokevirtual 260, 3, 206, 2, 0), (48, .aload_n 0, 1, 0, 0, 0), (49, .iload_n 1, 1, 0, 0, 0), (50, .iconst 1, 1, 0, 0, 0)]
noncomputable def k_cX12_lay_1 : List xR := [(51, .invokevirtual 260, 3, 206, 2, 0), (54, .aload_n 0, 1, 0, 0, 0), (55, .iload_n 1, 1, 0, 0, 0), (56, .iconst 2, 1, 0, 0, 0), (57, .invokevirtual 260, 3, 206, 2, 0), (60, .invokevirtual 263, 3, 236, 3, 0), (63, .goto (-58), 3, 0, 0, 0), (66, .return_, 1, 0, 0, 0)]
noncomputable def M_cX12_lay : xM := (RX12, yX12_lay, cX12_lay, 2, none, false, 12, [(50, k_cX12_lay_0), (66, k_cX12_lay_1)])
noncomputable def k_cX12_inGame_0 : List xR := [(0, .aload_n 0, 1, 0, 0, 0), (1, .getfield 34, 3, 12, 15, 0), (4, .iconst 3, 1, 0, 0, 0), (5, .iload_n 1, 1, 0, 0, 0), (6, .imul, 1, 0, 0, 0), (7, .iload_n 2, 1, 0, 0, 0), (8, .iadd, 1, 0, 0, 0), (9, .iaload, 1, 0, 0, 0), (10, .ireturn, 1, 0, 0, 0)]
noncomputable def M_cX12_inGame : xM := (RX12, yX12_inGame, cX12_inGame, 3, (some .int), false, 12, [(10, k_cX12_inGame_0)])
noncomputable def k_cX12_drum_0 : List xR := [(0, .aload_n 0, 1, 0, 0, 0), (1, .iload_n 1, 1, 0, 0, 0), (2, .invokevirtual 267, 3, 204, 1, 0), (5, .ifCond .eq 24, 3, 0, 0, 0), (8, .iload_n 2, 1, 0, 0, 0), (9, .i2l, 1, 0, 0, 0), (10, .lconst 0, 1, 0, 0, 0), (11, .ldc2_w 86, 3, 2, 0, 0), (14, .invokestatic 88, 3, 196, 3, 0), (17, .ifCond .eq 12, 3, 0, 0, 0), (20, .aload_n 0, 1, 0, 0, 0), (21, .iload_n 1, 1, 0, 0, 0), (22, .iload_n 2, 1, 0, 0, 0), (23, .invokevirtual 260, 3, 206, 2, 0), (26, .goto 5, 3, 0, 0, 0), (29, .bipush (-2), 2, 0, 0, 0), (31, .ireturn, 1, 0, 0, 0)]
noncomputable def M_cX12_drum : xM := (RX12, yX12_drum, cX12_drum, 3, (some .int), false, 12, [(31, k_cX12_drum_0)])
noncomputable def k_cX12_player_0 : List xR := [(0, .aload_n 0, 1, 0, 0, 0), (1, .iload_n 1, 1, 0, 0, 0), (2, .invokevirtual 270, 3, 205, 1, 0), (5, .ifCond .eq 24, 3, 0, 0, 0), (8, .iload_n 2, 1, 0, 0, 0), (9, .i2l, 1, 0, 0, 0), (10, .lconst 0, 1, 0, 0, 0), (11, .ldc2_w 273, 3, 4, 0, 0), (14, .invokestatic 88, 3, 196, 3, 0), (17, .ifCond .eq 12, 3, 0, 0, 0), (20, .aload_n 0, 1, 0, 0, 0), (21, .iload_n 1, 1, 0, 0, 0), (22, .iload_n 2, 1, 0, 0, 0), (23, .invokevirtual 275, 3, 207, 2, 0), (26, .goto 5, 3, 0, 0, 0), (29, .bipush (-2), 2, 0, 0, 0), (31, .ireturn, 1, 0, 0, 0)]
noncomputable def M_cX12_player : xM := (RX12, yX12_player, cX12_player, 3, (some .int), false, 12, [(31, k_cX12_player_0)])
noncomputable def k_cX12_stay_0 : List xR := [(0, .aload_n 0, 1, 0, 0, 0), (1, .iload_n 1, 1, 0, 0, 0), (2, .i2l, 1, 0, 0, 0), (3, .invokevirtual 278, 3, 203, 1, 0), (6, .ifCond .eq 11, 3, 0, 0, 0), (9, .aload_n 0, 1, 0, 0, 0), (10, .iload_n 1, 1, 0, 0, 0), (11, .invokevirtual 254, 3, 233, 1, 0), (14, .goto 5, 3, 0, 0, 0), (17, .bipush (-2), 2, 0, 0, 0), (19, .ireturn, 1, 0, 0, 0)]
noncomputable def M_cX12_stay : xM := (RX12, yX12_stay, cX12_stay, 2, (some .int), false, 12, [(19, k_cX12_stay_0)])
noncomputable def k_cX12_comings_0 : List xR := [(0, .aload_n 0, 1, 0, 0, 0), (1, .invokevirtual 282, 3, 199, 0, 0), (4, .ifCond .ne 6, 3, 0, 0, 0), (7, .bipush (-2), 2, 0, 0, 0), (9, .ireturn, 1, 0, 0, 0), (10, .aload_n 0, 1, 0, 0, 0), (11, .invokevirtual 285, 3, 237, 0, 0), (14, .aload_n 0, 1, 0, 0, 0), (15, .getfield 248, 3, 12, 18, 0), (18, .ireturn, 1, 0, 0, 0)]
noncomputable def M_cX12_comings : xM := (RX12, yX12_comings, cX12_comings, 1, (some .int), false, 12, [(18, k_cX12_comings_0)])
noncomputable def k_cX12_isInGame_0 : List xR := [(0, .iload_n 1, 1, 0, 0, 0), (1, .i2l, 1, 0, 0, 0), (2, .lconst 0, 1, 0, 0, 0), (3, .aload_n 0, 1, 0, 0, 0), (4, .getfield 248, 3, 12, 18, 0), (7, .iconst 1, 1, 0, 0, 0), (8, .isub, 1, 0, 0, 0), (9, .i2l, 1, 0, 0, 0), (10, .invokestatic 88, 3, 196, 3, 0), (13, .ireturn, 1, 0, 0, 0)]
noncomputable def M_cX12_isInGame : xM := (RX12, yX12_isInGame, cX12_isInGame, 2, (some .boolean), false, 12, [(13, k_cX12_isInGame_0)])
noncomputable def k_cX12_comes_0 : List xR := [(0, .aload_n 0, 1, 0, 0, 0), (1, .invokevirtual 282, 3, 199, 0, 0), (4, .ifCond .eq 15, 3, 0, 0, 0), (7, .iload_n 2, 1, 0, 0, 0), (8, .i2l, 1, 0, 0, 0), (9, .lconst 0, 1, 0, 0, 0), (10, .ldc2_w 273, 3, 4, 0, 0), (13, .invokestatic 88, 3, 196, 3, 0), (16, .ifCond .ne 6, 3, 0, 0, 0), (19, .bipush (-2), 2, 0, 0, 0), (21, .ireturn, 1, 0, 0, 0), (22, .aload_n 0, 1, 0, 0, 0), (23, .invokevirtual 285, 3, 237, 0, 0), (26, .aload_n 0, 1, 0, 0, 0), (27, .iload_n 1, 1, 0, 0, 0), (28, .invokevirtual 288, 3, 243, 1, 0), (31, .ifCond .ne 5, 3, 0, 0, 0), (34, .iconst (-1), 1, 0, 0, 0), (35, .ireturn, 1, 0, 0, 0), (36, .iload_n 2, 1, 0, 0, 0), (37, .iconst 3, 1, 0, 0, 0), (38, .if_icmp .ge 12, 3, 0, 0, 0), (41, .aload_n 0, 1, 0, 0, 0), (42, .iload_n 1, 1, 0, 0, 0), (43, .iload_n 2, 1, 0, 0, 0), (44, .invokevirtual 291, 3, 238, 2, 0), (47, .goto 23, 3, 0, 0, 0), (50, .iload_n 2, 1, 0, 0, 0), (51, .iconst 3, 1, 0, 0, 0), (52, .if_icmp .ne 12, 3, 0, 0, 0), (55, .aload_n 0, 1, 0, 0, 0), (56, .getfield 37, 3, 12, 16, 0)]
noncomputable def k_cX12_comes_1 : List xR := [(59, .iload_n 1, 1, 0, 0, 0), (60, .iaload, 1, 0, 0, 0), (61, .goto 9, 3, 0, 0, 0), (64, .aload_n 0, 1, 0, 0, 0), (65, .getfield 40, 3, 12, 17, 0), (68, .iload_n 1, 1, 0, 0, 0), (69, .iaload, 1, 0, 0, 0), (70, .ireturn, 1, 0, 0, 0)]
noncomputable def M_cX12_comes : xM := (RX12, yX12_comes, cX12_comes, 3, (some .int), false, 12, [(56, k_cX12_comes_0), (70, k_cX12_comes_1)])
noncomputable def k_cX12_upIn_0 : List xR := [(0, .iconst 0, 1, 0, 0, 0), (1, .istore_n 2, 1, 0, 0, 0), (2, .iconst 0, 1, 0, 0, 0), (3, .istore_n 3, 1, 0, 0, 0), (4, .iload_n 3, 1, 0, 0, 0), (5, .aload_n 0, 1, 0, 0, 0), (6, .getfield 248, 3, 12, 18, 0), (9, .if_icmp .ge 66, 3, 0, 0, 0), (12, .iload_n 1, 1, 0, 0, 0), (13, .i2l, 1, 0, 0, 0), (14, .aload_n 0, 1, 0, 0, 0), (15, .getfield 37, 3, 12, 16, 0), (18, .iload_n 3, 1, 0, 0, 0), (19, .iaload, 1, 0, 0, 0), (20, .i2l, 1, 0, 0, 0), (21, .aload_n 0, 1, 0, 0, 0), (22, .getfield 40, 3, 12, 17, 0), (25, .iload_n 3, 1, 0, 0, 0), (26, .iaload, 1, 0, 0, 0), (27, .i2l, 1, 0, 0, 0), (28, .invokestatic 88, 3, 196, 3, 0), (31, .ifCond .ne 6, 3, 0, 0, 0), (34, .goto 35, 3, 0, 0, 0), (37, .iload_n 2, 1, 0, 0, 0), (38, .iconst 1, 1, 0, 0, 0), (39, .aload_n 0, 1, 0, 0, 0), (40, .iload_n 3, 1, 0, 0, 0), (41, .iconst 0, 1, 0, 0, 0), (42, .invokevirtual 291, 3, 238, 2, 0), (45, .ishl, 1, 0, 0, 0), (46, .ior, 1, 0, 0, 0), (47, .istore_n 2, 1, 0, 0, 0)]
noncomputable def k_cX12_upIn_1 : List xR := [(48, .aload_n 0, 1, 0, 0, 0), (49, .iload_n 3, 1, 0, 0, 0), (50, .iconst 1, 1, 0, 0, 0), (51, .invokevirtual 291, 3, 238, 2, 0), (54, .iconst (-1), 1, 0, 0, 0), (55, .if_icmp .eq 14, 3, 0, 0, 0), (58, .iload_n 2, 1, 0, 0, 0), (59, .iconst 1, 1, 0, 0, 0), (60, .aload_n 0, 1, 0, 0, 0), (61, .iload_n 3, 1, 0, 0, 0), (62, .iconst 1, 1, 0, 0, 0), (63, .invokevirtual 291, 3, 238, 2, 0), (66, .ishl, 1, 0, 0, 0), (67, .ior, 1, 0, 0, 0), (68, .istore_n 2, 1, 0, 0, 0), (69, .iinc 3 1, 3, 0, 0, 0), (72, .goto (-68), 3, 0, 0, 0), (75, .iload_n 2, 1, 0, 0, 0), (76, .ireturn, 1, 0, 0, 0)]
noncomputable def M_cX12_upIn : xM := (RX12, yX12_upIn, cX12_upIn, 4, (some .int), false, 12, [(47, k_cX12_upIn_0), (76, k_cX12_upIn_1)])
noncomputable def k_cX12_up_0 : List xR := [(0, .aload_n 0, 1, 0, 0, 0), (1, .iload_n 1, 1, 0, 0, 0), (2, .i2l, 1, 0, 0, 0), (3, .invokevirtual 278, 3, 203, 1, 0), (6, .ifCond .ne 6, 3, 0, 0, 0), (9, .bipush (-2), 2, 0, 0, 0), (11, .ireturn, 1, 0, 0, 0), (12, .aload_n 0, 1, 0, 0, 0), (13, .invokevirtual 285, 3, 237, 0, 0), (16, .aload_n 0, 1, 0, 0, 0), (17, .iload_n 1, 1, 0, 0, 0), (18, .invokevirtual 294, 3, 245, 1, 0), (21, .ireturn, 1, 0, 0, 0)]
noncomputable def M_cX12_up : xM := (RX12, yX12_up, cX12_up, 2, (some .int), false, 12, [(21, k_cX12_up_0)])
noncomputable def k_cX12_calm_0 : List xR := [(0, .aload_n 0, 1, 0, 0, 0), (1, .invokevirtual 282, 3, 199, 0, 0), (4, .ifCond .ne 6, 3, 0, 0, 0), (7, .bipush (-2), 2, 0, 0, 0), (9, .ireturn, 1, 0, 0, 0), (10, .aload_n 0, 1, 0, 0, 0), (11, .invokevirtual 285, 3, 237, 0, 0), (14, .iconst 0, 1, 0, 0, 0), (15, .istore_n 1, 1, 0, 0, 0), (16, .iconst 0, 1, 0, 0, 0), (17, .istore_n 2, 1, 0, 0, 0), (18, .iload_n 2, 1, 0, 0, 0), (19, .aload_n 0, 1, 0, 0, 0), (20, .getfield 9, 3, 12, 1, 0), (23, .iconst 2, 1, 0, 0, 0), (24, .iaload, 1, 0, 0, 0), (25, .if_icmp .ge 25, 3, 0, 0, 0), (28, .iload_n 1, 1, 0, 0, 0), (29, .aload_n 0, 1, 0, 0, 0), (30, .iload_n 2, 1, 0, 0, 0), (31, .invokevirtual 294, 3, 245, 1, 0), (34, .ifCond .ne 7, 3, 0, 0, 0), (37, .iconst 1, 1, 0, 0, 0), (38, .goto 4, 3, 0, 0, 0), (41, .iconst 0, 1, 0, 0, 0), (42, .iadd, 1, 0, 0, 0), (43, .istore_n 1, 1, 0, 0, 0), (44, .iinc 2 1, 3, 0, 0, 0), (47, .goto (-29), 3, 0, 0, 0), (50, .iload_n 1, 1, 0, 0, 0), (51, .ireturn, 1, 0, 0, 0)]
noncomputable def M_cX12_calm : xM := (RX12, yX12_calm, cX12_calm, 3, (some .int), false, 12, [(51, k_cX12_calm_0)])
noncomputable def k_cX12_stepsOf_0 : List xR := [(0, .iload_n 1, 1, 0, 0, 0), (1, .aload_n 0, 1, 0, 0, 0), (2, .getfield 9, 3, 12, 1, 0), (5, .iconst 0, 1, 0, 0, 0), (6, .iaload, 1, 0, 0, 0), (7, .irem, 1, 0, 0, 0), (8, .iload_n 2, 1, 0, 0, 0), (9, .aload_n 0, 1, 0, 0, 0), (10, .getfield 9, 3, 12, 1, 0), (13, .iconst 0, 1, 0, 0, 0), (14, .iaload, 1, 0, 0, 0), (15, .irem, 1, 0, 0, 0), (16, .isub, 1, 0, 0, 0), (17, .invokestatic 297, 3, 9003, 1, 0), (20, .iload_n 1, 1, 0, 0, 0), (21, .aload_n 0, 1, 0, 0, 0), (22, .getfield 9, 3, 12, 1, 0), (25, .iconst 0, 1, 0, 0, 0), (26, .iaload, 1, 0, 0, 0), (27, .idiv, 1, 0, 0, 0), (28, .iload_n 2, 1, 0, 0, 0), (29, .aload_n 0, 1, 0, 0, 0), (30, .getfield 9, 3, 12, 1, 0), (33, .iconst 0, 1, 0, 0, 0), (34, .iaload, 1, 0, 0, 0), (35, .idiv, 1, 0, 0, 0), (36, .isub, 1, 0, 0, 0), (37, .invokestatic 297, 3, 9003, 1, 0), (40, .iadd, 1, 0, 0, 0), (41, .ireturn, 1, 0, 0, 0)]
noncomputable def M_cX12_stepsOf : xM := (RX12, yX12_stepsOf, cX12_stepsOf, 3, (some .int), false, 12, [(41, k_cX12_stepsOf_0)])
noncomputable def k_cX12_steps_0 : List xR := [(0, .aload_n 0, 1, 0, 0, 0), (1, .iload_n 1, 1, 0, 0, 0), (2, .i2l, 1, 0, 0, 0), (3, .invokevirtual 300, 3, 201, 1, 0), (6, .ifCond .eq 21, 3, 0, 0, 0), (9, .aload_n 0, 1, 0, 0, 0), (10, .iload_n 2, 1, 0, 0, 0), (11, .i2l, 1, 0, 0, 0), (12, .invokevirtual 300, 3, 201, 1, 0), (15, .ifCond .eq 12, 3, 0, 0, 0), (18, .aload_n 0, 1, 0, 0, 0), (19, .iload_n 1, 1, 0, 0, 0), (20, .iload_n 2, 1, 0, 0, 0), (21, .invokevirtual 303, 3, 248, 2, 0), (24, .goto 5, 3, 0, 0, 0), (27, .bipush (-2), 2, 0, 0, 0), (29, .ireturn, 1, 0, 0, 0)]
noncomputable def M_cX12_steps : xM := (RX12, yX12_steps, cX12_steps, 3, (some .int), false, 12, [(29, k_cX12_steps_0)])
noncomputable def k_cX12_paceIn_0 : List xR := [(0, .aload_n 0, 1, 0, 0, 0), (1, .iload_n 1, 1, 0, 0, 0), (2, .iconst 0, 1, 0, 0, 0), (3, .invokevirtual 275, 3, 207, 2, 0), (6, .aload_n 0, 1, 0, 0, 0), (7, .iload_n 1, 1, 0, 0, 0), (8, .iconst 2, 1, 0, 0, 0), (9, .invokevirtual 275, 3, 207, 2, 0), (12, .ifCond .ne 7, 3, 0, 0, 0), (15, .iconst 0, 1, 0, 0, 0), (16, .goto 11, 3, 0, 0, 0), (19, .iload_n 2, 1, 0, 0, 0), (20, .aload_n 0, 1, 0, 0, 0), (21, .iload_n 1, 1, 0, 0, 0), (22, .iconst 2, 1, 0, 0, 0), (23, .invokevirtual 275, 3, 207, 2, 0), (26, .idiv, 1, 0, 0, 0), (27, .iadd, 1, 0, 0, 0), (28, .ireturn, 1, 0, 0, 0)]
noncomputable def M_cX12_paceIn : xM := (RX12, yX12_paceIn, cX12_paceIn, 3, (some .int), false, 12, [(28, k_cX12_paceIn_0)])
noncomputable def k_cX12_pace_0 : List xR := [(0, .aload_n 0, 1, 0, 0, 0), (1, .iload_n 1, 1, 0, 0, 0), (2, .invokevirtual 270, 3, 205, 1, 0), (5, .ifCond .eq 21, 3, 0, 0, 0), (8, .aload_n 0, 1, 0, 0, 0), (9, .iload_n 2, 1, 0, 0, 0), (10, .i2l, 1, 0, 0, 0), (11, .invokevirtual 278, 3, 203, 1, 0), (14, .ifCond .eq 12, 3, 0, 0, 0), (17, .aload_n 0, 1, 0, 0, 0), (18, .iload_n 1, 1, 0, 0, 0), (19, .iload_n 2, 1, 0, 0, 0), (20, .invokevirtual 306, 3, 250, 2, 0), (23, .goto 5, 3, 0, 0, 0), (26, .bipush (-2), 2, 0, 0, 0), (28, .ireturn, 1, 0, 0, 0)]
noncomputable def M_cX12_pace : xM := (RX12, yX12_pace, cX12_pace, 3, (some .int), false, 12, [(28, k_cX12_pace_0)])
noncomputable def k_cX12_asTold_0 : List xR := [(0, .aload_n 0, 1, 0, 0, 0), (1, .iload_n 1, 1, 0, 0, 0), (2, .putfield 309, 3, 12, 19, 0), (5, .aload_n 0, 1, 0, 0, 0), (6, .aload_n 0, 1, 0, 0, 0), (7, .iload_n 1, 1, 0, 0, 0), (8, .iconst 1, 1, 0, 0, 0), (9, .invokevirtual 275, 3, 207, 2, 0), (12, .putfield 312, 3, 12, 20, 0), (15, .aload_n 0, 1, 0, 0, 0), (16, .aload_n 0, 1, 0, 0, 0), (17, .iload_n 1, 1, 0, 0, 0), (18, .iconst 3, 1, 0, 0, 0), (19, .invokevirtual 275, 3, 207, 2, 0), (22, .putfield 315, 3, 12, 21, 0), (25, .aload_n 0, 1, 0, 0, 0), (26, .aload_n 0, 1, 0, 0, 0), (27, .iload_n 1, 1, 0, 0, 0), (28, .iconst 4, 1, 0, 0, 0), (29, .invokevirtual 275, 3, 207, 2, 0), (32, .putfield 318, 3, 12, 22, 0), (35, .aload_n 0, 1, 0, 0, 0), (36, .sipush 4095, 3, 0, 0, 0), (39, .putfield 321, 3, 12, 23, 0), (42, .aload_n 0, 1, 0, 0, 0), (43, .iconst 0, 1, 0, 0, 0), (44, .putfield 324, 3, 12, 24, 0), (47, .return_, 1, 0, 0, 0)]
noncomputable def M_cX12_asTold : xM := (RX12, yX12_asTold, cX12_asTold, 2, none, false, 12, [(47, k_cX12_asTold_0)])
noncomputable def k_cX12_awareOf_0 : List xR := [(0, .aload_n 0, 1, 0, 0, 0), (1, .getfield 37, 3, 12, 16, 0), (4, .iload_n 1, 1, 0, 0, 0), (5, .iaload, 1, 0, 0, 0), (6, .aload_n 0, 1, 0, 0, 0), (7, .getfield 312, 3, 12, 20, 0), (10, .iadd, 1, 0, 0, 0), (11, .istore_n 2, 1, 0, 0, 0), (12, .aload_n 0, 1, 0, 0, 0), (13, .getfield 315, 3, 12, 21, 0), (16, .ifCond .ne 5, 3, 0, 0, 0), (19, .iload_n 2, 1, 0, 0, 0), (20, .ireturn, 1, 0, 0, 0), (21, .iload_n 2, 1, 0, 0, 0), (22, .iload_n 1, 1, 0, 0, 0), (23, .aload_n 0, 1, 0, 0, 0), (24, .getfield 315, 3, 12, 21, 0), (27, .if_icmp .ge 7, 3, 0, 0, 0), (30, .iconst 0, 1, 0, 0, 0), (31, .goto 14, 3, 0, 0, 0), (34, .aload_n 0, 1, 0, 0, 0), (35, .getfield 37, 3, 12, 16, 0), (38, .iload_n 1, 1, 0, 0, 0), (39, .aload_n 0, 1, 0, 0, 0), (40, .getfield 315, 3, 12, 21, 0), (43, .isub, 1, 0, 0, 0), (44, .iaload, 1, 0, 0, 0), (45, .invokestatic 127, 3, 9002, 2, 0), (48, .ireturn, 1, 0, 0, 0)]
noncomputable def M_cX12_awareOf : xM := (RX12, yX12_awareOf, cX12_awareOf, 3, (some .int), false, 12, [(48, k_cX12_awareOf_0)])
noncomputable def k_cX12_aware_0 : List xR := [(0, .aload_n 0, 1, 0, 0, 0), (1, .iload_n 1, 1, 0, 0, 0), (2, .invokevirtual 270, 3, 205, 1, 0), (5, .ifCond .ne 6, 3, 0, 0, 0), (8, .bipush (-2), 2, 0, 0, 0), (10, .ireturn, 1, 0, 0, 0), (11, .aload_n 0, 1, 0, 0, 0), (12, .invokevirtual 285, 3, 237, 0, 0), (15, .aload_n 0, 1, 0, 0, 0), (16, .iload_n 1, 1, 0, 0, 0), (17, .invokevirtual 328, 3, 252, 1, 0), (20, .aload_n 0, 1, 0, 0, 0), (21, .iload_n 2, 1, 0, 0, 0), (22, .invokevirtual 288, 3, 243, 1, 0), (25, .ifCond .eq 11, 3, 0, 0, 0), (28, .aload_n 0, 1, 0, 0, 0), (29, .iload_n 2, 1, 0, 0, 0), (30, .invokevirtual 331, 3, 253, 1, 0), (33, .goto 4, 3, 0, 0, 0), (36, .iconst (-1), 1, 0, 0, 0), (37, .ireturn, 1, 0, 0, 0)]
noncomputable def M_cX12_aware : xM := (RX12, yX12_aware, cX12_aware, 3, (some .int), false, 12, [(37, k_cX12_aware_0)])
noncomputable def k_cX12_goes_0 : List xR := [(0, .aload_n 0, 1, 0, 0, 0), (1, .getfield 334, 3, 12, 32, 0), (4, .aload_n 0, 1, 0, 0, 0), (5, .iload_n 1, 1, 0, 0, 0), (6, .invokevirtual 331, 3, 253, 1, 0), (9, .invokestatic 337, 3, 9001, 2, 0), (12, .istore_n 3, 1, 0, 0, 0), (13, .iload_n 3, 1, 0, 0, 0), (14, .aload_n 0, 1, 0, 0, 0), (15, .aload_n 0, 1, 0, 0, 0), (16, .getfield 340, 3, 12, 31, 0), (19, .iload_n 2, 1, 0, 0, 0), (20, .invokevirtual 303, 3, 248, 2, 0), (23, .aload_n 0, 1, 0, 0, 0), (24, .aload_n 0, 1, 0, 0, 0), (25, .getfield 309, 3, 12, 19, 0), (28, .iload_n 3, 1, 0, 0, 0), (29, .invokevirtual 306, 3, 250, 2, 0), (32, .imul, 1, 0, 0, 0), (33, .iadd, 1, 0, 0, 0), (34, .istore 4, 2, 0, 0, 0), (36, .iload 4, 2, 0, 0, 0), (38, .aload_n 0, 1, 0, 0, 0), (39, .getfield 37, 3, 12, 16, 0), (42, .iload_n 1, 1, 0, 0, 0), (43, .iaload, 1, 0, 0, 0), (44, .invokestatic 337, 3, 9001, 2, 0), (47, .istore 5, 2, 0, 0, 0), (49, .iload 5, 2, 0, 0, 0), (51, .aload_n 0, 1, 0, 0, 0), (52, .getfield 40, 3, 12, 17, 0), (55, .iload_n 1, 1, 0, 0, 0)]
noncomputable def k_cX12_goes_1 : List xR := [(56, .iaload, 1, 0, 0, 0), (57, .if_icmp .le 5, 3, 0, 0, 0), (60, .iconst 0, 1, 0, 0, 0), (61, .ireturn, 1, 0, 0, 0), (62, .aload_n 0, 1, 0, 0, 0), (63, .dup, 1, 0, 0, 0), (64, .getfield 343, 3, 12, 33, 0), (67, .aload_n 0, 1, 0, 0, 0), (68, .aload_n 0, 1, 0, 0, 0), (69, .getfield 340, 3, 12, 31, 0), (72, .iload_n 2, 1, 0, 0, 0), (73, .invokevirtual 303, 3, 248, 2, 0), (76, .iadd, 1, 0, 0, 0), (77, .putfield 343, 3, 12, 33, 0), (80, .aload_n 0, 1, 0, 0, 0), (81, .iload_n 2, 1, 0, 0, 0), (82, .putfield 340, 3, 12, 31, 0), (85, .aload_n 0, 1, 0, 0, 0), (86, .iload 5, 2, 0, 0, 0), (88, .iconst 1, 1, 0, 0, 0), (89, .iadd, 1, 0, 0, 0), (90, .putfield 334, 3, 12, 32, 0), (93, .aload_n 0, 1, 0, 0, 0), (94, .getfield 43, 3, 12, 25, 0), (97, .iload_n 1, 1, 0, 0, 0), (98, .dup2, 1, 0, 0, 0), (99, .iaload, 1, 0, 0, 0), (100, .iconst 1, 1, 0, 0, 0), (101, .iadd, 1, 0, 0, 0), (102, .iastore, 1, 0, 0, 0), (103, .aload_n 0, 1, 0, 0, 0), (104, .getfield 46, 3, 12, 26, 0)]
noncomputable def k_cX12_goes_2 : List xR := [(107, .iload_n 1, 1, 0, 0, 0), (108, .iload 5, 2, 0, 0, 0), (110, .iastore, 1, 0, 0, 0), (111, .aload_n 0, 1, 0, 0, 0), (112, .getfield 49, 3, 12, 27, 0), (115, .aload_n 0, 1, 0, 0, 0), (116, .getfield 346, 3, 12, 29, 0), (119, .iload 5, 2, 0, 0, 0), (121, .iastore, 1, 0, 0, 0), (122, .aload_n 0, 1, 0, 0, 0), (123, .getfield 52, 3, 12, 28, 0), (126, .aload_n 0, 1, 0, 0, 0), (127, .getfield 346, 3, 12, 29, 0), (130, .iload_n 2, 1, 0, 0, 0), (131, .iastore, 1, 0, 0, 0), (132, .aload_n 0, 1, 0, 0, 0), (133, .dup, 1, 0, 0, 0), (134, .getfield 346, 3, 12, 29, 0), (137, .iconst 1, 1, 0, 0, 0), (138, .iadd, 1, 0, 0, 0), (139, .putfield 346, 3, 12, 29, 0), (142, .aload_n 0, 1, 0, 0, 0), (143, .dup, 1, 0, 0, 0), (144, .getfield 349, 3, 12, 30, 0), (147, .aload_n 0, 1, 0, 0, 0), (148, .iload_n 1, 1, 0, 0, 0), (149, .iconst 2, 1, 0, 0, 0), (150, .invokevirtual 291, 3, 238, 2, 0), (153, .iadd, 1, 0, 0, 0), (154, .putfield 349, 3, 12, 30, 0), (157, .iconst 1, 1, 0, 0, 0), (158, .ireturn, 1, 0, 0, 0)]
noncomputable def M_cX12_goes : xM := (RX12, yX12_goes, cX12_goes, 6, (some .boolean), false, 12, [(55, k_cX12_goes_0), (104, k_cX12_goes_1), (158, k_cX12_goes_2)])
noncomputable def k_cX12_isHis_0 : List xR := [(0, .iload_n 1, 1, 0, 0, 0), (1, .iconst (-1), 1, 0, 0, 0), (2, .if_icmp .eq 19, 3, 0, 0, 0), (5, .aload_n 0, 1, 0, 0, 0), (6, .getfield 321, 3, 12, 23, 0), (9, .iload_n 1, 1, 0, 0, 0), (10, .ishr, 1, 0, 0, 0), (11, .iconst 1, 1, 0, 0, 0), (12, .iand, 1, 0, 0, 0), (13, .iconst 1, 1, 0, 0, 0), (14, .if_icmp .ne 7, 3, 0, 0, 0), (17, .iconst 1, 1, 0, 0, 0), (18, .goto 4, 3, 0, 0, 0), (21, .iconst 0, 1, 0, 0, 0), (22, .ireturn, 1, 0, 0, 0)]
noncomputable def M_cX12_isHis : xM := (RX12, yX12_isHis, cX12_isHis, 2, (some .boolean), false, 12, [(22, k_cX12_isHis_0)])
noncomputable def k_cX12_goesFor_0 : List xR := [(0, .aload_n 0, 1, 0, 0, 0), (1, .iload_n 1, 1, 0, 0, 0), (2, .iconst 0, 1, 0, 0, 0), (3, .invokevirtual 291, 3, 238, 2, 0), (6, .istore_n 2, 1, 0, 0, 0), (7, .aload_n 0, 1, 0, 0, 0), (8, .iload_n 1, 1, 0, 0, 0), (9, .iconst 1, 1, 0, 0, 0), (10, .invokevirtual 291, 3, 238, 2, 0), (13, .istore_n 3, 1, 0, 0, 0), (14, .aload_n 0, 1, 0, 0, 0), (15, .iload_n 2, 1, 0, 0, 0), (16, .invokevirtual 352, 3, 256, 1, 0), (19, .ifCond .eq 11, 3, 0, 0, 0), (22, .aload_n 0, 1, 0, 0, 0), (23, .iload_n 3, 1, 0, 0, 0), (24, .invokevirtual 352, 3, 256, 1, 0), (27, .ifCond .ne 37, 3, 0, 0, 0), (30, .aload_n 0, 1, 0, 0, 0), (31, .iload_n 2, 1, 0, 0, 0), (32, .invokevirtual 352, 3, 256, 1, 0), (35, .ifCond .eq 13, 3, 0, 0, 0), (38, .aload_n 0, 1, 0, 0, 0), (39, .iload_n 1, 1, 0, 0, 0), (40, .iload_n 2, 1, 0, 0, 0), (41, .invokevirtual 355, 3, 255, 2, 0), (44, .pop, 1, 0, 0, 0), (45, .goto 18, 3, 0, 0, 0), (48, .aload_n 0, 1, 0, 0, 0), (49, .iload_n 3, 1, 0, 0, 0), (50, .invokevirtual 352, 3, 256, 1, 0), (53, .ifCond .eq 10, 3, 0, 0, 0)]
noncomputable def k_cX12_goesFor_1 : List xR := [(56, .aload_n 0, 1, 0, 0, 0), (57, .iload_n 1, 1, 0, 0, 0), (58, .iload_n 3, 1, 0, 0, 0), (59, .invokevirtual 355, 3, 255, 2, 0), (62, .pop, 1, 0, 0, 0), (63, .return_, 1, 0, 0, 0), (64, .aload_n 0, 1, 0, 0, 0), (65, .aload_n 0, 1, 0, 0, 0), (66, .getfield 340, 3, 12, 31, 0), (69, .iload_n 2, 1, 0, 0, 0), (70, .invokevirtual 303, 3, 248, 2, 0), (73, .aload_n 0, 1, 0, 0, 0), (74, .aload_n 0, 1, 0, 0, 0), (75, .getfield 340, 3, 12, 31, 0), (78, .iload_n 3, 1, 0, 0, 0), (79, .invokevirtual 303, 3, 248, 2, 0), (82, .if_icmp .gt 7, 3, 0, 0, 0), (85, .iconst 1, 1, 0, 0, 0), (86, .goto 4, 3, 0, 0, 0), (89, .iconst 0, 1, 0, 0, 0), (90, .istore 4, 2, 0, 0, 0), (92, .aload_n 0, 1, 0, 0, 0), (93, .iload_n 1, 1, 0, 0, 0), (94, .iload 4, 2, 0, 0, 0), (96, .ifCond .eq 7, 3, 0, 0, 0), (99, .iload_n 2, 1, 0, 0, 0), (100, .goto 4, 3, 0, 0, 0), (103, .iload_n 3, 1, 0, 0, 0), (104, .invokevirtual 355, 3, 255, 2, 0), (107, .ifCond .eq 19, 3, 0, 0, 0), (110, .aload_n 0, 1, 0, 0, 0), (111, .iload_n 1, 1, 0, 0, 0)]
noncomputable def k_cX12_goesFor_2 : List xR := [(112, .iload 4, 2, 0, 0, 0), (114, .ifCond .eq 7, 3, 0, 0, 0), (117, .iload_n 3, 1, 0, 0, 0), (118, .goto 4, 3, 0, 0, 0), (121, .iload_n 2, 1, 0, 0, 0), (122, .invokevirtual 355, 3, 255, 2, 0), (125, .pop, 1, 0, 0, 0), (126, .return_, 1, 0, 0, 0)]
noncomputable def M_cX12_goesFor : xM := (RX12, yX12_goesFor, cX12_goesFor, 5, none, false, 12, [(53, k_cX12_goesFor_0), (111, k_cX12_goesFor_1), (126, k_cX12_goesFor_2)])
noncomputable def k_cX12_run_0 : List xR := [(0, .aload_n 0, 1, 0, 0, 0), (1, .iconst 0, 1, 0, 0, 0), (2, .putfield 346, 3, 12, 29, 0), (5, .aload_n 0, 1, 0, 0, 0), (6, .iconst 0, 1, 0, 0, 0), (7, .putfield 349, 3, 12, 30, 0), (10, .aload_n 0, 1, 0, 0, 0), (11, .iconst 0, 1, 0, 0, 0), (12, .putfield 343, 3, 12, 33, 0), (15, .aload_n 0, 1, 0, 0, 0), (16, .iconst 0, 1, 0, 0, 0), (17, .putfield 334, 3, 12, 32, 0), (20, .aload_n 0, 1, 0, 0, 0), (21, .aload_n 0, 1, 0, 0, 0), (22, .getfield 318, 3, 12, 22, 0), (25, .putfield 340, 3, 12, 31, 0), (28, .iconst 0, 1, 0, 0, 0), (29, .istore_n 1, 1, 0, 0, 0), (30, .iload_n 1, 1, 0, 0, 0), (31, .aload_n 0, 1, 0, 0, 0), (32, .getfield 248, 3, 12, 18, 0), (35, .if_icmp .ge 44, 3, 0, 0, 0), (38, .aload_n 0, 1, 0, 0, 0), (39, .getfield 43, 3, 12, 25, 0), (42, .iload_n 1, 1, 0, 0, 0), (43, .iconst 0, 1, 0, 0, 0), (44, .iastore, 1, 0, 0, 0), (45, .aload_n 0, 1, 0, 0, 0), (46, .getfield 46, 3, 12, 26, 0), (49, .iload_n 1, 1, 0, 0, 0), (50, .iconst (-1), 1, 0, 0, 0), (51, .iastore, 1, 0, 0, 0)]
noncomputable def k_cX12_run_1 : List xR := [(52, .aload_n 0, 1, 0, 0, 0), (53, .iload_n 1, 1, 0, 0, 0), (54, .iconst 2, 1, 0, 0, 0), (55, .invokevirtual 291, 3, 238, 2, 0), (58, .ifCond .eq 10, 3, 0, 0, 0), (61, .aload_n 0, 1, 0, 0, 0), (62, .getfield 324, 3, 12, 24, 0), (65, .ifCond .eq 8, 3, 0, 0, 0), (68, .aload_n 0, 1, 0, 0, 0), (69, .iload_n 1, 1, 0, 0, 0), (70, .invokevirtual 359, 3, 257, 1, 0), (73, .iinc 1 1, 3, 0, 0, 0), (76, .goto (-46), 3, 0, 0, 0), (79, .return_, 1, 0, 0, 0)]
noncomputable def M_cX12_run : xM := (RX12, yX12_run, cX12_run, 2, none, false, 12, [(51, k_cX12_run_0), (79, k_cX12_run_1)])
noncomputable def k_cX12_runAsTold_0 : List xR := [(0, .aload_n 0, 1, 0, 0, 0), (1, .invokevirtual 285, 3, 237, 0, 0), (4, .aload_n 0, 1, 0, 0, 0), (5, .iload_n 1, 1, 0, 0, 0), (6, .invokevirtual 328, 3, 252, 1, 0), (9, .aload_n 0, 1, 0, 0, 0), (10, .invokevirtual 362, 3, 258, 0, 0), (13, .return_, 1, 0, 0, 0)]
noncomputable def M_cX12_runAsTold : xM := (RX12, yX12_runAsTold, cX12_runAsTold, 2, none, false, 12, [(13, k_cX12_runAsTold_0)])
noncomputable def k_cX12_hits_0 : List xR := [(0, .aload_n 0, 1, 0, 0, 0), (1, .iload_n 1, 1, 0, 0, 0), (2, .invokevirtual 270, 3, 205, 1, 0), (5, .ifCond .ne 6, 3, 0, 0, 0), (8, .bipush (-2), 2, 0, 0, 0), (10, .ireturn, 1, 0, 0, 0), (11, .aload_n 0, 1, 0, 0, 0), (12, .iload_n 1, 1, 0, 0, 0), (13, .invokevirtual 365, 3, 259, 1, 0), (16, .aload_n 0, 1, 0, 0, 0), (17, .getfield 346, 3, 12, 29, 0), (20, .ireturn, 1, 0, 0, 0)]
noncomputable def M_cX12_hits : xM := (RX12, yX12_hits, cX12_hits, 2, (some .int), false, 12, [(20, k_cX12_hits_0)])
noncomputable def k_cX12_hit_0 : List xR := [(0, .aload_n 0, 1, 0, 0, 0), (1, .iload_n 1, 1, 0, 0, 0), (2, .invokevirtual 270, 3, 205, 1, 0), (5, .ifCond .ne 6, 3, 0, 0, 0), (8, .bipush (-2), 2, 0, 0, 0), (10, .ireturn, 1, 0, 0, 0), (11, .aload_n 0, 1, 0, 0, 0), (12, .iload_n 1, 1, 0, 0, 0), (13, .invokevirtual 365, 3, 259, 1, 0), (16, .aload_n 0, 1, 0, 0, 0), (17, .iload_n 2, 1, 0, 0, 0), (18, .invokevirtual 288, 3, 243, 1, 0), (21, .ifCond .eq 12, 3, 0, 0, 0), (24, .aload_n 0, 1, 0, 0, 0), (25, .getfield 46, 3, 12, 26, 0), (28, .iload_n 2, 1, 0, 0, 0), (29, .iaload, 1, 0, 0, 0), (30, .goto 4, 3, 0, 0, 0), (33, .iconst (-1), 1, 0, 0, 0), (34, .ireturn, 1, 0, 0, 0)]
noncomputable def M_cX12_hit : xM := (RX12, yX12_hit, cX12_hit, 3, (some .int), false, 12, [(34, k_cX12_hit_0)])
noncomputable def k_cX12_twice_0 : List xR := [(0, .aload_n 0, 1, 0, 0, 0), (1, .iload_n 1, 1, 0, 0, 0), (2, .invokevirtual 270, 3, 205, 1, 0), (5, .ifCond .ne 6, 3, 0, 0, 0), (8, .bipush (-2), 2, 0, 0, 0), (10, .ireturn, 1, 0, 0, 0), (11, .aload_n 0, 1, 0, 0, 0), (12, .iload_n 1, 1, 0, 0, 0), (13, .invokevirtual 365, 3, 259, 1, 0), (16, .aload_n 0, 1, 0, 0, 0), (17, .iload_n 2, 1, 0, 0, 0), (18, .invokevirtual 288, 3, 243, 1, 0), (21, .ifCond .eq 12, 3, 0, 0, 0), (24, .aload_n 0, 1, 0, 0, 0), (25, .getfield 43, 3, 12, 25, 0), (28, .iload_n 2, 1, 0, 0, 0), (29, .iaload, 1, 0, 0, 0), (30, .goto 4, 3, 0, 0, 0), (33, .iconst (-1), 1, 0, 0, 0), (34, .ireturn, 1, 0, 0, 0)]
noncomputable def M_cX12_twice : xM := (RX12, yX12_twice, cX12_twice, 3, (some .int), false, 12, [(34, k_cX12_twice_0)])
noncomputable def k_cX12_where_0 : List xR := [(0, .aload_n 0, 1, 0, 0, 0), (1, .iload_n 1, 1, 0, 0, 0), (2, .invokevirtual 270, 3, 205, 1, 0), (5, .ifCond .eq 12, 3, 0, 0, 0), (8, .aload_n 0, 1, 0, 0, 0), (9, .iload_n 2, 1, 0, 0, 0), (10, .i2l, 1, 0, 0, 0), (11, .invokevirtual 278, 3, 203, 1, 0), (14, .ifCond .ne 6, 3, 0, 0, 0), (17, .bipush (-2), 2, 0, 0, 0), (19, .ireturn, 1, 0, 0, 0), (20, .aload_n 0, 1, 0, 0, 0), (21, .iload_n 1, 1, 0, 0, 0), (22, .invokevirtual 365, 3, 259, 1, 0), (25, .aload_n 0, 1, 0, 0, 0), (26, .getfield 318, 3, 12, 22, 0), (29, .istore_n 3, 1, 0, 0, 0), (30, .iconst 0, 1, 0, 0, 0), (31, .istore 4, 2, 0, 0, 0), (33, .iload 4, 2, 0, 0, 0), (35, .aload_n 0, 1, 0, 0, 0), (36, .getfield 346, 3, 12, 29, 0), (39, .if_icmp .ge 32, 3, 0, 0, 0), (42, .aload_n 0, 1, 0, 0, 0), (43, .getfield 49, 3, 12, 27, 0), (46, .iload 4, 2, 0, 0, 0), (48, .iaload, 1, 0, 0, 0), (49, .iload_n 2, 1, 0, 0, 0), (50, .if_icmp .gt 13, 3, 0, 0, 0), (53, .aload_n 0, 1, 0, 0, 0), (54, .getfield 52, 3, 12, 28, 0), (57, .iload 4, 2, 0, 0, 0)]
noncomputable def k_cX12_where_1 : List xR := [(59, .iaload, 1, 0, 0, 0), (60, .goto 4, 3, 0, 0, 0), (63, .iload_n 3, 1, 0, 0, 0), (64, .istore_n 3, 1, 0, 0, 0), (65, .iinc 4 1, 3, 0, 0, 0), (68, .goto (-35), 3, 0, 0, 0), (71, .iload_n 3, 1, 0, 0, 0), (72, .ireturn, 1, 0, 0, 0)]
noncomputable def M_cX12_where : xM := (RX12, yX12_where, cX12_where, 5, (some .int), false, 12, [(57, k_cX12_where_0), (72, k_cX12_where_1)])
noncomputable def k_cX12_missed_0 : List xR := [(0, .aload_n 0, 1, 0, 0, 0), (1, .iload_n 1, 1, 0, 0, 0), (2, .invokevirtual 270, 3, 205, 1, 0), (5, .ifCond .ne 6, 3, 0, 0, 0), (8, .bipush (-2), 2, 0, 0, 0), (10, .ireturn, 1, 0, 0, 0), (11, .aload_n 0, 1, 0, 0, 0), (12, .iload_n 1, 1, 0, 0, 0), (13, .invokevirtual 365, 3, 259, 1, 0), (16, .iconst 0, 1, 0, 0, 0), (17, .istore_n 2, 1, 0, 0, 0), (18, .iload_n 2, 1, 0, 0, 0), (19, .aload_n 0, 1, 0, 0, 0), (20, .getfield 248, 3, 12, 18, 0), (23, .if_icmp .ge 44, 3, 0, 0, 0), (26, .aload_n 0, 1, 0, 0, 0), (27, .iload_n 2, 1, 0, 0, 0), (28, .iconst 2, 1, 0, 0, 0), (29, .invokevirtual 291, 3, 238, 2, 0), (32, .ifCond .ne 29, 3, 0, 0, 0), (35, .aload_n 0, 1, 0, 0, 0), (36, .getfield 43, 3, 12, 25, 0), (39, .iload_n 2, 1, 0, 0, 0), (40, .iaload, 1, 0, 0, 0), (41, .aload_n 0, 1, 0, 0, 0), (42, .iload_n 2, 1, 0, 0, 0), (43, .iconst 1, 1, 0, 0, 0), (44, .invokevirtual 291, 3, 238, 2, 0), (47, .iconst (-1), 1, 0, 0, 0), (48, .if_icmp .ne 7, 3, 0, 0, 0), (51, .iconst 1, 1, 0, 0, 0), (52, .goto 4, 3, 0, 0, 0)]
noncomputable def k_cX12_missed_1 : List xR := [(55, .iconst 2, 1, 0, 0, 0), (56, .if_icmp .ge 5, 3, 0, 0, 0), (59, .iload_n 2, 1, 0, 0, 0), (60, .ireturn, 1, 0, 0, 0), (61, .iinc 2 1, 3, 0, 0, 0), (64, .goto (-46), 3, 0, 0, 0), (67, .iconst (-1), 1, 0, 0, 0), (68, .ireturn, 1, 0, 0, 0)]
noncomputable def M_cX12_missed : xM := (RX12, yX12_missed, cX12_missed, 3, (some .int), false, 12, [(52, k_cX12_missed_0), (68, k_cX12_missed_1)])
noncomputable def k_cX12_walked_0 : List xR := [(0, .aload_n 0, 1, 0, 0, 0), (1, .iload_n 1, 1, 0, 0, 0), (2, .invokevirtual 270, 3, 205, 1, 0), (5, .ifCond .ne 6, 3, 0, 0, 0), (8, .bipush (-2), 2, 0, 0, 0), (10, .ireturn, 1, 0, 0, 0), (11, .aload_n 0, 1, 0, 0, 0), (12, .iload_n 1, 1, 0, 0, 0), (13, .invokevirtual 365, 3, 259, 1, 0), (16, .aload_n 0, 1, 0, 0, 0), (17, .getfield 343, 3, 12, 33, 0), (20, .ireturn, 1, 0, 0, 0)]
noncomputable def M_cX12_walked : xM := (RX12, yX12_walked, cX12_walked, 2, (some .int), false, 12, [(20, k_cX12_walked_0)])
noncomputable def k_cX12_cell_0 : List xR := [(0, .bipush 121, 2, 0, 0, 0), (2, .iload_n 0, 1, 0, 0, 0), (3, .imul, 1, 0, 0, 0), (4, .iload_n 1, 1, 0, 0, 0), (5, .iadd, 1, 0, 0, 0), (6, .ireturn, 1, 0, 0, 0)]
noncomputable def M_cX12_cell : xM := (RX12, yX12_cell, cX12_cell, 2, (some .int), true, 12, [(6, k_cX12_cell_0)])
noncomputable def k_cX12_sooner_0 : List xR := [(0, .aload_n 0, 1, 0, 0, 0), (1, .getfield 55, 3, 12, 34, 0), (4, .iload_n 1, 1, 0, 0, 0), (5, .iload_n 2, 1, 0, 0, 0), (6, .invokestatic 368, 3, 266, 2, 0), (9, .aload_n 0, 1, 0, 0, 0), (10, .getfield 55, 3, 12, 34, 0), (13, .iload_n 1, 1, 0, 0, 0), (14, .iload_n 2, 1, 0, 0, 0), (15, .invokestatic 368, 3, 266, 2, 0), (18, .iaload, 1, 0, 0, 0), (19, .iload_n 3, 1, 0, 0, 0), (20, .invokestatic 127, 3, 9002, 2, 0), (23, .iastore, 1, 0, 0, 0), (24, .return_, 1, 0, 0, 0)]
noncomputable def M_cX12_sooner : xM := (RX12, yX12_sooner, cX12_sooner, 4, none, false, 12, [(24, k_cX12_sooner_0)])
noncomputable def k_cX12_behind_0 : List xR := [(0, .iload_n 3, 1, 0, 0, 0), (1, .ldc_w 371, 3, 1000000, 0, 0), (4, .if_icmp .ne 7, 3, 0, 0, 0), (7, .ldc_w 371, 3, 1000000, 0, 0), (10, .ireturn, 1, 0, 0, 0), (11, .aload_n 0, 1, 0, 0, 0), (12, .getfield 37, 3, 12, 16, 0), (15, .iload_n 1, 1, 0, 0, 0), (16, .iaload, 1, 0, 0, 0), (17, .iload_n 3, 1, 0, 0, 0), (18, .aload_n 0, 1, 0, 0, 0), (19, .iload_n 2, 1, 0, 0, 0), (20, .iload 4, 2, 0, 0, 0), (22, .invokevirtual 303, 3, 248, 2, 0), (25, .aload_n 0, 1, 0, 0, 0), (26, .aload_n 0, 1, 0, 0, 0), (27, .getfield 309, 3, 12, 19, 0), (30, .iload_n 3, 1, 0, 0, 0), (31, .invokevirtual 306, 3, 250, 2, 0), (34, .imul, 1, 0, 0, 0), (35, .iadd, 1, 0, 0, 0), (36, .invokestatic 337, 3, 9001, 2, 0), (39, .istore 5, 2, 0, 0, 0), (41, .iload 5, 2, 0, 0, 0), (43, .aload_n 0, 1, 0, 0, 0), (44, .getfield 40, 3, 12, 17, 0), (47, .iload_n 1, 1, 0, 0, 0), (48, .iaload, 1, 0, 0, 0), (49, .if_icmp .le 9, 3, 0, 0, 0), (52, .ldc_w 371, 3, 1000000, 0, 0), (55, .goto 7, 3, 0, 0, 0), (58, .iload 5, 2, 0, 0, 0)]
noncomputable def k_cX12_behind_1 : List xR := [(60, .iconst 1, 1, 0, 0, 0), (61, .iadd, 1, 0, 0, 0), (62, .ireturn, 1, 0, 0, 0)]
noncomputable def M_cX12_behind : xM := (RX12, yX12_behind, cX12_behind, 6, (some .int), false, 12, [(58, k_cX12_behind_0), (62, k_cX12_behind_1)])
noncomputable def k_cX12_mayHit_0 : List xR := [(0, .iconst 0, 1, 0, 0, 0), (1, .istore 4, 2, 0, 0, 0), (3, .iload 4, 2, 0, 0, 0), (5, .aload_n 0, 1, 0, 0, 0), (6, .invokevirtual 92, 3, 200, 0, 0), (9, .if_icmp .ge 83, 3, 0, 0, 0), (12, .iconst 0, 1, 0, 0, 0), (13, .istore 5, 2, 0, 0, 0), (15, .iload 5, 2, 0, 0, 0), (17, .iconst 2, 1, 0, 0, 0), (18, .iadd, 1, 0, 0, 0), (19, .bipush 121, 2, 0, 0, 0), (21, .if_icmp .ge 65, 3, 0, 0, 0), (24, .aload_n 0, 1, 0, 0, 0), (25, .iload_n 1, 1, 0, 0, 0), (26, .iload 4, 2, 0, 0, 0), (28, .aload_n 0, 1, 0, 0, 0), (29, .getfield 58, 3, 12, 35, 0), (32, .iload 4, 2, 0, 0, 0), (34, .iload 5, 2, 0, 0, 0), (36, .invokestatic 368, 3, 266, 2, 0), (39, .iaload, 1, 0, 0, 0), (40, .iload_n 2, 1, 0, 0, 0), (41, .invokevirtual 372, 3, 268, 4, 0), (44, .istore 6, 2, 0, 0, 0), (46, .aload_n 0, 1, 0, 0, 0), (47, .iload_n 2, 1, 0, 0, 0), (48, .iload 5, 2, 0, 0, 0), (50, .iconst 1, 1, 0, 0, 0), (51, .iadd, 1, 0, 0, 0), (52, .iload 6, 2, 0, 0, 0), (54, .invokevirtual 376, 3, 267, 3, 0)]
noncomputable def k_cX12_mayHit_1 : List xR := [(57, .iload_n 3, 1, 0, 0, 0), (58, .iconst (-1), 1, 0, 0, 0), (59, .if_icmp .eq 21, 3, 0, 0, 0), (62, .aload_n 0, 1, 0, 0, 0), (63, .iload_n 3, 1, 0, 0, 0), (64, .iload 5, 2, 0, 0, 0), (66, .iconst 2, 1, 0, 0, 0), (67, .iadd, 1, 0, 0, 0), (68, .aload_n 0, 1, 0, 0, 0), (69, .iload_n 1, 1, 0, 0, 0), (70, .iload_n 2, 1, 0, 0, 0), (71, .iload 6, 2, 0, 0, 0), (73, .iload_n 3, 1, 0, 0, 0), (74, .invokevirtual 372, 3, 268, 4, 0), (77, .invokevirtual 376, 3, 267, 3, 0), (80, .iinc 5 1, 3, 0, 0, 0), (83, .goto (-68), 3, 0, 0, 0), (86, .iinc 4 1, 3, 0, 0, 0), (89, .goto (-86), 3, 0, 0, 0), (92, .return_, 1, 0, 0, 0)]
noncomputable def M_cX12_mayHit : xM := (RX12, yX12_mayHit, cX12_mayHit, 7, none, false, 12, [(54, k_cX12_mayHit_0), (92, k_cX12_mayHit_1)])
noncomputable def k_cX12_bestOf_0 : List xR := [(0, .aload_n 0, 1, 0, 0, 0), (1, .invokevirtual 285, 3, 237, 0, 0), (4, .aload_n 0, 1, 0, 0, 0), (5, .iload_n 1, 1, 0, 0, 0), (6, .putfield 309, 3, 12, 19, 0), (9, .iconst 0, 1, 0, 0, 0), (10, .istore_n 3, 1, 0, 0, 0), (11, .iload_n 3, 1, 0, 0, 0), (12, .aload_n 0, 1, 0, 0, 0), (13, .getfield 55, 3, 12, 34, 0), (16, .arraylength, 1, 0, 0, 0), (17, .if_icmp .ge 18, 3, 0, 0, 0), (20, .aload_n 0, 1, 0, 0, 0), (21, .getfield 55, 3, 12, 34, 0), (24, .iload_n 3, 1, 0, 0, 0), (25, .ldc_w 371, 3, 1000000, 0, 0), (28, .iastore, 1, 0, 0, 0), (29, .iinc 3 1, 3, 0, 0, 0), (32, .goto (-21), 3, 0, 0, 0), (35, .aload_n 0, 1, 0, 0, 0), (36, .getfield 55, 3, 12, 34, 0), (39, .aload_n 0, 1, 0, 0, 0), (40, .iload_n 1, 1, 0, 0, 0), (41, .iconst 4, 1, 0, 0, 0), (42, .invokevirtual 275, 3, 207, 2, 0), (45, .iconst 0, 1, 0, 0, 0), (46, .invokestatic 368, 3, 266, 2, 0), (49, .iconst 0, 1, 0, 0, 0), (50, .iastore, 1, 0, 0, 0), (51, .iconst 0, 1, 0, 0, 0), (52, .istore_n 3, 1, 0, 0, 0), (53, .iload_n 3, 1, 0, 0, 0)]
noncomputable def k_cX12_bestOf_1 : List xR := [(54, .aload_n 0, 1, 0, 0, 0), (55, .getfield 248, 3, 12, 18, 0), (58, .if_icmp .ge 104, 3, 0, 0, 0), (61, .iload_n 3, 1, 0, 0, 0), (62, .iload_n 2, 1, 0, 0, 0), (63, .if_icmp .ge 99, 3, 0, 0, 0), (66, .aload_n 0, 1, 0, 0, 0), (67, .iload_n 3, 1, 0, 0, 0), (68, .iconst 2, 1, 0, 0, 0), (69, .invokevirtual 291, 3, 238, 2, 0), (72, .iconst 1, 1, 0, 0, 0), (73, .if_icmp .ne 6, 3, 0, 0, 0), (76, .goto 80, 3, 0, 0, 0), (79, .iconst 0, 1, 0, 0, 0), (80, .istore 4, 2, 0, 0, 0), (82, .iload 4, 2, 0, 0, 0), (84, .aload_n 0, 1, 0, 0, 0), (85, .getfield 55, 3, 12, 34, 0), (88, .arraylength, 1, 0, 0, 0), (89, .if_icmp .ge 23, 3, 0, 0, 0), (92, .aload_n 0, 1, 0, 0, 0), (93, .getfield 58, 3, 12, 35, 0), (96, .iload 4, 2, 0, 0, 0), (98, .aload_n 0, 1, 0, 0, 0), (99, .getfield 55, 3, 12, 34, 0), (102, .iload 4, 2, 0, 0, 0), (104, .iaload, 1, 0, 0, 0), (105, .iastore, 1, 0, 0, 0), (106, .iinc 4 1, 3, 0, 0, 0), (109, .goto (-27), 3, 0, 0, 0), (112, .aload_n 0, 1, 0, 0, 0), (113, .iload_n 3, 1, 0, 0, 0)]
noncomputable def k_cX12_bestOf_2 : List xR := [(114, .aload_n 0, 1, 0, 0, 0), (115, .iload_n 3, 1, 0, 0, 0), (116, .iconst 0, 1, 0, 0, 0), (117, .invokevirtual 291, 3, 238, 2, 0), (120, .aload_n 0, 1, 0, 0, 0), (121, .iload_n 3, 1, 0, 0, 0), (122, .iconst 1, 1, 0, 0, 0), (123, .invokevirtual 291, 3, 238, 2, 0), (126, .invokevirtual 379, 3, 269, 3, 0), (129, .aload_n 0, 1, 0, 0, 0), (130, .iload_n 3, 1, 0, 0, 0), (131, .iconst 1, 1, 0, 0, 0), (132, .invokevirtual 291, 3, 238, 2, 0), (135, .iconst (-1), 1, 0, 0, 0), (136, .if_icmp .eq 20, 3, 0, 0, 0), (139, .aload_n 0, 1, 0, 0, 0), (140, .iload_n 3, 1, 0, 0, 0), (141, .aload_n 0, 1, 0, 0, 0), (142, .iload_n 3, 1, 0, 0, 0), (143, .iconst 1, 1, 0, 0, 0), (144, .invokevirtual 291, 3, 238, 2, 0), (147, .aload_n 0, 1, 0, 0, 0), (148, .iload_n 3, 1, 0, 0, 0), (149, .iconst 0, 1, 0, 0, 0), (150, .invokevirtual 291, 3, 238, 2, 0), (153, .invokevirtual 379, 3, 269, 3, 0), (156, .iinc 3 1, 3, 0, 0, 0), (159, .goto (-106), 3, 0, 0, 0), (162, .iconst 0, 1, 0, 0, 0), (163, .istore_n 3, 1, 0, 0, 0), (164, .iconst 0, 1, 0, 0, 0), (165, .istore 4, 2, 0, 0, 0)]
noncomputable def k_cX12_bestOf_3 : List xR := [(167, .iload 4, 2, 0, 0, 0), (169, .aload_n 0, 1, 0, 0, 0), (170, .invokevirtual 92, 3, 200, 0, 0), (173, .if_icmp .ge 54, 3, 0, 0, 0), (176, .iconst 0, 1, 0, 0, 0), (177, .istore 5, 2, 0, 0, 0), (179, .iload 5, 2, 0, 0, 0), (181, .bipush 121, 2, 0, 0, 0), (183, .if_icmp .ge 38, 3, 0, 0, 0), (186, .aload_n 0, 1, 0, 0, 0), (187, .getfield 55, 3, 12, 34, 0), (190, .iload 4, 2, 0, 0, 0), (192, .iload 5, 2, 0, 0, 0), (194, .invokestatic 368, 3, 266, 2, 0), (197, .iaload, 1, 0, 0, 0), (198, .ldc_w 371, 3, 1000000, 0, 0), (201, .if_icmp .ge 12, 3, 0, 0, 0), (204, .iload_n 3, 1, 0, 0, 0), (205, .iload 5, 2, 0, 0, 0), (207, .invokestatic 337, 3, 9001, 2, 0), (210, .goto 4, 3, 0, 0, 0), (213, .iload_n 3, 1, 0, 0, 0), (214, .istore_n 3, 1, 0, 0, 0), (215, .iinc 5 1, 3, 0, 0, 0), (218, .goto (-39), 3, 0, 0, 0), (221, .iinc 4 1, 3, 0, 0, 0), (224, .goto (-57), 3, 0, 0, 0), (227, .iload_n 3, 1, 0, 0, 0), (228, .ireturn, 1, 0, 0, 0)]
noncomputable def M_cX12_bestOf : xM := (RX12, yX12_bestOf, cX12_bestOf, 6, (some .int), false, 12, [(53, k_cX12_bestOf_0), (113, k_cX12_bestOf_1), (165, k_cX12_bestOf_2), (228, k_cX12_bestOf_3)])
noncomputable def k_cX12_best_0 : List xR := [(0, .aload_n 0, 1, 0, 0, 0), (1, .iload_n 1, 1, 0, 0, 0), (2, .invokevirtual 270, 3, 205, 1, 0), (5, .ifCond .eq 13, 3, 0, 0, 0), (8, .aload_n 0, 1, 0, 0, 0), (9, .iload_n 1, 1, 0, 0, 0), (10, .bipush 60, 2, 0, 0, 0), (12, .invokevirtual 382, 3, 270, 2, 0), (15, .goto 5, 3, 0, 0, 0), (18, .bipush (-2), 2, 0, 0, 0), (20, .ireturn, 1, 0, 0, 0)]
noncomputable def M_cX12_best : xM := (RX12, yX12_best, cX12_best, 2, (some .int), false, 12, [(20, k_cX12_best_0)])
noncomputable def k_cX12_ahead_0 : List xR := [(0, .aload_n 0, 1, 0, 0, 0), (1, .iload_n 1, 1, 0, 0, 0), (2, .invokevirtual 270, 3, 205, 1, 0), (5, .ifCond .eq 24, 3, 0, 0, 0), (8, .iload_n 2, 1, 0, 0, 0), (9, .i2l, 1, 0, 0, 0), (10, .lconst 0, 1, 0, 0, 0), (11, .ldc2_w 385, 3, 60, 0, 0), (14, .invokestatic 88, 3, 196, 3, 0), (17, .ifCond .eq 12, 3, 0, 0, 0), (20, .aload_n 0, 1, 0, 0, 0), (21, .iload_n 1, 1, 0, 0, 0), (22, .iload_n 2, 1, 0, 0, 0), (23, .invokevirtual 382, 3, 270, 2, 0), (26, .goto 5, 3, 0, 0, 0), (29, .bipush (-2), 2, 0, 0, 0), (31, .ireturn, 1, 0, 0, 0)]
noncomputable def M_cX12_ahead : xM := (RX12, yX12_ahead, cX12_ahead, 3, (some .int), false, 12, [(31, k_cX12_ahead_0)])
noncomputable def k_cX12_learnsBy_0 : List xR := [(0, .aload_n 0, 1, 0, 0, 0), (1, .iload_n 1, 1, 0, 0, 0), (2, .invokevirtual 328, 3, 252, 1, 0), (5, .aload_n 0, 1, 0, 0, 0), (6, .iload_n 2, 1, 0, 0, 0), (7, .putfield 315, 3, 12, 21, 0), (10, .aload_n 0, 1, 0, 0, 0), (11, .invokevirtual 362, 3, 258, 0, 0), (14, .aload_n 0, 1, 0, 0, 0), (15, .getfield 346, 3, 12, 29, 0), (18, .ireturn, 1, 0, 0, 0)]
noncomputable def M_cX12_learnsBy : xM := (RX12, yX12_learnsBy, cX12_learnsBy, 3, (some .int), false, 12, [(18, k_cX12_learnsBy_0)])
noncomputable def k_cX12_learns_0 : List xR := [(0, .aload_n 0, 1, 0, 0, 0), (1, .iload_n 1, 1, 0, 0, 0), (2, .invokevirtual 270, 3, 205, 1, 0), (5, .ifCond .eq 15, 3, 0, 0, 0), (8, .iload_n 2, 1, 0, 0, 0), (9, .i2l, 1, 0, 0, 0), (10, .lconst 0, 1, 0, 0, 0), (11, .ldc2_w 387, 3, 9, 0, 0), (14, .invokestatic 88, 3, 196, 3, 0), (17, .ifCond .ne 6, 3, 0, 0, 0), (20, .bipush (-2), 2, 0, 0, 0), (22, .ireturn, 1, 0, 0, 0), (23, .aload_n 0, 1, 0, 0, 0), (24, .invokevirtual 285, 3, 237, 0, 0), (27, .aload_n 0, 1, 0, 0, 0), (28, .iload_n 1, 1, 0, 0, 0), (29, .iload_n 2, 1, 0, 0, 0), (30, .invokevirtual 389, 3, 273, 2, 0), (33, .ireturn, 1, 0, 0, 0)]
noncomputable def M_cX12_learns : xM := (RX12, yX12_learns, cX12_learns, 3, (some .int), false, 12, [(33, k_cX12_learns_0)])
noncomputable def k_cX12_enough_0 : List xR := [(0, .aload_n 0, 1, 0, 0, 0), (1, .iload_n 1, 1, 0, 0, 0), (2, .invokevirtual 270, 3, 205, 1, 0), (5, .ifCond .ne 6, 3, 0, 0, 0), (8, .bipush (-2), 2, 0, 0, 0), (10, .ireturn, 1, 0, 0, 0), (11, .aload_n 0, 1, 0, 0, 0), (12, .invokevirtual 285, 3, 237, 0, 0), (15, .iconst 0, 1, 0, 0, 0), (16, .istore_n 2, 1, 0, 0, 0), (17, .iconst 1, 1, 0, 0, 0), (18, .istore_n 3, 1, 0, 0, 0), (19, .iload_n 3, 1, 0, 0, 0), (20, .bipush 10, 2, 0, 0, 0), (22, .if_icmp .ge 30, 3, 0, 0, 0), (25, .aload_n 0, 1, 0, 0, 0), (26, .iload_n 1, 1, 0, 0, 0), (27, .iload_n 3, 1, 0, 0, 0), (28, .invokevirtual 389, 3, 273, 2, 0), (31, .aload_n 0, 1, 0, 0, 0), (32, .iload_n 1, 1, 0, 0, 0), (33, .iload_n 2, 1, 0, 0, 0), (34, .invokevirtual 389, 3, 273, 2, 0), (37, .if_icmp .le 7, 3, 0, 0, 0), (40, .iload_n 3, 1, 0, 0, 0), (41, .goto 4, 3, 0, 0, 0), (44, .iload_n 2, 1, 0, 0, 0), (45, .istore_n 2, 1, 0, 0, 0), (46, .iinc 3 1, 3, 0, 0, 0), (49, .goto (-30), 3, 0, 0, 0), (52, .iload_n 2, 1, 0, 0, 0), (53, .ireturn, 1, 0, 0, 0)]
noncomputable def M_cX12_enough : xM := (RX12, yX12_enough, cX12_enough, 4, (some .int), false, 12, [(53, k_cX12_enough_0)])
noncomputable def k_cX12_waitingAt_0 : List xR := [(0, .aload_n 0, 1, 0, 0, 0), (1, .iload_n 1, 1, 0, 0, 0), (2, .invokevirtual 328, 3, 252, 1, 0), (5, .aload_n 0, 1, 0, 0, 0), (6, .iload_n 2, 1, 0, 0, 0), (7, .putfield 318, 3, 12, 22, 0), (10, .aload_n 0, 1, 0, 0, 0), (11, .invokevirtual 362, 3, 258, 0, 0), (14, .aload_n 0, 1, 0, 0, 0), (15, .getfield 346, 3, 12, 29, 0), (18, .ireturn, 1, 0, 0, 0)]
noncomputable def M_cX12_waitingAt : xM := (RX12, yX12_waitingAt, cX12_waitingAt, 3, (some .int), false, 12, [(18, k_cX12_waitingAt_0)])
noncomputable def k_cX12_waits_0 : List xR := [(0, .aload_n 0, 1, 0, 0, 0), (1, .iload_n 1, 1, 0, 0, 0), (2, .invokevirtual 270, 3, 205, 1, 0), (5, .ifCond .eq 13, 3, 0, 0, 0), (8, .iload_n 2, 1, 0, 0, 0), (9, .i2l, 1, 0, 0, 0), (10, .lconst 0, 1, 0, 0, 0), (11, .lconst 1, 1, 0, 0, 0), (12, .invokestatic 88, 3, 196, 3, 0), (15, .ifCond .ne 6, 3, 0, 0, 0), (18, .bipush (-2), 2, 0, 0, 0), (20, .ireturn, 1, 0, 0, 0), (21, .aload_n 0, 1, 0, 0, 0), (22, .invokevirtual 285, 3, 237, 0, 0), (25, .iconst 0, 1, 0, 0, 0), (26, .istore_n 3, 1, 0, 0, 0), (27, .iconst 1, 1, 0, 0, 0), (28, .istore 4, 2, 0, 0, 0), (30, .iload 4, 2, 0, 0, 0), (32, .aload_n 0, 1, 0, 0, 0), (33, .invokevirtual 92, 3, 200, 0, 0), (36, .if_icmp .ge 32, 3, 0, 0, 0), (39, .aload_n 0, 1, 0, 0, 0), (40, .iload_n 1, 1, 0, 0, 0), (41, .iload 4, 2, 0, 0, 0), (43, .invokevirtual 392, 3, 276, 2, 0), (46, .aload_n 0, 1, 0, 0, 0), (47, .iload_n 1, 1, 0, 0, 0), (48, .iload_n 3, 1, 0, 0, 0), (49, .invokevirtual 392, 3, 276, 2, 0), (52, .if_icmp .le 8, 3, 0, 0, 0), (55, .iload 4, 2, 0, 0, 0)]
noncomputable def k_cX12_waits_1 : List xR := [(57, .goto 4, 3, 0, 0, 0), (60, .iload_n 3, 1, 0, 0, 0), (61, .istore_n 3, 1, 0, 0, 0), (62, .iinc 4 1, 3, 0, 0, 0), (65, .goto (-35), 3, 0, 0, 0), (68, .iload_n 2, 1, 0, 0, 0), (69, .ifCond .ne 7, 3, 0, 0, 0), (72, .iload_n 3, 1, 0, 0, 0), (73, .goto 9, 3, 0, 0, 0), (76, .aload_n 0, 1, 0, 0, 0), (77, .iload_n 1, 1, 0, 0, 0), (78, .iload_n 3, 1, 0, 0, 0), (79, .invokevirtual 392, 3, 276, 2, 0), (82, .ireturn, 1, 0, 0, 0)]
noncomputable def M_cX12_waits : xM := (RX12, yX12_waits, cX12_waits, 5, (some .int), false, 12, [(55, k_cX12_waits_0), (82, k_cX12_waits_1)])
noncomputable def k_cX12_openHoles_0 : List xR := [(0, .iconst 0, 1, 0, 0, 0), (1, .istore_n 1, 1, 0, 0, 0), (2, .iconst 0, 1, 0, 0, 0), (3, .istore_n 2, 1, 0, 0, 0), (4, .iload_n 2, 1, 0, 0, 0), (5, .aload_n 0, 1, 0, 0, 0), (6, .invokevirtual 92, 3, 200, 0, 0), (9, .if_icmp .ge 25, 3, 0, 0, 0), (12, .iload_n 1, 1, 0, 0, 0), (13, .aload_n 0, 1, 0, 0, 0), (14, .iload_n 2, 1, 0, 0, 0), (15, .invokevirtual 395, 3, 202, 1, 0), (18, .ifCond .eq 7, 3, 0, 0, 0), (21, .iconst 0, 1, 0, 0, 0), (22, .goto 4, 3, 0, 0, 0), (25, .iconst 1, 1, 0, 0, 0), (26, .iadd, 1, 0, 0, 0), (27, .istore_n 1, 1, 0, 0, 0), (28, .iinc 2 1, 3, 0, 0, 0), (31, .goto (-27), 3, 0, 0, 0), (34, .iload_n 1, 1, 0, 0, 0), (35, .ireturn, 1, 0, 0, 0)]
noncomputable def M_cX12_openHoles : xM := (RX12, yX12_openHoles, cX12_openHoles, 3, (some .int), false, 12, [(35, k_cX12_openHoles_0)])
noncomputable def k_cX12_stepsToAll_0 : List xR := [(0, .iconst 0, 1, 0, 0, 0), (1, .istore_n 2, 1, 0, 0, 0), (2, .iconst 0, 1, 0, 0, 0), (3, .istore_n 3, 1, 0, 0, 0), (4, .iload_n 3, 1, 0, 0, 0), (5, .aload_n 0, 1, 0, 0, 0), (6, .invokevirtual 92, 3, 200, 0, 0), (9, .if_icmp .ge 30, 3, 0, 0, 0), (12, .iload_n 2, 1, 0, 0, 0), (13, .aload_n 0, 1, 0, 0, 0), (14, .iload_n 3, 1, 0, 0, 0), (15, .invokevirtual 395, 3, 202, 1, 0), (18, .ifCond .eq 7, 3, 0, 0, 0), (21, .iconst 0, 1, 0, 0, 0), (22, .goto 9, 3, 0, 0, 0), (25, .aload_n 0, 1, 0, 0, 0), (26, .iload_n 1, 1, 0, 0, 0), (27, .iload_n 3, 1, 0, 0, 0), (28, .invokevirtual 303, 3, 248, 2, 0), (31, .iadd, 1, 0, 0, 0), (32, .istore_n 2, 1, 0, 0, 0), (33, .iinc 3 1, 3, 0, 0, 0), (36, .goto (-32), 3, 0, 0, 0), (39, .iload_n 2, 1, 0, 0, 0), (40, .ireturn, 1, 0, 0, 0)]
noncomputable def M_cX12_stepsToAll : xM := (RX12, yX12_stepsToAll, cX12_stepsToAll, 4, (some .int), false, 12, [(40, k_cX12_stepsToAll_0)])
noncomputable def k_cX12_divisor_0 : List xR := [(0, .iload_n 0, 1, 0, 0, 0), (1, .istore_n 2, 1, 0, 0, 0), (2, .iload_n 1, 1, 0, 0, 0), (3, .istore_n 3, 1, 0, 0, 0), (4, .iload_n 3, 1, 0, 0, 0), (5, .ifCond .eq 16, 3, 0, 0, 0), (8, .iload_n 2, 1, 0, 0, 0), (9, .iload_n 3, 1, 0, 0, 0), (10, .irem, 1, 0, 0, 0), (11, .istore 4, 2, 0, 0, 0), (13, .iload_n 3, 1, 0, 0, 0), (14, .istore_n 2, 1, 0, 0, 0), (15, .iload 4, 2, 0, 0, 0), (17, .istore_n 3, 1, 0, 0, 0), (18, .goto (-14), 3, 0, 0, 0), (21, .iload_n 2, 1, 0, 0, 0), (22, .ireturn, 1, 0, 0, 0)]
noncomputable def M_cX12_divisor : xM := (RX12, yX12_divisor, cX12_divisor, 5, (some .int), true, 12, [(22, k_cX12_divisor_0)])
noncomputable def k_cX12_mean_0 : List xR := [(0, .aload_n 0, 1, 0, 0, 0), (1, .iload_n 1, 1, 0, 0, 0), (2, .i2l, 1, 0, 0, 0), (3, .invokevirtual 300, 3, 201, 1, 0), (6, .ifCond .eq 13, 3, 0, 0, 0), (9, .iload_n 2, 1, 0, 0, 0), (10, .i2l, 1, 0, 0, 0), (11, .lconst 0, 1, 0, 0, 0), (12, .lconst 1, 1, 0, 0, 0), (13, .invokestatic 88, 3, 196, 3, 0), (16, .ifCond .ne 6, 3, 0, 0, 0), (19, .bipush (-2), 2, 0, 0, 0), (21, .ireturn, 1, 0, 0, 0), (22, .aload_n 0, 1, 0, 0, 0), (23, .invokevirtual 398, 3, 278, 0, 0), (26, .istore_n 3, 1, 0, 0, 0), (27, .iload_n 3, 1, 0, 0, 0), (28, .ifCond .ne 5, 3, 0, 0, 0), (31, .iconst (-1), 1, 0, 0, 0), (32, .ireturn, 1, 0, 0, 0), (33, .aload_n 0, 1, 0, 0, 0), (34, .iload_n 1, 1, 0, 0, 0), (35, .invokevirtual 401, 3, 279, 1, 0), (38, .istore 4, 2, 0, 0, 0), (40, .iload_n 2, 1, 0, 0, 0), (41, .ifCond .ne 8, 3, 0, 0, 0), (44, .iload 4, 2, 0, 0, 0), (46, .goto 4, 3, 0, 0, 0), (49, .iload_n 3, 1, 0, 0, 0), (50, .iload 4, 2, 0, 0, 0), (52, .iload_n 3, 1, 0, 0, 0), (53, .invokestatic 404, 3, 280, 2, 0)]
noncomputable def k_cX12_mean_1 : List xR := [(56, .idiv, 1, 0, 0, 0), (57, .ireturn, 1, 0, 0, 0)]
noncomputable def M_cX12_mean : xM := (RX12, yX12_mean, cX12_mean, 5, (some .int), false, 12, [(53, k_cX12_mean_0), (57, k_cX12_mean_1)])
noncomputable def k_cX12_middle_0 : List xR := [(0, .aload_n 0, 1, 0, 0, 0), (1, .invokevirtual 282, 3, 199, 0, 0), (4, .ifCond .eq 13, 3, 0, 0, 0), (7, .iload_n 1, 1, 0, 0, 0), (8, .i2l, 1, 0, 0, 0), (9, .lconst 0, 1, 0, 0, 0), (10, .lconst 1, 1, 0, 0, 0), (11, .invokestatic 88, 3, 196, 3, 0), (14, .ifCond .ne 6, 3, 0, 0, 0), (17, .bipush (-2), 2, 0, 0, 0), (19, .ireturn, 1, 0, 0, 0), (20, .aload_n 0, 1, 0, 0, 0), (21, .invokevirtual 398, 3, 278, 0, 0), (24, .ifCond .ne 5, 3, 0, 0, 0), (27, .iconst (-1), 1, 0, 0, 0), (28, .ireturn, 1, 0, 0, 0), (29, .iconst 0, 1, 0, 0, 0), (30, .istore_n 2, 1, 0, 0, 0), (31, .iconst 1, 1, 0, 0, 0), (32, .istore_n 3, 1, 0, 0, 0), (33, .iload_n 3, 1, 0, 0, 0), (34, .aload_n 0, 1, 0, 0, 0), (35, .invokevirtual 92, 3, 200, 0, 0), (38, .if_icmp .ge 44, 3, 0, 0, 0), (41, .iload_n 1, 1, 0, 0, 0), (42, .ifCond .ne 19, 3, 0, 0, 0), (45, .aload_n 0, 1, 0, 0, 0), (46, .iload_n 3, 1, 0, 0, 0), (47, .invokevirtual 401, 3, 279, 1, 0), (50, .aload_n 0, 1, 0, 0, 0), (51, .iload_n 2, 1, 0, 0, 0), (52, .invokevirtual 401, 3, 279, 1, 0)]
noncomputable def k_cX12_middle_1 : List xR := [(55, .if_icmp .ge 21, 3, 0, 0, 0), (58, .goto 16, 3, 0, 0, 0), (61, .aload_n 0, 1, 0, 0, 0), (62, .iload_n 3, 1, 0, 0, 0), (63, .invokevirtual 401, 3, 279, 1, 0), (66, .aload_n 0, 1, 0, 0, 0), (67, .iload_n 2, 1, 0, 0, 0), (68, .invokevirtual 401, 3, 279, 1, 0), (71, .if_icmp .le 5, 3, 0, 0, 0), (74, .iload_n 3, 1, 0, 0, 0), (75, .istore_n 2, 1, 0, 0, 0), (76, .iinc 3 1, 3, 0, 0, 0), (79, .goto (-46), 3, 0, 0, 0), (82, .iload_n 2, 1, 0, 0, 0), (83, .ireturn, 1, 0, 0, 0)]
noncomputable def M_cX12_middle : xM := (RX12, yX12_middle, cX12_middle, 4, (some .int), false, 12, [(52, k_cX12_middle_0), (83, k_cX12_middle_1)])
noncomputable def k_cX12_reachOf_0 : List xR := [(0, .iconst 0, 1, 0, 0, 0), (1, .istore_n 3, 1, 0, 0, 0), (2, .aload_n 0, 1, 0, 0, 0), (3, .iconst 0, 1, 0, 0, 0), (4, .invokevirtual 254, 3, 233, 1, 0), (7, .iconst 1, 1, 0, 0, 0), (8, .isub, 1, 0, 0, 0), (9, .istore 4, 2, 0, 0, 0), (11, .iconst 0, 1, 0, 0, 0), (12, .istore 5, 2, 0, 0, 0), (14, .iload 5, 2, 0, 0, 0), (16, .aload_n 0, 1, 0, 0, 0), (17, .invokevirtual 92, 3, 200, 0, 0), (20, .if_icmp .ge 56, 3, 0, 0, 0), (23, .aload_n 0, 1, 0, 0, 0), (24, .iload 5, 2, 0, 0, 0), (26, .invokevirtual 395, 3, 202, 1, 0), (29, .ifCond .ne 41, 3, 0, 0, 0), (32, .aload_n 0, 1, 0, 0, 0), (33, .iload_n 1, 1, 0, 0, 0), (34, .iconst 1, 1, 0, 0, 0), (35, .invokevirtual 275, 3, 207, 2, 0), (38, .aload_n 0, 1, 0, 0, 0), (39, .iload_n 2, 1, 0, 0, 0), (40, .iload 5, 2, 0, 0, 0), (42, .invokevirtual 303, 3, 248, 2, 0), (45, .aload_n 0, 1, 0, 0, 0), (46, .iload_n 1, 1, 0, 0, 0), (47, .aload_n 0, 1, 0, 0, 0), (48, .iload_n 1, 1, 0, 0, 0), (49, .iconst 1, 1, 0, 0, 0), (50, .invokevirtual 275, 3, 207, 2, 0)]
noncomputable def k_cX12_reachOf_1 : List xR := [(53, .invokevirtual 306, 3, 250, 2, 0), (56, .imul, 1, 0, 0, 0), (57, .iadd, 1, 0, 0, 0), (58, .iload 4, 2, 0, 0, 0), (60, .if_icmp .gt 10, 3, 0, 0, 0), (63, .iload_n 3, 1, 0, 0, 0), (64, .iconst 1, 1, 0, 0, 0), (65, .iload 5, 2, 0, 0, 0), (67, .ishl, 1, 0, 0, 0), (68, .ior, 1, 0, 0, 0), (69, .istore_n 3, 1, 0, 0, 0), (70, .iinc 5 1, 3, 0, 0, 0), (73, .goto (-59), 3, 0, 0, 0), (76, .iload_n 3, 1, 0, 0, 0), (77, .ireturn, 1, 0, 0, 0)]
noncomputable def M_cX12_reachOf : xM := (RX12, yX12_reachOf, cX12_reachOf, 6, (some .int), false, 12, [(50, k_cX12_reachOf_0), (77, k_cX12_reachOf_1)])
noncomputable def k_cX12_reach_0 : List xR := [(0, .aload_n 0, 1, 0, 0, 0), (1, .iload_n 1, 1, 0, 0, 0), (2, .invokevirtual 270, 3, 205, 1, 0), (5, .ifCond .eq 21, 3, 0, 0, 0), (8, .aload_n 0, 1, 0, 0, 0), (9, .iload_n 2, 1, 0, 0, 0), (10, .i2l, 1, 0, 0, 0), (11, .invokevirtual 300, 3, 201, 1, 0), (14, .ifCond .eq 12, 3, 0, 0, 0), (17, .aload_n 0, 1, 0, 0, 0), (18, .iload_n 1, 1, 0, 0, 0), (19, .iload_n 2, 1, 0, 0, 0), (20, .invokevirtual 407, 3, 283, 2, 0), (23, .goto 5, 3, 0, 0, 0), (26, .bipush (-2), 2, 0, 0, 0), (28, .ireturn, 1, 0, 0, 0)]
noncomputable def M_cX12_reach : xM := (RX12, yX12_reach, cX12_reach, 3, (some .int), false, 12, [(28, k_cX12_reach_0)])
noncomputable def k_cX12_bits_0 : List xR := [(0, .iconst 0, 1, 0, 0, 0), (1, .istore_n 1, 1, 0, 0, 0), (2, .iconst 0, 1, 0, 0, 0), (3, .istore_n 2, 1, 0, 0, 0), (4, .iload_n 2, 1, 0, 0, 0), (5, .bipush 12, 2, 0, 0, 0), (7, .if_icmp .ge 17, 3, 0, 0, 0), (10, .iload_n 1, 1, 0, 0, 0), (11, .iload_n 0, 1, 0, 0, 0), (12, .iload_n 2, 1, 0, 0, 0), (13, .ishr, 1, 0, 0, 0), (14, .iconst 1, 1, 0, 0, 0), (15, .iand, 1, 0, 0, 0), (16, .iadd, 1, 0, 0, 0), (17, .istore_n 1, 1, 0, 0, 0), (18, .iinc 2 1, 3, 0, 0, 0), (21, .goto (-17), 3, 0, 0, 0), (24, .iload_n 1, 1, 0, 0, 0), (25, .ireturn, 1, 0, 0, 0)]
noncomputable def M_cX12_bits : xM := (RX12, yX12_bits, cX12_bits, 3, (some .int), true, 12, [(25, k_cX12_bits_0)])
noncomputable def k_cX12_post_0 : List xR := [(0, .aload_n 0, 1, 0, 0, 0), (1, .iload_n 1, 1, 0, 0, 0), (2, .invokevirtual 270, 3, 205, 1, 0), (5, .ifCond .ne 6, 3, 0, 0, 0), (8, .bipush (-2), 2, 0, 0, 0), (10, .ireturn, 1, 0, 0, 0), (11, .iconst 0, 1, 0, 0, 0), (12, .istore_n 2, 1, 0, 0, 0), (13, .iconst 1, 1, 0, 0, 0), (14, .istore_n 3, 1, 0, 0, 0), (15, .iload_n 3, 1, 0, 0, 0), (16, .aload_n 0, 1, 0, 0, 0), (17, .invokevirtual 92, 3, 200, 0, 0), (20, .if_icmp .ge 36, 3, 0, 0, 0), (23, .aload_n 0, 1, 0, 0, 0), (24, .iload_n 1, 1, 0, 0, 0), (25, .iload_n 3, 1, 0, 0, 0), (26, .invokevirtual 407, 3, 283, 2, 0), (29, .invokestatic 410, 3, 285, 1, 0), (32, .aload_n 0, 1, 0, 0, 0), (33, .iload_n 1, 1, 0, 0, 0), (34, .iload_n 2, 1, 0, 0, 0), (35, .invokevirtual 407, 3, 283, 2, 0), (38, .invokestatic 410, 3, 285, 1, 0), (41, .if_icmp .le 7, 3, 0, 0, 0), (44, .iload_n 3, 1, 0, 0, 0), (45, .goto 4, 3, 0, 0, 0), (48, .iload_n 2, 1, 0, 0, 0), (49, .istore_n 2, 1, 0, 0, 0), (50, .iinc 3 1, 3, 0, 0, 0), (53, .goto (-38), 3, 0, 0, 0), (56, .iload_n 2, 1, 0, 0, 0)]
noncomputable def k_cX12_post_1 : List xR := [(57, .ireturn, 1, 0, 0, 0)]
noncomputable def M_cX12_post : xM := (RX12, yX12_post, cX12_post, 4, (some .int), false, 12, [(56, k_cX12_post_0), (57, k_cX12_post_1)])
noncomputable def k_cX12_lagging_0 : List xR := [(0, .aload_n 0, 1, 0, 0, 0), (1, .iload_n 1, 1, 0, 0, 0), (2, .invokevirtual 328, 3, 252, 1, 0), (5, .aload_n 0, 1, 0, 0, 0), (6, .iload_n 2, 1, 0, 0, 0), (7, .putfield 312, 3, 12, 20, 0), (10, .aload_n 0, 1, 0, 0, 0), (11, .invokevirtual 362, 3, 258, 0, 0), (14, .aload_n 0, 1, 0, 0, 0), (15, .getfield 346, 3, 12, 29, 0), (18, .ireturn, 1, 0, 0, 0)]
noncomputable def M_cX12_lagging : xM := (RX12, yX12_lagging, cX12_lagging, 3, (some .int), false, 12, [(18, k_cX12_lagging_0)])
noncomputable def k_cX12_slack_0 : List xR := [(0, .aload_n 0, 1, 0, 0, 0), (1, .iload_n 1, 1, 0, 0, 0), (2, .invokevirtual 270, 3, 205, 1, 0), (5, .ifCond .ne 6, 3, 0, 0, 0), (8, .bipush (-2), 2, 0, 0, 0), (10, .ireturn, 1, 0, 0, 0), (11, .aload_n 0, 1, 0, 0, 0), (12, .invokevirtual 285, 3, 237, 0, 0), (15, .aload_n 0, 1, 0, 0, 0), (16, .iload_n 1, 1, 0, 0, 0), (17, .iconst 0, 1, 0, 0, 0), (18, .invokevirtual 413, 3, 287, 2, 0), (21, .istore_n 2, 1, 0, 0, 0), (22, .iconst 0, 1, 0, 0, 0), (23, .istore_n 3, 1, 0, 0, 0), (24, .iconst 1, 1, 0, 0, 0), (25, .istore 4, 2, 0, 0, 0), (27, .iload 4, 2, 0, 0, 0), (29, .bipush 20, 2, 0, 0, 0), (31, .if_icmp .gt 27, 3, 0, 0, 0), (34, .aload_n 0, 1, 0, 0, 0), (35, .iload_n 1, 1, 0, 0, 0), (36, .iload 4, 2, 0, 0, 0), (38, .invokevirtual 413, 3, 287, 2, 0), (41, .iload_n 2, 1, 0, 0, 0), (42, .if_icmp .ne 8, 3, 0, 0, 0), (45, .iload 4, 2, 0, 0, 0), (47, .goto 4, 3, 0, 0, 0), (50, .iload_n 3, 1, 0, 0, 0), (51, .istore_n 3, 1, 0, 0, 0), (52, .iinc 4 1, 3, 0, 0, 0), (55, .goto (-28), 3, 0, 0, 0)]
noncomputable def k_cX12_slack_1 : List xR := [(58, .iload_n 3, 1, 0, 0, 0), (59, .ireturn, 1, 0, 0, 0)]
noncomputable def M_cX12_slack : xM := (RX12, yX12_slack, cX12_slack, 5, (some .int), false, 12, [(55, k_cX12_slack_0), (59, k_cX12_slack_1)])
noncomputable def k_cX12_isLaw_0 : List xR := [(0, .iload_n 0, 1, 0, 0, 0), (1, .i2l, 1, 0, 0, 0), (2, .lconst 0, 1, 0, 0, 0), (3, .ldc2_w 416, 3, 3, 0, 0), (6, .invokestatic 88, 3, 196, 3, 0), (9, .ireturn, 1, 0, 0, 0)]
noncomputable def M_cX12_isLaw : xM := (RX12, yX12_isLaw, cX12_isLaw, 1, (some .boolean), true, 12, [(9, k_cX12_isLaw_0)])
noncomputable def k_cX12_lets_0 : List xR := [(0, .aload_n 0, 1, 0, 0, 0), (1, .iload_n 2, 1, 0, 0, 0), (2, .invokevirtual 395, 3, 202, 1, 0), (5, .ifCond .eq 5, 3, 0, 0, 0), (8, .iconst 0, 1, 0, 0, 0), (9, .ireturn, 1, 0, 0, 0), (10, .iload_n 1, 1, 0, 0, 0), (11, .iconst 1, 1, 0, 0, 0), (12, .if_icmp .ne 14, 3, 0, 0, 0), (15, .iload_n 2, 1, 0, 0, 0), (16, .iload_n 3, 1, 0, 0, 0), (17, .if_icmp .eq 7, 3, 0, 0, 0), (20, .iconst 1, 1, 0, 0, 0), (21, .goto 4, 3, 0, 0, 0), (24, .iconst 0, 1, 0, 0, 0), (25, .ireturn, 1, 0, 0, 0), (26, .iload_n 1, 1, 0, 0, 0), (27, .iconst 2, 1, 0, 0, 0), (28, .if_icmp .ne 24, 3, 0, 0, 0), (31, .iload_n 3, 1, 0, 0, 0), (32, .iconst (-1), 1, 0, 0, 0), (33, .if_icmp .eq 13, 3, 0, 0, 0), (36, .aload_n 0, 1, 0, 0, 0), (37, .iload_n 2, 1, 0, 0, 0), (38, .iload_n 3, 1, 0, 0, 0), (39, .invokevirtual 303, 3, 248, 2, 0), (42, .iconst 1, 1, 0, 0, 0), (43, .if_icmp .le 7, 3, 0, 0, 0), (46, .iconst 1, 1, 0, 0, 0), (47, .goto 4, 3, 0, 0, 0), (50, .iconst 0, 1, 0, 0, 0), (51, .ireturn, 1, 0, 0, 0)]
noncomputable def k_cX12_lets_1 : List xR := [(52, .iload_n 1, 1, 0, 0, 0), (53, .ifCond .eq 14, 3, 0, 0, 0), (56, .iload_n 2, 1, 0, 0, 0), (57, .iload_n 3, 1, 0, 0, 0), (58, .if_icmp .eq 13, 3, 0, 0, 0), (61, .iload_n 2, 1, 0, 0, 0), (62, .iload 4, 2, 0, 0, 0), (64, .if_icmp .eq 7, 3, 0, 0, 0), (67, .iconst 1, 1, 0, 0, 0), (68, .goto 4, 3, 0, 0, 0), (71, .iconst 0, 1, 0, 0, 0), (72, .ireturn, 1, 0, 0, 0)]
noncomputable def M_cX12_lets : xM := (RX12, yX12_lets, cX12_lets, 5, (some .boolean), false, 12, [(51, k_cX12_lets_0), (72, k_cX12_lets_1)])
noncomputable def k_cX12_fillRows_0 : List xR := [(0, .iconst 0, 1, 0, 0, 0), (1, .istore_n 3, 1, 0, 0, 0), (2, .iload_n 3, 1, 0, 0, 0), (3, .aload_n 0, 1, 0, 0, 0), (4, .getfield 61, 3, 12, 36, 0), (7, .arraylength, 1, 0, 0, 0), (8, .if_icmp .ge 24, 3, 0, 0, 0), (11, .aload_n 0, 1, 0, 0, 0), (12, .getfield 61, 3, 12, 36, 0), (15, .iload_n 3, 1, 0, 0, 0), (16, .iload_n 3, 1, 0, 0, 0), (17, .ifCond .ne 7, 3, 0, 0, 0), (20, .lconst 1, 1, 0, 0, 0), (21, .goto 4, 3, 0, 0, 0), (24, .lconst 0, 1, 0, 0, 0), (25, .lastore, 1, 0, 0, 0), (26, .iinc 3 1, 3, 0, 0, 0), (29, .goto (-27), 3, 0, 0, 0), (32, .iconst 0, 1, 0, 0, 0), (33, .istore_n 3, 1, 0, 0, 0), (34, .iload_n 3, 1, 0, 0, 0), (35, .iload_n 2, 1, 0, 0, 0), (36, .if_icmp .ge 169, 3, 0, 0, 0), (39, .iconst 0, 1, 0, 0, 0), (40, .istore 4, 2, 0, 0, 0), (42, .iload 4, 2, 0, 0, 0), (44, .aload_n 0, 1, 0, 0, 0), (45, .getfield 61, 3, 12, 36, 0), (48, .arraylength, 1, 0, 0, 0), (49, .if_icmp .ge 31, 3, 0, 0, 0), (52, .aload_n 0, 1, 0, 0, 0), (53, .getfield 65, 3, 12, 37, 0)]
noncomputable def k_cX12_fillRows_1 : List xR := [(56, .iload 4, 2, 0, 0, 0), (58, .aload_n 0, 1, 0, 0, 0), (59, .getfield 61, 3, 12, 36, 0), (62, .iload 4, 2, 0, 0, 0), (64, .laload, 1, 0, 0, 0), (65, .lastore, 1, 0, 0, 0), (66, .aload_n 0, 1, 0, 0, 0), (67, .getfield 61, 3, 12, 36, 0), (70, .iload 4, 2, 0, 0, 0), (72, .lconst 0, 1, 0, 0, 0), (73, .lastore, 1, 0, 0, 0), (74, .iinc 4 1, 3, 0, 0, 0), (77, .goto (-35), 3, 0, 0, 0), (80, .iconst (-1), 1, 0, 0, 0), (81, .istore 4, 2, 0, 0, 0), (83, .iload 4, 2, 0, 0, 0), (85, .aload_n 0, 1, 0, 0, 0), (86, .invokevirtual 92, 3, 200, 0, 0), (89, .if_icmp .ge 110, 3, 0, 0, 0), (92, .iconst (-1), 1, 0, 0, 0), (93, .istore 5, 2, 0, 0, 0), (95, .iload 5, 2, 0, 0, 0), (97, .aload_n 0, 1, 0, 0, 0), (98, .invokevirtual 92, 3, 200, 0, 0), (101, .if_icmp .ge 92, 3, 0, 0, 0), (104, .aload_n 0, 1, 0, 0, 0), (105, .getfield 65, 3, 12, 37, 0), (108, .bipush 13, 2, 0, 0, 0), (110, .iload 4, 2, 0, 0, 0), (112, .iconst 1, 1, 0, 0, 0), (113, .iadd, 1, 0, 0, 0), (114, .imul, 1, 0, 0, 0)]
noncomputable def k_cX12_fillRows_2 : List xR := [(115, .iload 5, 2, 0, 0, 0), (117, .iadd, 1, 0, 0, 0), (118, .iconst 1, 1, 0, 0, 0), (119, .iadd, 1, 0, 0, 0), (120, .laload, 1, 0, 0, 0), (121, .lstore 6, 2, 0, 0, 0), (123, .lload 6, 2, 0, 0, 0), (125, .lconst 0, 1, 0, 0, 0), (126, .lcmp, 1, 0, 0, 0), (127, .ifCond .ne 6, 3, 0, 0, 0), (130, .goto 57, 3, 0, 0, 0), (133, .iconst 0, 1, 0, 0, 0), (134, .istore 8, 2, 0, 0, 0), (136, .iload 8, 2, 0, 0, 0), (138, .aload_n 0, 1, 0, 0, 0), (139, .invokevirtual 92, 3, 200, 0, 0), (142, .if_icmp .ge 45, 3, 0, 0, 0), (145, .aload_n 0, 1, 0, 0, 0), (146, .iload_n 1, 1, 0, 0, 0), (147, .iload 8, 2, 0, 0, 0), (149, .iload 4, 2, 0, 0, 0), (151, .iload 5, 2, 0, 0, 0), (153, .invokevirtual 418, 3, 290, 4, 0), (156, .ifCond .eq 25, 3, 0, 0, 0), (159, .aload_n 0, 1, 0, 0, 0), (160, .getfield 61, 3, 12, 36, 0), (163, .bipush 13, 2, 0, 0, 0), (165, .iload 8, 2, 0, 0, 0), (167, .iconst 1, 1, 0, 0, 0), (168, .iadd, 1, 0, 0, 0), (169, .imul, 1, 0, 0, 0), (170, .iload 4, 2, 0, 0, 0)]
noncomputable def k_cX12_fillRows_3 : List xR := [(172, .iadd, 1, 0, 0, 0), (173, .iconst 1, 1, 0, 0, 0), (174, .iadd, 1, 0, 0, 0), (175, .dup2, 1, 0, 0, 0), (176, .laload, 1, 0, 0, 0), (177, .lload 6, 2, 0, 0, 0), (179, .ladd, 1, 0, 0, 0), (180, .lastore, 1, 0, 0, 0), (181, .iinc 8 1, 3, 0, 0, 0), (184, .goto (-48), 3, 0, 0, 0), (187, .iinc 5 1, 3, 0, 0, 0), (190, .goto (-95), 3, 0, 0, 0), (193, .iinc 4 1, 3, 0, 0, 0), (196, .goto (-113), 3, 0, 0, 0), (199, .iinc 3 1, 3, 0, 0, 0), (202, .goto (-168), 3, 0, 0, 0), (205, .return_, 1, 0, 0, 0)]
noncomputable def M_cX12_fillRows : xM := (RX12, yX12_fillRows, cX12_fillRows, 9, none, false, 12, [(53, k_cX12_fillRows_0), (114, k_cX12_fillRows_1), (170, k_cX12_fillRows_2), (205, k_cX12_fillRows_3)])
noncomputable def k_cX12_endingIn_0 : List xR := [(0, .lconst 0, 1, 0, 0, 0), (1, .lstore_n 2, 1, 0, 0, 0), (2, .iconst 0, 1, 0, 0, 0), (3, .istore 4, 2, 0, 0, 0), (5, .iload 4, 2, 0, 0, 0), (7, .bipush 13, 2, 0, 0, 0), (9, .if_icmp .ge 26, 3, 0, 0, 0), (12, .lload_n 2, 1, 0, 0, 0), (13, .aload_n 0, 1, 0, 0, 0), (14, .getfield 61, 3, 12, 36, 0), (17, .bipush 13, 2, 0, 0, 0), (19, .iload_n 1, 1, 0, 0, 0), (20, .iconst 1, 1, 0, 0, 0), (21, .iadd, 1, 0, 0, 0), (22, .imul, 1, 0, 0, 0), (23, .iload 4, 2, 0, 0, 0), (25, .iadd, 1, 0, 0, 0), (26, .laload, 1, 0, 0, 0), (27, .ladd, 1, 0, 0, 0), (28, .lstore_n 2, 1, 0, 0, 0), (29, .iinc 4 1, 3, 0, 0, 0), (32, .goto (-27), 3, 0, 0, 0), (35, .lload_n 2, 1, 0, 0, 0), (36, .lreturn, 1, 0, 0, 0)]
noncomputable def M_cX12_endingIn : xM := (RX12, yX12_endingIn, cX12_endingIn, 5, (some .long), false, 12, [(36, k_cX12_endingIn_0)])
noncomputable def k_cX12_rows_0 : List xR := [(0, .aload_n 0, 1, 0, 0, 0), (1, .invokevirtual 282, 3, 199, 0, 0), (4, .ifCond .eq 22, 3, 0, 0, 0), (7, .iload_n 1, 1, 0, 0, 0), (8, .invokestatic 422, 3, 289, 1, 0), (11, .ifCond .eq 15, 3, 0, 0, 0), (14, .iload_n 2, 1, 0, 0, 0), (15, .i2l, 1, 0, 0, 0), (16, .lconst 1, 1, 0, 0, 0), (17, .ldc2_w 425, 3, 12, 0, 0), (20, .invokestatic 88, 3, 196, 3, 0), (23, .ifCond .ne 7, 3, 0, 0, 0), (26, .ldc2_w 427, 3, 18446744073709551614, 0, 0), (29, .lreturn, 1, 0, 0, 0), (30, .aload_n 0, 1, 0, 0, 0), (31, .iload_n 1, 1, 0, 0, 0), (32, .iload_n 2, 1, 0, 0, 0), (33, .invokevirtual 429, 3, 291, 2, 0), (36, .lconst 0, 1, 0, 0, 0), (37, .lstore_n 3, 1, 0, 0, 0), (38, .iconst 0, 1, 0, 0, 0), (39, .istore 5, 2, 0, 0, 0), (41, .iload 5, 2, 0, 0, 0), (43, .aload_n 0, 1, 0, 0, 0), (44, .invokevirtual 92, 3, 200, 0, 0), (47, .if_icmp .ge 18, 3, 0, 0, 0), (50, .lload_n 3, 1, 0, 0, 0), (51, .aload_n 0, 1, 0, 0, 0), (52, .iload 5, 2, 0, 0, 0), (54, .invokevirtual 433, 3, 292, 1, 0), (57, .ladd, 1, 0, 0, 0), (58, .lstore_n 3, 1, 0, 0, 0)]
noncomputable def k_cX12_rows_1 : List xR := [(59, .iinc 5 1, 3, 0, 0, 0), (62, .goto (-21), 3, 0, 0, 0), (65, .lload_n 3, 1, 0, 0, 0), (66, .lreturn, 1, 0, 0, 0)]
noncomputable def M_cX12_rows : xM := (RX12, yX12_rows, cX12_rows, 6, (some .long), false, 12, [(58, k_cX12_rows_0), (66, k_cX12_rows_1)])
noncomputable def k_cX12_ends_0 : List xR := [(0, .aload_n 0, 1, 0, 0, 0), (1, .iload_n 3, 1, 0, 0, 0), (2, .i2l, 1, 0, 0, 0), (3, .invokevirtual 300, 3, 201, 1, 0), (6, .ifCond .eq 22, 3, 0, 0, 0), (9, .iload_n 1, 1, 0, 0, 0), (10, .invokestatic 422, 3, 289, 1, 0), (13, .ifCond .eq 15, 3, 0, 0, 0), (16, .iload_n 2, 1, 0, 0, 0), (17, .i2l, 1, 0, 0, 0), (18, .lconst 1, 1, 0, 0, 0), (19, .ldc2_w 425, 3, 12, 0, 0), (22, .invokestatic 88, 3, 196, 3, 0), (25, .ifCond .ne 7, 3, 0, 0, 0), (28, .ldc2_w 427, 3, 18446744073709551614, 0, 0), (31, .lreturn, 1, 0, 0, 0), (32, .aload_n 0, 1, 0, 0, 0), (33, .iload_n 1, 1, 0, 0, 0), (34, .iload_n 2, 1, 0, 0, 0), (35, .invokevirtual 429, 3, 291, 2, 0), (38, .aload_n 0, 1, 0, 0, 0), (39, .iload_n 3, 1, 0, 0, 0), (40, .invokevirtual 433, 3, 292, 1, 0), (43, .lreturn, 1, 0, 0, 0)]
noncomputable def M_cX12_ends : xM := (RX12, yX12_ends, cX12_ends, 4, (some .long), false, 12, [(43, k_cX12_ends_0)])
noncomputable def k_cX12_fair_0 : List xR := [(0, .aload_n 0, 1, 0, 0, 0), (1, .invokevirtual 282, 3, 199, 0, 0), (4, .ifCond .eq 10, 3, 0, 0, 0), (7, .iload_n 1, 1, 0, 0, 0), (8, .invokestatic 422, 3, 289, 1, 0), (11, .ifCond .ne 6, 3, 0, 0, 0), (14, .bipush (-2), 2, 0, 0, 0), (16, .ireturn, 1, 0, 0, 0), (17, .iconst 1, 1, 0, 0, 0), (18, .istore_n 2, 1, 0, 0, 0), (19, .iload_n 2, 1, 0, 0, 0), (20, .bipush 12, 2, 0, 0, 0), (22, .if_icmp .gt 76, 3, 0, 0, 0), (25, .aload_n 0, 1, 0, 0, 0), (26, .iload_n 1, 1, 0, 0, 0), (27, .iload_n 2, 1, 0, 0, 0), (28, .invokevirtual 429, 3, 291, 2, 0), (31, .iconst (-1), 1, 0, 0, 0), (32, .istore_n 3, 1, 0, 0, 0), (33, .iconst 0, 1, 0, 0, 0), (34, .istore 4, 2, 0, 0, 0), (36, .iload 4, 2, 0, 0, 0), (38, .aload_n 0, 1, 0, 0, 0), (39, .invokevirtual 92, 3, 200, 0, 0), (42, .if_icmp .ge 50, 3, 0, 0, 0), (45, .aload_n 0, 1, 0, 0, 0), (46, .iload 4, 2, 0, 0, 0), (48, .invokevirtual 395, 3, 202, 1, 0), (51, .ifCond .eq 6, 3, 0, 0, 0), (54, .goto 32, 3, 0, 0, 0), (57, .iload_n 3, 1, 0, 0, 0), (58, .iconst (-1), 1, 0, 0, 0)]
noncomputable def k_cX12_fair_1 : List xR := [(59, .if_icmp .ne 8, 3, 0, 0, 0), (62, .iload 4, 2, 0, 0, 0), (64, .goto 4, 3, 0, 0, 0), (67, .iload_n 3, 1, 0, 0, 0), (68, .istore_n 3, 1, 0, 0, 0), (69, .aload_n 0, 1, 0, 0, 0), (70, .iload 4, 2, 0, 0, 0), (72, .invokevirtual 433, 3, 292, 1, 0), (75, .aload_n 0, 1, 0, 0, 0), (76, .iload_n 3, 1, 0, 0, 0), (77, .invokevirtual 433, 3, 292, 1, 0), (80, .lcmp, 1, 0, 0, 0), (81, .ifCond .eq 5, 3, 0, 0, 0), (84, .iconst 0, 1, 0, 0, 0), (85, .ireturn, 1, 0, 0, 0), (86, .iinc 4 1, 3, 0, 0, 0), (89, .goto (-53), 3, 0, 0, 0), (92, .iinc 2 1, 3, 0, 0, 0), (95, .goto (-76), 3, 0, 0, 0), (98, .iconst 1, 1, 0, 0, 0), (99, .ireturn, 1, 0, 0, 0)]
noncomputable def M_cX12_fair : xM := (RX12, yX12_fair, cX12_fair, 5, (some .int), false, 12, [(58, k_cX12_fair_0), (99, k_cX12_fair_1)])
noncomputable def k_cX12_holeAt_0 : List xR := [(0, .aload_n 0, 1, 0, 0, 0), (1, .iload_n 1, 1, 0, 0, 0), (2, .aload_n 0, 1, 0, 0, 0), (3, .getfield 9, 3, 12, 1, 0), (6, .iconst 5, 1, 0, 0, 0), (7, .iaload, 1, 0, 0, 0), (8, .invokestatic 437, 3, 357, 2, 0), (11, .iconst 0, 1, 0, 0, 0), (12, .invokevirtual 260, 3, 206, 2, 0), (15, .ireturn, 1, 0, 0, 0)]
noncomputable def M_cX12_holeAt : xM := (RX12, yX12_holeAt, cX12_holeAt, 2, (some .int), false, 12, [(15, k_cX12_holeAt_0)])
noncomputable def k_cX12_breaks_0 : List xR := [(0, .aload_n 0, 1, 0, 0, 0), (1, .invokevirtual 282, 3, 199, 0, 0), (4, .ifCond .eq 10, 3, 0, 0, 0), (7, .iload_n 1, 1, 0, 0, 0), (8, .invokestatic 422, 3, 289, 1, 0), (11, .ifCond .ne 6, 3, 0, 0, 0), (14, .bipush (-2), 2, 0, 0, 0), (16, .ireturn, 1, 0, 0, 0), (17, .iconst 0, 1, 0, 0, 0), (18, .istore_n 2, 1, 0, 0, 0), (19, .iload_n 2, 1, 0, 0, 0), (20, .aload_n 0, 1, 0, 0, 0), (21, .getfield 9, 3, 12, 1, 0), (24, .iconst 5, 1, 0, 0, 0), (25, .iaload, 1, 0, 0, 0), (26, .if_icmp .ge 38, 3, 0, 0, 0), (29, .aload_n 0, 1, 0, 0, 0), (30, .iload_n 1, 1, 0, 0, 0), (31, .aload_n 0, 1, 0, 0, 0), (32, .iload_n 2, 1, 0, 0, 0), (33, .invokevirtual 440, 3, 296, 1, 0), (36, .aload_n 0, 1, 0, 0, 0), (37, .iload_n 2, 1, 0, 0, 0), (38, .iconst 1, 1, 0, 0, 0), (39, .isub, 1, 0, 0, 0), (40, .invokevirtual 440, 3, 296, 1, 0), (43, .aload_n 0, 1, 0, 0, 0), (44, .iload_n 2, 1, 0, 0, 0), (45, .iconst 2, 1, 0, 0, 0), (46, .isub, 1, 0, 0, 0), (47, .invokevirtual 440, 3, 296, 1, 0), (50, .invokevirtual 418, 3, 290, 4, 0)]
noncomputable def k_cX12_breaks_1 : List xR := [(53, .ifCond .ne 5, 3, 0, 0, 0), (56, .iload_n 2, 1, 0, 0, 0), (57, .ireturn, 1, 0, 0, 0), (58, .iinc 2 1, 3, 0, 0, 0), (61, .goto (-42), 3, 0, 0, 0), (64, .iconst (-1), 1, 0, 0, 0), (65, .ireturn, 1, 0, 0, 0)]
noncomputable def M_cX12_breaks : xM := (RX12, yX12_breaks, cX12_breaks, 3, (some .int), false, 12, [(50, k_cX12_breaks_0), (65, k_cX12_breaks_1)])
noncomputable def k_cX12_numberAt_0 : List xR := [(0, .aload_n 0, 1, 0, 0, 0), (1, .getfield 77, 3, 12, 45, 0), (4, .bipush 60, 2, 0, 0, 0), (6, .iload_n 1, 1, 0, 0, 0), (7, .imul, 1, 0, 0, 0), (8, .iload_n 2, 1, 0, 0, 0), (9, .iadd, 1, 0, 0, 0), (10, .laload, 1, 0, 0, 0), (11, .lreturn, 1, 0, 0, 0)]
noncomputable def M_cX12_numberAt : xM := (RX12, yX12_numberAt, cX12_numberAt, 3, (some .long), false, 12, [(11, k_cX12_numberAt_0)])
noncomputable def k_cX12_asksHeard_0 : List xR := [(0, .iload_n 1, 1, 0, 0, 0), (1, .invokestatic 443, 3, 351, 1, 0), (4, .ifCond .eq 10, 3, 0, 0, 0), (7, .aload_n 0, 1, 0, 0, 0), (8, .invokevirtual 282, 3, 199, 0, 0), (11, .ifCond .ne 6, 3, 0, 0, 0), (14, .bipush (-2), 2, 0, 0, 0), (16, .ireturn, 1, 0, 0, 0), (17, .aload_n 0, 1, 0, 0, 0), (18, .getfield 71, 3, 12, 43, 0), (21, .iload_n 1, 1, 0, 0, 0), (22, .iaload, 1, 0, 0, 0), (23, .iconst (-1), 1, 0, 0, 0), (24, .if_icmp .ne 6, 3, 0, 0, 0), (27, .bipush (-6), 2, 0, 0, 0), (29, .ireturn, 1, 0, 0, 0), (30, .iconst 0, 1, 0, 0, 0), (31, .istore_n 2, 1, 0, 0, 0), (32, .iload_n 2, 1, 0, 0, 0), (33, .aload_n 0, 1, 0, 0, 0), (34, .getfield 71, 3, 12, 43, 0), (37, .iload_n 1, 1, 0, 0, 0), (38, .iaload, 1, 0, 0, 0), (39, .if_icmp .ge 25, 3, 0, 0, 0), (42, .aload_n 0, 1, 0, 0, 0), (43, .aload_n 0, 1, 0, 0, 0), (44, .iload_n 1, 1, 0, 0, 0), (45, .iload_n 2, 1, 0, 0, 0), (46, .invokevirtual 446, 3, 298, 2, 0), (49, .invokevirtual 300, 3, 201, 1, 0), (52, .ifCond .ne 6, 3, 0, 0, 0), (55, .bipush (-2), 2, 0, 0, 0)]
noncomputable def k_cX12_asksHeard_1 : List xR := [(57, .ireturn, 1, 0, 0, 0), (58, .iinc 2 1, 3, 0, 0, 0), (61, .goto (-29), 3, 0, 0, 0), (64, .iconst 0, 1, 0, 0, 0), (65, .ireturn, 1, 0, 0, 0)]
noncomputable def M_cX12_asksHeard : xM := (RX12, yX12_asksHeard, cX12_asksHeard, 3, (some .int), false, 12, [(55, k_cX12_asksHeard_0), (65, k_cX12_asksHeard_1)])
noncomputable def k_cX12_isPeriod_0 : List xR := [(0, .iload_n 2, 1, 0, 0, 0), (1, .istore_n 3, 1, 0, 0, 0), (2, .iload_n 3, 1, 0, 0, 0), (3, .aload_n 0, 1, 0, 0, 0), (4, .getfield 71, 3, 12, 43, 0), (7, .iload_n 1, 1, 0, 0, 0), (8, .iaload, 1, 0, 0, 0), (9, .if_icmp .ge 29, 3, 0, 0, 0), (12, .aload_n 0, 1, 0, 0, 0), (13, .iload_n 1, 1, 0, 0, 0), (14, .iload_n 3, 1, 0, 0, 0), (15, .invokevirtual 446, 3, 298, 2, 0), (18, .aload_n 0, 1, 0, 0, 0), (19, .iload_n 1, 1, 0, 0, 0), (20, .iload_n 3, 1, 0, 0, 0), (21, .iload_n 2, 1, 0, 0, 0), (22, .isub, 1, 0, 0, 0), (23, .invokevirtual 446, 3, 298, 2, 0), (26, .lcmp, 1, 0, 0, 0), (27, .ifCond .eq 5, 3, 0, 0, 0), (30, .iconst 0, 1, 0, 0, 0), (31, .ireturn, 1, 0, 0, 0), (32, .iinc 3 1, 3, 0, 0, 0), (35, .goto (-33), 3, 0, 0, 0), (38, .iconst 1, 1, 0, 0, 0), (39, .ireturn, 1, 0, 0, 0)]
noncomputable def M_cX12_isPeriod : xM := (RX12, yX12_isPeriod, cX12_isPeriod, 4, (some .boolean), false, 12, [(39, k_cX12_isPeriod_0)])
noncomputable def k_cX12_leastPeriod_0 : List xR := [(0, .iconst 1, 1, 0, 0, 0), (1, .istore_n 2, 1, 0, 0, 0), (2, .iload_n 2, 1, 0, 0, 0), (3, .aload_n 0, 1, 0, 0, 0), (4, .getfield 71, 3, 12, 43, 0), (7, .iload_n 1, 1, 0, 0, 0), (8, .iaload, 1, 0, 0, 0), (9, .if_icmp .ge 20, 3, 0, 0, 0), (12, .aload_n 0, 1, 0, 0, 0), (13, .iload_n 1, 1, 0, 0, 0), (14, .iload_n 2, 1, 0, 0, 0), (15, .invokevirtual 450, 3, 300, 2, 0), (18, .ifCond .eq 5, 3, 0, 0, 0), (21, .iload_n 2, 1, 0, 0, 0), (22, .ireturn, 1, 0, 0, 0), (23, .iinc 2 1, 3, 0, 0, 0), (26, .goto (-24), 3, 0, 0, 0), (29, .iconst (-1), 1, 0, 0, 0), (30, .ireturn, 1, 0, 0, 0)]
noncomputable def M_cX12_leastPeriod : xM := (RX12, yX12_leastPeriod, cX12_leastPeriod, 3, (some .int), false, 12, [(30, k_cX12_leastPeriod_0)])
noncomputable def k_cX12_period_0 : List xR := [(0, .aload_n 0, 1, 0, 0, 0), (1, .iload_n 1, 1, 0, 0, 0), (2, .invokevirtual 453, 3, 299, 1, 0), (5, .istore_n 2, 1, 0, 0, 0), (6, .iload_n 2, 1, 0, 0, 0), (7, .ifCond .ge 7, 3, 0, 0, 0), (10, .iload_n 2, 1, 0, 0, 0), (11, .goto 8, 3, 0, 0, 0), (14, .aload_n 0, 1, 0, 0, 0), (15, .iload_n 1, 1, 0, 0, 0), (16, .invokevirtual 456, 3, 301, 1, 0), (19, .ireturn, 1, 0, 0, 0)]
noncomputable def M_cX12_period : xM := (RX12, yX12_period, cX12_period, 3, (some .int), false, 12, [(19, k_cX12_period_0)])
noncomputable def k_cX12_periods_0 : List xR := [(0, .aload_n 0, 1, 0, 0, 0), (1, .iload_n 1, 1, 0, 0, 0), (2, .invokevirtual 453, 3, 299, 1, 0), (5, .istore_n 2, 1, 0, 0, 0), (6, .iload_n 2, 1, 0, 0, 0), (7, .ifCond .ge 5, 3, 0, 0, 0), (10, .iload_n 2, 1, 0, 0, 0), (11, .ireturn, 1, 0, 0, 0), (12, .iconst 0, 1, 0, 0, 0), (13, .istore_n 3, 1, 0, 0, 0), (14, .iconst 1, 1, 0, 0, 0), (15, .istore 4, 2, 0, 0, 0), (17, .iload 4, 2, 0, 0, 0), (19, .aload_n 0, 1, 0, 0, 0), (20, .getfield 71, 3, 12, 43, 0), (23, .iload_n 1, 1, 0, 0, 0), (24, .iaload, 1, 0, 0, 0), (25, .if_icmp .ge 27, 3, 0, 0, 0), (28, .iload_n 3, 1, 0, 0, 0), (29, .aload_n 0, 1, 0, 0, 0), (30, .iload_n 1, 1, 0, 0, 0), (31, .iload 4, 2, 0, 0, 0), (33, .invokevirtual 450, 3, 300, 2, 0), (36, .ifCond .eq 7, 3, 0, 0, 0), (39, .iconst 1, 1, 0, 0, 0), (40, .goto 4, 3, 0, 0, 0), (43, .iconst 0, 1, 0, 0, 0), (44, .iadd, 1, 0, 0, 0), (45, .istore_n 3, 1, 0, 0, 0), (46, .iinc 4 1, 3, 0, 0, 0), (49, .goto (-32), 3, 0, 0, 0), (52, .iload_n 3, 1, 0, 0, 0)]
noncomputable def k_cX12_periods_1 : List xR := [(53, .ireturn, 1, 0, 0, 0)]
noncomputable def M_cX12_periods : xM := (RX12, yX12_periods, cX12_periods, 5, (some .int), false, 12, [(52, k_cX12_periods_0), (53, k_cX12_periods_1)])
noncomputable def k_cX12_luck_0 : List xR := [(0, .aload_n 0, 1, 0, 0, 0), (1, .iload_n 1, 1, 0, 0, 0), (2, .invokevirtual 453, 3, 299, 1, 0), (5, .istore_n 2, 1, 0, 0, 0), (6, .iload_n 2, 1, 0, 0, 0), (7, .ifCond .ge 5, 3, 0, 0, 0), (10, .iload_n 2, 1, 0, 0, 0), (11, .ireturn, 1, 0, 0, 0), (12, .aload_n 0, 1, 0, 0, 0), (13, .iload_n 1, 1, 0, 0, 0), (14, .invokevirtual 456, 3, 301, 1, 0), (17, .istore_n 3, 1, 0, 0, 0), (18, .iload_n 3, 1, 0, 0, 0), (19, .iconst (-1), 1, 0, 0, 0), (20, .if_icmp .ne 5, 3, 0, 0, 0), (23, .iconst (-1), 1, 0, 0, 0), (24, .ireturn, 1, 0, 0, 0), (25, .lconst 1, 1, 0, 0, 0), (26, .lstore 4, 2, 0, 0, 0), (28, .iload_n 3, 1, 0, 0, 0), (29, .istore 6, 2, 0, 0, 0), (31, .iload 6, 2, 0, 0, 0), (33, .aload_n 0, 1, 0, 0, 0), (34, .getfield 71, 3, 12, 43, 0), (37, .iload_n 1, 1, 0, 0, 0), (38, .iaload, 1, 0, 0, 0), (39, .if_icmp .ge 30, 3, 0, 0, 0), (42, .lload 4, 2, 0, 0, 0), (44, .aload_n 0, 1, 0, 0, 0), (45, .invokevirtual 398, 3, 278, 0, 0), (48, .i2l, 1, 0, 0, 0), (49, .lmul, 1, 0, 0, 0)]
noncomputable def k_cX12_luck_1 : List xR := [(50, .lstore 4, 2, 0, 0, 0), (52, .lload 4, 2, 0, 0, 0), (54, .ldc2_w 459, 3, 1000000000, 0, 0), (57, .lcmp, 1, 0, 0, 0), (58, .ifCond .le 5, 3, 0, 0, 0), (61, .iconst (-1), 1, 0, 0, 0), (62, .ireturn, 1, 0, 0, 0), (63, .iinc 6 1, 3, 0, 0, 0), (66, .goto (-35), 3, 0, 0, 0), (69, .lload 4, 2, 0, 0, 0), (71, .l2i, 1, 0, 0, 0), (72, .ireturn, 1, 0, 0, 0)]
noncomputable def M_cX12_luck : xM := (RX12, yX12_luck, cX12_luck, 7, (some .int), false, 12, [(49, k_cX12_luck_0), (72, k_cX12_luck_1)])
noncomputable def k_cX12_fitsFrom_0 : List xR := [(0, .iconst 0, 1, 0, 0, 0), (1, .istore_n 3, 1, 0, 0, 0), (2, .iload_n 3, 1, 0, 0, 0), (3, .aload_n 0, 1, 0, 0, 0), (4, .getfield 71, 3, 12, 43, 0), (7, .iload_n 1, 1, 0, 0, 0), (8, .iaload, 1, 0, 0, 0), (9, .if_icmp .ge 29, 3, 0, 0, 0), (12, .aload_n 0, 1, 0, 0, 0), (13, .iload_n 2, 1, 0, 0, 0), (14, .iload_n 3, 1, 0, 0, 0), (15, .iadd, 1, 0, 0, 0), (16, .invokevirtual 440, 3, 296, 1, 0), (19, .i2l, 1, 0, 0, 0), (20, .aload_n 0, 1, 0, 0, 0), (21, .iload_n 1, 1, 0, 0, 0), (22, .iload_n 3, 1, 0, 0, 0), (23, .invokevirtual 446, 3, 298, 2, 0), (26, .lcmp, 1, 0, 0, 0), (27, .ifCond .eq 5, 3, 0, 0, 0), (30, .iconst 0, 1, 0, 0, 0), (31, .ireturn, 1, 0, 0, 0), (32, .iinc 3 1, 3, 0, 0, 0), (35, .goto (-33), 3, 0, 0, 0), (38, .iconst 1, 1, 0, 0, 0), (39, .ireturn, 1, 0, 0, 0)]
noncomputable def M_cX12_fitsFrom : xM := (RX12, yX12_fitsFrom, cX12_fitsFrom, 4, (some .boolean), false, 12, [(39, k_cX12_fitsFrom_0)])
noncomputable def k_cX12_fits_0 : List xR := [(0, .aload_n 0, 1, 0, 0, 0), (1, .iload_n 1, 1, 0, 0, 0), (2, .invokevirtual 453, 3, 299, 1, 0), (5, .istore_n 2, 1, 0, 0, 0), (6, .iload_n 2, 1, 0, 0, 0), (7, .ifCond .ge 5, 3, 0, 0, 0), (10, .iload_n 2, 1, 0, 0, 0), (11, .ireturn, 1, 0, 0, 0), (12, .iconst 0, 1, 0, 0, 0), (13, .istore_n 3, 1, 0, 0, 0), (14, .iconst 0, 1, 0, 0, 0), (15, .istore 4, 2, 0, 0, 0), (17, .iload 4, 2, 0, 0, 0), (19, .aload_n 0, 1, 0, 0, 0), (20, .getfield 9, 3, 12, 1, 0), (23, .iconst 5, 1, 0, 0, 0), (24, .iaload, 1, 0, 0, 0), (25, .if_icmp .ge 27, 3, 0, 0, 0), (28, .iload_n 3, 1, 0, 0, 0), (29, .aload_n 0, 1, 0, 0, 0), (30, .iload_n 1, 1, 0, 0, 0), (31, .iload 4, 2, 0, 0, 0), (33, .invokevirtual 461, 3, 305, 2, 0), (36, .ifCond .eq 7, 3, 0, 0, 0), (39, .iconst 1, 1, 0, 0, 0), (40, .goto 4, 3, 0, 0, 0), (43, .iconst 0, 1, 0, 0, 0), (44, .iadd, 1, 0, 0, 0), (45, .istore_n 3, 1, 0, 0, 0), (46, .iinc 4 1, 3, 0, 0, 0), (49, .goto (-32), 3, 0, 0, 0), (52, .iload_n 3, 1, 0, 0, 0)]
noncomputable def k_cX12_fits_1 : List xR := [(53, .ireturn, 1, 0, 0, 0)]
noncomputable def M_cX12_fits : xM := (RX12, yX12_fits, cX12_fits, 5, (some .int), false, 12, [(52, k_cX12_fits_0), (53, k_cX12_fits_1)])
noncomputable def k_cX12_place_0 : List xR := [(0, .aload_n 0, 1, 0, 0, 0), (1, .iload_n 1, 1, 0, 0, 0), (2, .invokevirtual 453, 3, 299, 1, 0), (5, .istore_n 3, 1, 0, 0, 0), (6, .iload_n 3, 1, 0, 0, 0), (7, .ifCond .ge 5, 3, 0, 0, 0), (10, .iload_n 3, 1, 0, 0, 0), (11, .ireturn, 1, 0, 0, 0), (12, .iload_n 2, 1, 0, 0, 0), (13, .istore 4, 2, 0, 0, 0), (15, .iconst 0, 1, 0, 0, 0), (16, .istore 5, 2, 0, 0, 0), (18, .iload 5, 2, 0, 0, 0), (20, .aload_n 0, 1, 0, 0, 0), (21, .getfield 9, 3, 12, 1, 0), (24, .iconst 5, 1, 0, 0, 0), (25, .iaload, 1, 0, 0, 0), (26, .if_icmp .ge 38, 3, 0, 0, 0), (29, .iload 4, 2, 0, 0, 0), (31, .ifCond .lt 33, 3, 0, 0, 0), (34, .aload_n 0, 1, 0, 0, 0), (35, .iload_n 1, 1, 0, 0, 0), (36, .iload 5, 2, 0, 0, 0), (38, .invokevirtual 461, 3, 305, 2, 0), (41, .ifCond .ne 6, 3, 0, 0, 0), (44, .goto 14, 3, 0, 0, 0), (47, .iload 4, 2, 0, 0, 0), (49, .ifCond .ne 6, 3, 0, 0, 0), (52, .iload 5, 2, 0, 0, 0), (54, .ireturn, 1, 0, 0, 0), (55, .iinc 4 (-1), 3, 0, 0, 0), (58, .iinc 5 1, 3, 0, 0, 0)]
noncomputable def k_cX12_place_1 : List xR := [(61, .goto (-43), 3, 0, 0, 0), (64, .iconst (-1), 1, 0, 0, 0), (65, .ireturn, 1, 0, 0, 0)]
noncomputable def M_cX12_place : xM := (RX12, yX12_place, cX12_place, 6, (some .int), false, 12, [(58, k_cX12_place_0), (65, k_cX12_place_1)])
noncomputable def k_cX12_next_0 : List xR := [(0, .aload_n 0, 1, 0, 0, 0), (1, .iload_n 1, 1, 0, 0, 0), (2, .invokevirtual 453, 3, 299, 1, 0), (5, .istore_n 2, 1, 0, 0, 0), (6, .iload_n 2, 1, 0, 0, 0), (7, .ifCond .ge 5, 3, 0, 0, 0), (10, .iload_n 2, 1, 0, 0, 0), (11, .ireturn, 1, 0, 0, 0), (12, .iconst (-1), 1, 0, 0, 0), (13, .istore_n 3, 1, 0, 0, 0), (14, .iconst 0, 1, 0, 0, 0), (15, .istore 4, 2, 0, 0, 0), (17, .iload 4, 2, 0, 0, 0), (19, .aload_n 0, 1, 0, 0, 0), (20, .getfield 9, 3, 12, 1, 0), (23, .iconst 5, 1, 0, 0, 0), (24, .iaload, 1, 0, 0, 0), (25, .if_icmp .ge 53, 3, 0, 0, 0), (28, .aload_n 0, 1, 0, 0, 0), (29, .iload_n 1, 1, 0, 0, 0), (30, .iload 4, 2, 0, 0, 0), (32, .invokevirtual 461, 3, 305, 2, 0), (35, .ifCond .ne 6, 3, 0, 0, 0), (38, .goto 34, 3, 0, 0, 0), (41, .aload_n 0, 1, 0, 0, 0), (42, .iload 4, 2, 0, 0, 0), (44, .aload_n 0, 1, 0, 0, 0), (45, .getfield 71, 3, 12, 43, 0), (48, .iload_n 1, 1, 0, 0, 0), (49, .iaload, 1, 0, 0, 0), (50, .iadd, 1, 0, 0, 0), (51, .invokevirtual 440, 3, 296, 1, 0)]
noncomputable def k_cX12_next_1 : List xR := [(54, .istore 5, 2, 0, 0, 0), (56, .iload_n 3, 1, 0, 0, 0), (57, .iconst (-1), 1, 0, 0, 0), (58, .if_icmp .eq 11, 3, 0, 0, 0), (61, .iload 5, 2, 0, 0, 0), (63, .iload_n 3, 1, 0, 0, 0), (64, .if_icmp .eq 5, 3, 0, 0, 0), (67, .iconst (-1), 1, 0, 0, 0), (68, .ireturn, 1, 0, 0, 0), (69, .iload 5, 2, 0, 0, 0), (71, .istore_n 3, 1, 0, 0, 0), (72, .iinc 4 1, 3, 0, 0, 0), (75, .goto (-58), 3, 0, 0, 0), (78, .iload_n 3, 1, 0, 0, 0), (79, .ireturn, 1, 0, 0, 0)]
noncomputable def M_cX12_next : xM := (RX12, yX12_next, cX12_next, 6, (some .int), false, 12, [(51, k_cX12_next_0), (79, k_cX12_next_1)])
noncomputable def k_cX12_goesAlike_0 : List xR := [(0, .iconst 0, 1, 0, 0, 0), (1, .istore 4, 2, 0, 0, 0), (3, .iload 4, 2, 0, 0, 0), (5, .iload_n 3, 1, 0, 0, 0), (6, .if_icmp .ge 30, 3, 0, 0, 0), (9, .aload_n 0, 1, 0, 0, 0), (10, .iload_n 1, 1, 0, 0, 0), (11, .iload 4, 2, 0, 0, 0), (13, .iadd, 1, 0, 0, 0), (14, .invokevirtual 440, 3, 296, 1, 0), (17, .aload_n 0, 1, 0, 0, 0), (18, .iload_n 2, 1, 0, 0, 0), (19, .iload 4, 2, 0, 0, 0), (21, .iadd, 1, 0, 0, 0), (22, .invokevirtual 440, 3, 296, 1, 0), (25, .if_icmp .eq 5, 3, 0, 0, 0), (28, .iconst 0, 1, 0, 0, 0), (29, .ireturn, 1, 0, 0, 0), (30, .iinc 4 1, 3, 0, 0, 0), (33, .goto (-30), 3, 0, 0, 0), (36, .iconst 1, 1, 0, 0, 0), (37, .ireturn, 1, 0, 0, 0)]
noncomputable def M_cX12_goesAlike : xM := (RX12, yX12_goesAlike, cX12_goesAlike, 5, (some .boolean), false, 12, [(37, k_cX12_goesAlike_0)])
noncomputable def k_cX12_neededFrom_0 : List xR := [(0, .iconst 0, 1, 0, 0, 0), (1, .istore_n 2, 1, 0, 0, 0), (2, .iload_n 2, 1, 0, 0, 0), (3, .aload_n 0, 1, 0, 0, 0), (4, .getfield 9, 3, 12, 1, 0), (7, .iconst 5, 1, 0, 0, 0), (8, .iaload, 1, 0, 0, 0), (9, .if_icmp .gt 57, 3, 0, 0, 0), (12, .iconst 0, 1, 0, 0, 0), (13, .istore_n 3, 1, 0, 0, 0), (14, .iconst 0, 1, 0, 0, 0), (15, .istore 4, 2, 0, 0, 0), (17, .iload 4, 2, 0, 0, 0), (19, .aload_n 0, 1, 0, 0, 0), (20, .getfield 9, 3, 12, 1, 0), (23, .iconst 5, 1, 0, 0, 0), (24, .iaload, 1, 0, 0, 0), (25, .if_icmp .ge 28, 3, 0, 0, 0), (28, .iload_n 3, 1, 0, 0, 0), (29, .aload_n 0, 1, 0, 0, 0), (30, .iload_n 1, 1, 0, 0, 0), (31, .iload 4, 2, 0, 0, 0), (33, .iload_n 2, 1, 0, 0, 0), (34, .invokevirtual 464, 3, 309, 3, 0), (37, .ifCond .eq 7, 3, 0, 0, 0), (40, .iconst 1, 1, 0, 0, 0), (41, .goto 4, 3, 0, 0, 0), (44, .iconst 0, 1, 0, 0, 0), (45, .iadd, 1, 0, 0, 0), (46, .istore_n 3, 1, 0, 0, 0), (47, .iinc 4 1, 3, 0, 0, 0), (50, .goto (-33), 3, 0, 0, 0)]
noncomputable def k_cX12_neededFrom_1 : List xR := [(53, .iload_n 3, 1, 0, 0, 0), (54, .iconst 1, 1, 0, 0, 0), (55, .if_icmp .ne 5, 3, 0, 0, 0), (58, .iload_n 2, 1, 0, 0, 0), (59, .ireturn, 1, 0, 0, 0), (60, .iinc 2 1, 3, 0, 0, 0), (63, .goto (-61), 3, 0, 0, 0), (66, .iconst (-1), 1, 0, 0, 0), (67, .ireturn, 1, 0, 0, 0)]
noncomputable def M_cX12_neededFrom : xM := (RX12, yX12_neededFrom, cX12_neededFrom, 5, (some .int), false, 12, [(50, k_cX12_neededFrom_0), (67, k_cX12_neededFrom_1)])
noncomputable def k_cX12_needed_0 : List xR := [(0, .aload_n 0, 1, 0, 0, 0), (1, .iload_n 1, 1, 0, 0, 0), (2, .invokevirtual 267, 3, 204, 1, 0), (5, .ifCond .eq 11, 3, 0, 0, 0), (8, .aload_n 0, 1, 0, 0, 0), (9, .iload_n 1, 1, 0, 0, 0), (10, .invokevirtual 468, 3, 310, 1, 0), (13, .goto 5, 3, 0, 0, 0), (16, .bipush (-2), 2, 0, 0, 0), (18, .ireturn, 1, 0, 0, 0)]
noncomputable def M_cX12_needed : xM := (RX12, yX12_needed, cX12_needed, 2, (some .int), false, 12, [(18, k_cX12_needed_0)])
noncomputable def k_cX12_known_0 : List xR := [(0, .aload_n 0, 1, 0, 0, 0), (1, .invokevirtual 282, 3, 199, 0, 0), (4, .ifCond .ne 6, 3, 0, 0, 0), (7, .bipush (-2), 2, 0, 0, 0), (9, .ireturn, 1, 0, 0, 0), (10, .iconst (-1), 1, 0, 0, 0), (11, .istore_n 1, 1, 0, 0, 0), (12, .iconst 0, 1, 0, 0, 0), (13, .istore_n 2, 1, 0, 0, 0), (14, .iload_n 2, 1, 0, 0, 0), (15, .aload_n 0, 1, 0, 0, 0), (16, .getfield 9, 3, 12, 1, 0), (19, .iconst 5, 1, 0, 0, 0), (20, .iaload, 1, 0, 0, 0), (21, .if_icmp .ge 28, 3, 0, 0, 0), (24, .aload_n 0, 1, 0, 0, 0), (25, .iload_n 2, 1, 0, 0, 0), (26, .invokevirtual 468, 3, 310, 1, 0), (29, .istore_n 3, 1, 0, 0, 0), (30, .iload_n 3, 1, 0, 0, 0), (31, .iconst (-1), 1, 0, 0, 0), (32, .if_icmp .ne 5, 3, 0, 0, 0), (35, .iconst (-1), 1, 0, 0, 0), (36, .ireturn, 1, 0, 0, 0), (37, .iload_n 1, 1, 0, 0, 0), (38, .iload_n 3, 1, 0, 0, 0), (39, .invokestatic 337, 3, 9001, 2, 0), (42, .istore_n 1, 1, 0, 0, 0), (43, .iinc 2 1, 3, 0, 0, 0), (46, .goto (-32), 3, 0, 0, 0), (49, .iload_n 1, 1, 0, 0, 0), (50, .ireturn, 1, 0, 0, 0)]
noncomputable def M_cX12_known : xM := (RX12, yX12_known, cX12_known, 4, (some .int), false, 12, [(50, k_cX12_known_0)])
noncomputable def k_cX12_rashOf_0 : List xR := [(0, .aload_n 0, 1, 0, 0, 0), (1, .iload_n 1, 1, 0, 0, 0), (2, .invokevirtual 328, 3, 252, 1, 0), (5, .aload_n 0, 1, 0, 0, 0), (6, .iconst 1, 1, 0, 0, 0), (7, .putfield 324, 3, 12, 24, 0), (10, .aload_n 0, 1, 0, 0, 0), (11, .invokevirtual 362, 3, 258, 0, 0), (14, .bipush 10, 2, 0, 0, 0), (16, .aload_n 0, 1, 0, 0, 0), (17, .getfield 346, 3, 12, 29, 0), (20, .aload_n 0, 1, 0, 0, 0), (21, .getfield 349, 3, 12, 30, 0), (24, .isub, 1, 0, 0, 0), (25, .imul, 1, 0, 0, 0), (26, .bipush 20, 2, 0, 0, 0), (28, .aload_n 0, 1, 0, 0, 0), (29, .getfield 349, 3, 12, 30, 0), (32, .imul, 1, 0, 0, 0), (33, .isub, 1, 0, 0, 0), (34, .ireturn, 1, 0, 0, 0)]
noncomputable def M_cX12_rashOf : xM := (RX12, yX12_rashOf, cX12_rashOf, 2, (some .int), false, 12, [(34, k_cX12_rashOf_0)])
noncomputable def k_cX12_rash_0 : List xR := [(0, .aload_n 0, 1, 0, 0, 0), (1, .iload_n 1, 1, 0, 0, 0), (2, .invokevirtual 270, 3, 205, 1, 0), (5, .ifCond .ne 7, 3, 0, 0, 0), (8, .sipush (-2000), 3, 0, 0, 0), (11, .ireturn, 1, 0, 0, 0), (12, .aload_n 0, 1, 0, 0, 0), (13, .invokevirtual 285, 3, 237, 0, 0), (16, .aload_n 0, 1, 0, 0, 0), (17, .iload_n 1, 1, 0, 0, 0), (18, .invokevirtual 471, 3, 313, 1, 0), (21, .ireturn, 1, 0, 0, 0)]
noncomputable def M_cX12_rash : xM := (RX12, yX12_rash, cX12_rash, 2, (some .int), false, 12, [(21, k_cX12_rash_0)])
noncomputable def k_cX12_lookOf_0 : List xR := [(0, .aload_n 0, 1, 0, 0, 0), (1, .iload_n 1, 1, 0, 0, 0), (2, .invokevirtual 328, 3, 252, 1, 0), (5, .aload_n 0, 1, 0, 0, 0), (6, .dup, 1, 0, 0, 0), (7, .getfield 312, 3, 12, 20, 0), (10, .iload_n 2, 1, 0, 0, 0), (11, .iadd, 1, 0, 0, 0), (12, .putfield 312, 3, 12, 20, 0), (15, .aload_n 0, 1, 0, 0, 0), (16, .iconst 0, 1, 0, 0, 0), (17, .putfield 315, 3, 12, 21, 0), (20, .aload_n 0, 1, 0, 0, 0), (21, .invokevirtual 362, 3, 258, 0, 0), (24, .bipush 10, 2, 0, 0, 0), (26, .aload_n 0, 1, 0, 0, 0), (27, .getfield 346, 3, 12, 29, 0), (30, .imul, 1, 0, 0, 0), (31, .ireturn, 1, 0, 0, 0)]
noncomputable def M_cX12_lookOf : xM := (RX12, yX12_lookOf, cX12_lookOf, 3, (some .int), false, 12, [(31, k_cX12_lookOf_0)])
noncomputable def k_cX12_look_0 : List xR := [(0, .aload_n 0, 1, 0, 0, 0), (1, .iload_n 1, 1, 0, 0, 0), (2, .invokevirtual 270, 3, 205, 1, 0), (5, .ifCond .eq 15, 3, 0, 0, 0), (8, .iload_n 2, 1, 0, 0, 0), (9, .i2l, 1, 0, 0, 0), (10, .lconst 0, 1, 0, 0, 0), (11, .ldc2_w 474, 3, 20, 0, 0), (14, .invokestatic 88, 3, 196, 3, 0), (17, .ifCond .ne 7, 3, 0, 0, 0), (20, .sipush (-2000), 3, 0, 0, 0), (23, .ireturn, 1, 0, 0, 0), (24, .aload_n 0, 1, 0, 0, 0), (25, .invokevirtual 285, 3, 237, 0, 0), (28, .aload_n 0, 1, 0, 0, 0), (29, .iload_n 1, 1, 0, 0, 0), (30, .iload_n 2, 1, 0, 0, 0), (31, .invokevirtual 476, 3, 315, 2, 0), (34, .ireturn, 1, 0, 0, 0)]
noncomputable def M_cX12_look : xM := (RX12, yX12_look, cX12_look, 3, (some .int), false, 12, [(34, k_cX12_look_0)])
noncomputable def k_cX12_line_0 : List xR := [(0, .aload_n 0, 1, 0, 0, 0), (1, .iload_n 1, 1, 0, 0, 0), (2, .invokevirtual 270, 3, 205, 1, 0), (5, .ifCond .ne 6, 3, 0, 0, 0), (8, .bipush (-2), 2, 0, 0, 0), (10, .ireturn, 1, 0, 0, 0), (11, .aload_n 0, 1, 0, 0, 0), (12, .invokevirtual 285, 3, 237, 0, 0), (15, .aload_n 0, 1, 0, 0, 0), (16, .iload_n 1, 1, 0, 0, 0), (17, .invokevirtual 471, 3, 313, 1, 0), (20, .istore_n 2, 1, 0, 0, 0), (21, .bipush 20, 2, 0, 0, 0), (23, .istore_n 3, 1, 0, 0, 0), (24, .iload_n 3, 1, 0, 0, 0), (25, .ifCond .lt 21, 3, 0, 0, 0), (28, .aload_n 0, 1, 0, 0, 0), (29, .iload_n 1, 1, 0, 0, 0), (30, .iload_n 3, 1, 0, 0, 0), (31, .invokevirtual 476, 3, 315, 2, 0), (34, .iload_n 2, 1, 0, 0, 0), (35, .if_icmp .lt 5, 3, 0, 0, 0), (38, .iload_n 3, 1, 0, 0, 0), (39, .ireturn, 1, 0, 0, 0), (40, .iinc 3 (-1), 3, 0, 0, 0), (43, .goto (-19), 3, 0, 0, 0), (46, .iconst (-1), 1, 0, 0, 0), (47, .ireturn, 1, 0, 0, 0)]
noncomputable def M_cX12_line : xM := (RX12, yX12_line, cX12_line, 4, (some .int), false, 12, [(47, k_cX12_line_0)])
noncomputable def k_cX12_hitsOn_0 : List xR := [(0, .aload_n 0, 1, 0, 0, 0), (1, .iload_n 1, 1, 0, 0, 0), (2, .invokevirtual 328, 3, 252, 1, 0), (5, .aload_n 0, 1, 0, 0, 0), (6, .iload_n 2, 1, 0, 0, 0), (7, .putfield 321, 3, 12, 23, 0), (10, .aload_n 0, 1, 0, 0, 0), (11, .invokevirtual 362, 3, 258, 0, 0), (14, .aload_n 0, 1, 0, 0, 0), (15, .getfield 346, 3, 12, 29, 0), (18, .ireturn, 1, 0, 0, 0)]
noncomputable def M_cX12_hitsOn : xM := (RX12, yX12_hitsOn, cX12_hitsOn, 3, (some .int), false, 12, [(18, k_cX12_hitsOn_0)])
noncomputable def k_cX12_two_0 : List xR := [(0, .aload_n 0, 1, 0, 0, 0), (1, .iload_n 1, 1, 0, 0, 0), (2, .invokevirtual 270, 3, 205, 1, 0), (5, .ifCond .eq 26, 3, 0, 0, 0), (8, .aload_n 0, 1, 0, 0, 0), (9, .iload_n 2, 1, 0, 0, 0), (10, .invokevirtual 270, 3, 205, 1, 0), (13, .ifCond .eq 18, 3, 0, 0, 0), (16, .iload_n 1, 1, 0, 0, 0), (17, .iload_n 2, 1, 0, 0, 0), (18, .if_icmp .eq 13, 3, 0, 0, 0), (21, .iload_n 3, 1, 0, 0, 0), (22, .i2l, 1, 0, 0, 0), (23, .lconst 0, 1, 0, 0, 0), (24, .lconst 1, 1, 0, 0, 0), (25, .invokestatic 88, 3, 196, 3, 0), (28, .ifCond .ne 6, 3, 0, 0, 0), (31, .bipush (-2), 2, 0, 0, 0), (33, .ireturn, 1, 0, 0, 0), (34, .aload_n 0, 1, 0, 0, 0), (35, .invokevirtual 285, 3, 237, 0, 0), (38, .iconst 1, 1, 0, 0, 0), (39, .aload_n 0, 1, 0, 0, 0), (40, .invokevirtual 92, 3, 200, 0, 0), (43, .ishl, 1, 0, 0, 0), (44, .iconst 1, 1, 0, 0, 0), (45, .isub, 1, 0, 0, 0), (46, .istore 4, 2, 0, 0, 0), (48, .iconst 0, 1, 0, 0, 0), (49, .istore 5, 2, 0, 0, 0), (51, .iconst (-1), 1, 0, 0, 0), (52, .istore 6, 2, 0, 0, 0)]
noncomputable def k_cX12_two_1 : List xR := [(54, .iconst 0, 1, 0, 0, 0), (55, .istore 7, 2, 0, 0, 0), (57, .iload 7, 2, 0, 0, 0), (59, .iload 4, 2, 0, 0, 0), (61, .if_icmp .gt 49, 3, 0, 0, 0), (64, .aload_n 0, 1, 0, 0, 0), (65, .iload_n 1, 1, 0, 0, 0), (66, .iload 7, 2, 0, 0, 0), (68, .invokevirtual 479, 3, 318, 2, 0), (71, .aload_n 0, 1, 0, 0, 0), (72, .iload_n 2, 1, 0, 0, 0), (73, .iload 4, 2, 0, 0, 0), (75, .iload 7, 2, 0, 0, 0), (77, .iconst (-1), 1, 0, 0, 0), (78, .ixor, 1, 0, 0, 0), (79, .iand, 1, 0, 0, 0), (80, .invokevirtual 479, 3, 318, 2, 0), (83, .iadd, 1, 0, 0, 0), (84, .istore 8, 2, 0, 0, 0), (86, .iload 8, 2, 0, 0, 0), (88, .iload 6, 2, 0, 0, 0), (90, .if_icmp .gt 6, 3, 0, 0, 0), (93, .goto 11, 3, 0, 0, 0), (96, .iload 8, 2, 0, 0, 0), (98, .istore 6, 2, 0, 0, 0), (100, .iload 7, 2, 0, 0, 0), (102, .istore 5, 2, 0, 0, 0), (104, .iinc 7 1, 3, 0, 0, 0), (107, .goto (-50), 3, 0, 0, 0), (110, .iload_n 3, 1, 0, 0, 0), (111, .ifCond .ne 8, 3, 0, 0, 0), (114, .iload 6, 2, 0, 0, 0)]
noncomputable def k_cX12_two_2 : List xR := [(116, .goto 5, 3, 0, 0, 0), (119, .iload 5, 2, 0, 0, 0), (121, .ireturn, 1, 0, 0, 0)]
noncomputable def M_cX12_two : xM := (RX12, yX12_two, cX12_two, 9, (some .int), false, 12, [(52, k_cX12_two_0), (114, k_cX12_two_1), (121, k_cX12_two_2)])
noncomputable def k_cX12_ticketsOf_0 : List xR := [(0, .aload_n 0, 1, 0, 0, 0), (1, .iload_n 1, 1, 0, 0, 0), (2, .invokevirtual 365, 3, 259, 1, 0), (5, .bipush 10, 2, 0, 0, 0), (7, .aload_n 0, 1, 0, 0, 0), (8, .getfield 346, 3, 12, 29, 0), (11, .imul, 1, 0, 0, 0), (12, .aload_n 0, 1, 0, 0, 0), (13, .getfield 9, 3, 12, 1, 0), (16, .bipush 11, 2, 0, 0, 0), (18, .iaload, 1, 0, 0, 0), (19, .idiv, 1, 0, 0, 0), (20, .ireturn, 1, 0, 0, 0)]
noncomputable def M_cX12_ticketsOf : xM := (RX12, yX12_ticketsOf, cX12_ticketsOf, 2, (some .int), false, 12, [(20, k_cX12_ticketsOf_0)])
noncomputable def k_cX12_tickets_0 : List xR := [(0, .aload_n 0, 1, 0, 0, 0), (1, .iload_n 1, 1, 0, 0, 0), (2, .invokevirtual 270, 3, 205, 1, 0), (5, .ifCond .eq 11, 3, 0, 0, 0), (8, .aload_n 0, 1, 0, 0, 0), (9, .iload_n 1, 1, 0, 0, 0), (10, .invokevirtual 482, 3, 320, 1, 0), (13, .goto 5, 3, 0, 0, 0), (16, .bipush (-2), 2, 0, 0, 0), (18, .ireturn, 1, 0, 0, 0)]
noncomputable def M_cX12_tickets : xM := (RX12, yX12_tickets, cX12_tickets, 2, (some .int), false, 12, [(18, k_cX12_tickets_0)])
noncomputable def k_cX12_prize_0 : List xR := [(0, .aload_n 0, 1, 0, 0, 0), (1, .iload_n 1, 1, 0, 0, 0), (2, .invokevirtual 270, 3, 205, 1, 0), (5, .ifCond .ne 6, 3, 0, 0, 0), (8, .bipush (-2), 2, 0, 0, 0), (10, .ireturn, 1, 0, 0, 0), (11, .aload_n 0, 1, 0, 0, 0), (12, .iload_n 1, 1, 0, 0, 0), (13, .invokevirtual 482, 3, 320, 1, 0), (16, .istore_n 2, 1, 0, 0, 0), (17, .iload_n 2, 1, 0, 0, 0), (18, .ifCond .ne 7, 3, 0, 0, 0), (21, .iconst (-1), 1, 0, 0, 0), (22, .goto 16, 3, 0, 0, 0), (25, .aload_n 0, 1, 0, 0, 0), (26, .getfield 9, 3, 12, 1, 0), (29, .bipush 10, 2, 0, 0, 0), (31, .iaload, 1, 0, 0, 0), (32, .iload_n 2, 1, 0, 0, 0), (33, .iadd, 1, 0, 0, 0), (34, .iconst 1, 1, 0, 0, 0), (35, .isub, 1, 0, 0, 0), (36, .iload_n 2, 1, 0, 0, 0), (37, .idiv, 1, 0, 0, 0), (38, .ireturn, 1, 0, 0, 0)]
noncomputable def M_cX12_prize : xM := (RX12, yX12_prize, cX12_prize, 3, (some .int), false, 12, [(38, k_cX12_prize_0)])
noncomputable def k_cX12_asksBlows_0 : List xR := [(0, .iload_n 1, 1, 0, 0, 0), (1, .invokestatic 443, 3, 351, 1, 0), (4, .ifCond .eq 10, 3, 0, 0, 0), (7, .aload_n 0, 1, 0, 0, 0), (8, .invokevirtual 282, 3, 199, 0, 0), (11, .ifCond .ne 6, 3, 0, 0, 0), (14, .bipush (-2), 2, 0, 0, 0), (16, .ireturn, 1, 0, 0, 0), (17, .aload_n 0, 1, 0, 0, 0), (18, .getfield 71, 3, 12, 43, 0), (21, .iload_n 1, 1, 0, 0, 0), (22, .iaload, 1, 0, 0, 0), (23, .iconst (-1), 1, 0, 0, 0), (24, .if_icmp .ne 6, 3, 0, 0, 0), (27, .bipush (-6), 2, 0, 0, 0), (29, .ireturn, 1, 0, 0, 0), (30, .aload_n 0, 1, 0, 0, 0), (31, .getfield 71, 3, 12, 43, 0), (34, .iload_n 1, 1, 0, 0, 0), (35, .iaload, 1, 0, 0, 0), (36, .iconst 2, 1, 0, 0, 0), (37, .irem, 1, 0, 0, 0), (38, .ifCond .eq 6, 3, 0, 0, 0), (41, .bipush (-2), 2, 0, 0, 0), (43, .ireturn, 1, 0, 0, 0), (44, .iconst 0, 1, 0, 0, 0), (45, .istore_n 2, 1, 0, 0, 0), (46, .iload_n 2, 1, 0, 0, 0), (47, .aload_n 0, 1, 0, 0, 0), (48, .getfield 71, 3, 12, 43, 0), (51, .iload_n 1, 1, 0, 0, 0), (52, .iaload, 1, 0, 0, 0)]
noncomputable def k_cX12_asksBlows_1 : List xR := [(53, .if_icmp .ge 40, 3, 0, 0, 0), (56, .aload_n 0, 1, 0, 0, 0), (57, .aload_n 0, 1, 0, 0, 0), (58, .iload_n 1, 1, 0, 0, 0), (59, .iload_n 2, 1, 0, 0, 0), (60, .invokevirtual 446, 3, 298, 2, 0), (63, .invokevirtual 300, 3, 201, 1, 0), (66, .ifCond .eq 18, 3, 0, 0, 0), (69, .aload_n 0, 1, 0, 0, 0), (70, .aload_n 0, 1, 0, 0, 0), (71, .iload_n 1, 1, 0, 0, 0), (72, .iload_n 2, 1, 0, 0, 0), (73, .iconst 1, 1, 0, 0, 0), (74, .iadd, 1, 0, 0, 0), (75, .invokevirtual 446, 3, 298, 2, 0), (78, .invokevirtual 278, 3, 203, 1, 0), (81, .ifCond .ne 6, 3, 0, 0, 0), (84, .bipush (-2), 2, 0, 0, 0), (86, .ireturn, 1, 0, 0, 0), (87, .iinc 2 2, 3, 0, 0, 0), (90, .goto (-44), 3, 0, 0, 0), (93, .iconst 0, 1, 0, 0, 0), (94, .ireturn, 1, 0, 0, 0)]
noncomputable def M_cX12_asksBlows : xM := (RX12, yX12_asksBlows, cX12_asksBlows, 3, (some .int), false, 12, [(52, k_cX12_asksBlows_0), (94, k_cX12_asksBlows_1)])
noncomputable def k_cX12_strike_0 : List xR := [(0, .iconst 0, 1, 0, 0, 0), (1, .istore 4, 2, 0, 0, 0), (3, .iload 4, 2, 0, 0, 0), (5, .aload_n 0, 1, 0, 0, 0), (6, .getfield 248, 3, 12, 18, 0), (9, .if_icmp .ge 161, 3, 0, 0, 0), (12, .aload_n 0, 1, 0, 0, 0), (13, .iload 4, 2, 0, 0, 0), (15, .iconst 0, 1, 0, 0, 0), (16, .invokevirtual 291, 3, 238, 2, 0), (19, .iload_n 1, 1, 0, 0, 0), (20, .if_icmp .ne 7, 3, 0, 0, 0), (23, .iconst 1, 1, 0, 0, 0), (24, .goto 19, 3, 0, 0, 0), (27, .aload_n 0, 1, 0, 0, 0), (28, .iload 4, 2, 0, 0, 0), (30, .iconst 1, 1, 0, 0, 0), (31, .invokevirtual 291, 3, 238, 2, 0), (34, .iload_n 1, 1, 0, 0, 0), (35, .if_icmp .ne 7, 3, 0, 0, 0), (38, .iconst 2, 1, 0, 0, 0), (39, .goto 4, 3, 0, 0, 0), (42, .iconst 0, 1, 0, 0, 0), (43, .istore 5, 2, 0, 0, 0), (45, .iload 5, 2, 0, 0, 0), (47, .ifCond .eq 117, 3, 0, 0, 0), (50, .iload_n 2, 1, 0, 0, 0), (51, .i2l, 1, 0, 0, 0), (52, .aload_n 0, 1, 0, 0, 0), (53, .getfield 37, 3, 12, 16, 0), (56, .iload 4, 2, 0, 0, 0), (58, .iaload, 1, 0, 0, 0)]
noncomputable def k_cX12_strike_1 : List xR := [(59, .i2l, 1, 0, 0, 0), (60, .aload_n 0, 1, 0, 0, 0), (61, .getfield 40, 3, 12, 17, 0), (64, .iload 4, 2, 0, 0, 0), (66, .iaload, 1, 0, 0, 0), (67, .i2l, 1, 0, 0, 0), (68, .invokestatic 88, 3, 196, 3, 0), (71, .ifCond .eq 93, 3, 0, 0, 0), (74, .aload_n 0, 1, 0, 0, 0), (75, .getfield 68, 3, 12, 38, 0), (78, .iload 4, 2, 0, 0, 0), (80, .iaload, 1, 0, 0, 0), (81, .iload 5, 2, 0, 0, 0), (83, .iand, 1, 0, 0, 0), (84, .ifCond .eq 6, 3, 0, 0, 0), (87, .goto 77, 3, 0, 0, 0), (90, .aload_n 0, 1, 0, 0, 0), (91, .getfield 68, 3, 12, 38, 0), (94, .iload 4, 2, 0, 0, 0), (96, .dup2, 1, 0, 0, 0), (97, .iaload, 1, 0, 0, 0), (98, .iload 5, 2, 0, 0, 0), (100, .ior, 1, 0, 0, 0), (101, .iastore, 1, 0, 0, 0), (102, .aload_n 0, 1, 0, 0, 0), (103, .dup, 1, 0, 0, 0), (104, .getfield 485, 3, 12, 39, 0), (107, .iconst 1, 1, 0, 0, 0), (108, .aload_n 0, 1, 0, 0, 0), (109, .iload 4, 2, 0, 0, 0), (111, .iconst 2, 1, 0, 0, 0), (112, .invokevirtual 291, 3, 238, 2, 0)]
noncomputable def k_cX12_strike_2 : List xR := [(115, .isub, 1, 0, 0, 0), (116, .iadd, 1, 0, 0, 0), (117, .putfield 485, 3, 12, 39, 0), (120, .aload_n 0, 1, 0, 0, 0), (121, .dup, 1, 0, 0, 0), (122, .getfield 488, 3, 12, 40, 0), (125, .aload_n 0, 1, 0, 0, 0), (126, .iload 4, 2, 0, 0, 0), (128, .iconst 2, 1, 0, 0, 0), (129, .invokevirtual 291, 3, 238, 2, 0), (132, .iadd, 1, 0, 0, 0), (133, .putfield 488, 3, 12, 40, 0), (136, .aload_n 0, 1, 0, 0, 0), (137, .dup, 1, 0, 0, 0), (138, .getfield 491, 3, 12, 41, 0), (141, .iload_n 2, 1, 0, 0, 0), (142, .aload_n 0, 1, 0, 0, 0), (143, .getfield 37, 3, 12, 16, 0), (146, .iload 4, 2, 0, 0, 0), (148, .iaload, 1, 0, 0, 0), (149, .isub, 1, 0, 0, 0), (150, .iload_n 3, 1, 0, 0, 0), (151, .if_icmp .ge 7, 3, 0, 0, 0), (154, .iconst 1, 1, 0, 0, 0), (155, .goto 4, 3, 0, 0, 0), (158, .iconst 0, 1, 0, 0, 0), (159, .iadd, 1, 0, 0, 0), (160, .putfield 491, 3, 12, 41, 0), (163, .return_, 1, 0, 0, 0), (164, .iinc 4 1, 3, 0, 0, 0), (167, .goto (-164), 3, 0, 0, 0), (170, .return_, 1, 0, 0, 0)]
noncomputable def M_cX12_strike : xM := (RX12, yX12_strike, cX12_strike, 6, none, false, 12, [(58, k_cX12_strike_0), (112, k_cX12_strike_1), (170, k_cX12_strike_2)])
noncomputable def k_cX12_layBlows_0 : List xR := [(0, .aload_n 0, 1, 0, 0, 0), (1, .invokevirtual 285, 3, 237, 0, 0), (4, .aload_n 0, 1, 0, 0, 0), (5, .iconst 0, 1, 0, 0, 0), (6, .putfield 485, 3, 12, 39, 0), (9, .aload_n 0, 1, 0, 0, 0), (10, .iconst 0, 1, 0, 0, 0), (11, .putfield 488, 3, 12, 40, 0), (14, .aload_n 0, 1, 0, 0, 0), (15, .iconst 0, 1, 0, 0, 0), (16, .putfield 491, 3, 12, 41, 0), (19, .iconst 0, 1, 0, 0, 0), (20, .istore_n 3, 1, 0, 0, 0), (21, .iload_n 3, 1, 0, 0, 0), (22, .aload_n 0, 1, 0, 0, 0), (23, .getfield 248, 3, 12, 18, 0), (26, .if_icmp .ge 16, 3, 0, 0, 0), (29, .aload_n 0, 1, 0, 0, 0), (30, .getfield 68, 3, 12, 38, 0), (33, .iload_n 3, 1, 0, 0, 0), (34, .iconst 0, 1, 0, 0, 0), (35, .iastore, 1, 0, 0, 0), (36, .iinc 3 1, 3, 0, 0, 0), (39, .goto (-18), 3, 0, 0, 0), (42, .iconst 0, 1, 0, 0, 0), (43, .istore_n 3, 1, 0, 0, 0), (44, .iload_n 3, 1, 0, 0, 0), (45, .aload_n 0, 1, 0, 0, 0), (46, .getfield 71, 3, 12, 43, 0), (49, .iload_n 1, 1, 0, 0, 0), (50, .iaload, 1, 0, 0, 0), (51, .if_icmp .ge 30, 3, 0, 0, 0)]
noncomputable def k_cX12_layBlows_1 : List xR := [(54, .aload_n 0, 1, 0, 0, 0), (55, .aload_n 0, 1, 0, 0, 0), (56, .iload_n 1, 1, 0, 0, 0), (57, .iload_n 3, 1, 0, 0, 0), (58, .invokevirtual 446, 3, 298, 2, 0), (61, .l2i, 1, 0, 0, 0), (62, .aload_n 0, 1, 0, 0, 0), (63, .iload_n 1, 1, 0, 0, 0), (64, .iload_n 3, 1, 0, 0, 0), (65, .iconst 1, 1, 0, 0, 0), (66, .iadd, 1, 0, 0, 0), (67, .invokevirtual 446, 3, 298, 2, 0), (70, .l2i, 1, 0, 0, 0), (71, .iload_n 2, 1, 0, 0, 0), (72, .invokevirtual 494, 3, 324, 3, 0), (75, .iinc 3 2, 3, 0, 0, 0), (78, .goto (-34), 3, 0, 0, 0), (81, .return_, 1, 0, 0, 0)]
noncomputable def M_cX12_layBlows : xM := (RX12, yX12_layBlows, cX12_layBlows, 4, none, false, 12, [(51, k_cX12_layBlows_0), (81, k_cX12_layBlows_1)])
noncomputable def k_cX12_counted_0 : List xR := [(0, .aload_n 0, 1, 0, 0, 0), (1, .iload_n 1, 1, 0, 0, 0), (2, .invokevirtual 497, 3, 323, 1, 0), (5, .istore_n 2, 1, 0, 0, 0), (6, .iload_n 2, 1, 0, 0, 0), (7, .ifCond .ge 5, 3, 0, 0, 0), (10, .iload_n 2, 1, 0, 0, 0), (11, .ireturn, 1, 0, 0, 0), (12, .aload_n 0, 1, 0, 0, 0), (13, .iload_n 1, 1, 0, 0, 0), (14, .iconst 0, 1, 0, 0, 0), (15, .invokevirtual 500, 3, 325, 2, 0), (18, .aload_n 0, 1, 0, 0, 0), (19, .getfield 485, 3, 12, 39, 0), (22, .ireturn, 1, 0, 0, 0)]
noncomputable def M_cX12_counted : xM := (RX12, yX12_counted, cX12_counted, 3, (some .int), false, 12, [(22, k_cX12_counted_0)])
noncomputable def k_cX12_scored_0 : List xR := [(0, .aload_n 0, 1, 0, 0, 0), (1, .iload_n 1, 1, 0, 0, 0), (2, .invokevirtual 497, 3, 323, 1, 0), (5, .istore_n 2, 1, 0, 0, 0), (6, .iload_n 2, 1, 0, 0, 0), (7, .ifCond .ge 9, 3, 0, 0, 0), (10, .sipush 1000, 3, 0, 0, 0), (13, .iload_n 2, 1, 0, 0, 0), (14, .imul, 1, 0, 0, 0), (15, .ireturn, 1, 0, 0, 0), (16, .aload_n 0, 1, 0, 0, 0), (17, .iload_n 1, 1, 0, 0, 0), (18, .iconst 0, 1, 0, 0, 0), (19, .invokevirtual 500, 3, 325, 2, 0), (22, .bipush 10, 2, 0, 0, 0), (24, .aload_n 0, 1, 0, 0, 0), (25, .getfield 485, 3, 12, 39, 0), (28, .imul, 1, 0, 0, 0), (29, .bipush 20, 2, 0, 0, 0), (31, .aload_n 0, 1, 0, 0, 0), (32, .getfield 488, 3, 12, 40, 0), (35, .imul, 1, 0, 0, 0), (36, .isub, 1, 0, 0, 0), (37, .ireturn, 1, 0, 0, 0)]
noncomputable def M_cX12_scored : xM := (RX12, yX12_scored, cX12_scored, 3, (some .int), false, 12, [(37, k_cX12_scored_0)])
noncomputable def k_cX12_early_0 : List xR := [(0, .iload_n 2, 1, 0, 0, 0), (1, .i2l, 1, 0, 0, 0), (2, .lconst 0, 1, 0, 0, 0), (3, .ldc2_w 474, 3, 20, 0, 0), (6, .invokestatic 88, 3, 196, 3, 0), (9, .ifCond .ne 6, 3, 0, 0, 0), (12, .bipush (-2), 2, 0, 0, 0), (14, .ireturn, 1, 0, 0, 0), (15, .aload_n 0, 1, 0, 0, 0), (16, .iload_n 1, 1, 0, 0, 0), (17, .invokevirtual 497, 3, 323, 1, 0), (20, .istore_n 3, 1, 0, 0, 0), (21, .iload_n 3, 1, 0, 0, 0), (22, .ifCond .ge 5, 3, 0, 0, 0), (25, .iload_n 3, 1, 0, 0, 0), (26, .ireturn, 1, 0, 0, 0), (27, .aload_n 0, 1, 0, 0, 0), (28, .iload_n 1, 1, 0, 0, 0), (29, .iload_n 2, 1, 0, 0, 0), (30, .invokevirtual 500, 3, 325, 2, 0), (33, .aload_n 0, 1, 0, 0, 0), (34, .getfield 491, 3, 12, 41, 0), (37, .ireturn, 1, 0, 0, 0)]
noncomputable def M_cX12_early : xM := (RX12, yX12_early, cX12_early, 4, (some .int), false, 12, [(37, k_cX12_early_0)])
noncomputable def k_cX12_oftenOf_0 : List xR := [(0, .iconst 0, 1, 0, 0, 0), (1, .istore_n 2, 1, 0, 0, 0), (2, .iconst 0, 1, 0, 0, 0), (3, .istore_n 3, 1, 0, 0, 0), (4, .iload_n 3, 1, 0, 0, 0), (5, .aload_n 0, 1, 0, 0, 0), (6, .getfield 9, 3, 12, 1, 0), (9, .iconst 5, 1, 0, 0, 0), (10, .iaload, 1, 0, 0, 0), (11, .if_icmp .ge 37, 3, 0, 0, 0), (14, .iload_n 2, 1, 0, 0, 0), (15, .aload_n 0, 1, 0, 0, 0), (16, .iload_n 3, 1, 0, 0, 0), (17, .iconst 0, 1, 0, 0, 0), (18, .invokevirtual 260, 3, 206, 2, 0), (21, .iload_n 1, 1, 0, 0, 0), (22, .if_icmp .eq 13, 3, 0, 0, 0), (25, .aload_n 0, 1, 0, 0, 0), (26, .iload_n 3, 1, 0, 0, 0), (27, .iconst 1, 1, 0, 0, 0), (28, .invokevirtual 260, 3, 206, 2, 0), (31, .iload_n 1, 1, 0, 0, 0), (32, .if_icmp .ne 7, 3, 0, 0, 0), (35, .iconst 1, 1, 0, 0, 0), (36, .goto 4, 3, 0, 0, 0), (39, .iconst 0, 1, 0, 0, 0), (40, .iadd, 1, 0, 0, 0), (41, .istore_n 2, 1, 0, 0, 0), (42, .iinc 3 1, 3, 0, 0, 0), (45, .goto (-41), 3, 0, 0, 0), (48, .iload_n 2, 1, 0, 0, 0), (49, .ireturn, 1, 0, 0, 0)]
noncomputable def M_cX12_oftenOf : xM := (RX12, yX12_oftenOf, cX12_oftenOf, 4, (some .int), false, 12, [(49, k_cX12_oftenOf_0)])
noncomputable def k_cX12_often_0 : List xR := [(0, .aload_n 0, 1, 0, 0, 0), (1, .iload_n 1, 1, 0, 0, 0), (2, .i2l, 1, 0, 0, 0), (3, .invokevirtual 300, 3, 201, 1, 0), (6, .ifCond .eq 11, 3, 0, 0, 0), (9, .aload_n 0, 1, 0, 0, 0), (10, .iload_n 1, 1, 0, 0, 0), (11, .invokevirtual 503, 3, 329, 1, 0), (14, .goto 5, 3, 0, 0, 0), (17, .bipush (-2), 2, 0, 0, 0), (19, .ireturn, 1, 0, 0, 0)]
noncomputable def M_cX12_often : xM := (RX12, yX12_often, cX12_often, 2, (some .int), false, 12, [(19, k_cX12_often_0)])
noncomputable def k_cX12_balance_0 : List xR := [(0, .aload_n 0, 1, 0, 0, 0), (1, .invokevirtual 282, 3, 199, 0, 0), (4, .ifCond .ne 6, 3, 0, 0, 0), (7, .bipush (-2), 2, 0, 0, 0), (9, .ireturn, 1, 0, 0, 0), (10, .ldc_w 371, 3, 1000000, 0, 0), (13, .istore_n 1, 1, 0, 0, 0), (14, .iconst (-1), 1, 0, 0, 0), (15, .istore_n 2, 1, 0, 0, 0), (16, .iconst 0, 1, 0, 0, 0), (17, .istore_n 3, 1, 0, 0, 0), (18, .iload_n 3, 1, 0, 0, 0), (19, .aload_n 0, 1, 0, 0, 0), (20, .invokevirtual 92, 3, 200, 0, 0), (23, .if_icmp .ge 40, 3, 0, 0, 0), (26, .aload_n 0, 1, 0, 0, 0), (27, .iload_n 3, 1, 0, 0, 0), (28, .invokevirtual 395, 3, 202, 1, 0), (31, .ifCond .eq 6, 3, 0, 0, 0), (34, .goto 23, 3, 0, 0, 0), (37, .iload_n 1, 1, 0, 0, 0), (38, .aload_n 0, 1, 0, 0, 0), (39, .iload_n 3, 1, 0, 0, 0), (40, .invokevirtual 503, 3, 329, 1, 0), (43, .invokestatic 127, 3, 9002, 2, 0), (46, .istore_n 1, 1, 0, 0, 0), (47, .iload_n 2, 1, 0, 0, 0), (48, .aload_n 0, 1, 0, 0, 0), (49, .iload_n 3, 1, 0, 0, 0), (50, .invokevirtual 503, 3, 329, 1, 0), (53, .invokestatic 337, 3, 9001, 2, 0), (56, .istore_n 2, 1, 0, 0, 0)]
noncomputable def k_cX12_balance_1 : List xR := [(57, .iinc 3 1, 3, 0, 0, 0), (60, .goto (-42), 3, 0, 0, 0), (63, .iload_n 2, 1, 0, 0, 0), (64, .iconst (-1), 1, 0, 0, 0), (65, .if_icmp .ne 7, 3, 0, 0, 0), (68, .iconst (-1), 1, 0, 0, 0), (69, .goto 6, 3, 0, 0, 0), (72, .iload_n 2, 1, 0, 0, 0), (73, .iload_n 1, 1, 0, 0, 0), (74, .isub, 1, 0, 0, 0), (75, .ireturn, 1, 0, 0, 0)]
noncomputable def M_cX12_balance : xM := (RX12, yX12_balance, cX12_balance, 4, (some .int), false, 12, [(56, k_cX12_balance_0), (75, k_cX12_balance_1)])
noncomputable def k_cX12_pathOf_0 : List xR := [(0, .iconst 0, 1, 0, 0, 0), (1, .istore_n 1, 1, 0, 0, 0), (2, .iconst 0, 1, 0, 0, 0), (3, .istore_n 2, 1, 0, 0, 0), (4, .iload_n 2, 1, 0, 0, 0), (5, .aload_n 0, 1, 0, 0, 0), (6, .getfield 9, 3, 12, 1, 0), (9, .iconst 5, 1, 0, 0, 0), (10, .iaload, 1, 0, 0, 0), (11, .if_icmp .ge 28, 3, 0, 0, 0), (14, .iload_n 1, 1, 0, 0, 0), (15, .aload_n 0, 1, 0, 0, 0), (16, .aload_n 0, 1, 0, 0, 0), (17, .iload_n 2, 1, 0, 0, 0), (18, .invokevirtual 440, 3, 296, 1, 0), (21, .aload_n 0, 1, 0, 0, 0), (22, .iload_n 2, 1, 0, 0, 0), (23, .iconst 1, 1, 0, 0, 0), (24, .iadd, 1, 0, 0, 0), (25, .invokevirtual 440, 3, 296, 1, 0), (28, .invokevirtual 303, 3, 248, 2, 0), (31, .iadd, 1, 0, 0, 0), (32, .istore_n 1, 1, 0, 0, 0), (33, .iinc 2 1, 3, 0, 0, 0), (36, .goto (-32), 3, 0, 0, 0), (39, .iload_n 1, 1, 0, 0, 0), (40, .ireturn, 1, 0, 0, 0)]
noncomputable def M_cX12_pathOf : xM := (RX12, yX12_pathOf, cX12_pathOf, 3, (some .int), false, 12, [(40, k_cX12_pathOf_0)])
noncomputable def k_cX12_path_0 : List xR := [(0, .aload_n 0, 1, 0, 0, 0), (1, .invokevirtual 282, 3, 199, 0, 0), (4, .ifCond .eq 10, 3, 0, 0, 0), (7, .aload_n 0, 1, 0, 0, 0), (8, .invokevirtual 506, 3, 332, 0, 0), (11, .goto 5, 3, 0, 0, 0), (14, .bipush (-2), 2, 0, 0, 0), (16, .ireturn, 1, 0, 0, 0)]
noncomputable def M_cX12_path : xM := (RX12, yX12_path, cX12_path, 1, (some .int), false, 12, [(16, k_cX12_path_0)])
noncomputable def k_cX12_trade_0 : List xR := [(0, .iconst 0, 1, 0, 0, 0), (1, .istore_n 3, 1, 0, 0, 0), (2, .iload_n 3, 1, 0, 0, 0), (3, .iconst 3, 1, 0, 0, 0), (4, .if_icmp .ge 51, 3, 0, 0, 0), (7, .aload_n 0, 1, 0, 0, 0), (8, .iload_n 1, 1, 0, 0, 0), (9, .iload_n 3, 1, 0, 0, 0), (10, .invokevirtual 260, 3, 206, 2, 0), (13, .istore 4, 2, 0, 0, 0), (15, .aload_n 0, 1, 0, 0, 0), (16, .getfield 9, 3, 12, 1, 0), (19, .bipush 24, 2, 0, 0, 0), (21, .iconst 3, 1, 0, 0, 0), (22, .iload_n 1, 1, 0, 0, 0), (23, .imul, 1, 0, 0, 0), (24, .iadd, 1, 0, 0, 0), (25, .iload_n 3, 1, 0, 0, 0), (26, .iadd, 1, 0, 0, 0), (27, .aload_n 0, 1, 0, 0, 0), (28, .iload_n 2, 1, 0, 0, 0), (29, .iload_n 3, 1, 0, 0, 0), (30, .invokevirtual 260, 3, 206, 2, 0), (33, .iastore, 1, 0, 0, 0), (34, .aload_n 0, 1, 0, 0, 0), (35, .getfield 9, 3, 12, 1, 0), (38, .bipush 24, 2, 0, 0, 0), (40, .iconst 3, 1, 0, 0, 0), (41, .iload_n 2, 1, 0, 0, 0), (42, .imul, 1, 0, 0, 0), (43, .iadd, 1, 0, 0, 0), (44, .iload_n 3, 1, 0, 0, 0)]
noncomputable def k_cX12_trade_1 : List xR := [(45, .iadd, 1, 0, 0, 0), (46, .iload 4, 2, 0, 0, 0), (48, .iastore, 1, 0, 0, 0), (49, .iinc 3 1, 3, 0, 0, 0), (52, .goto (-50), 3, 0, 0, 0), (55, .return_, 1, 0, 0, 0)]
noncomputable def M_cX12_trade : xM := (RX12, yX12_trade, cX12_trade, 5, none, false, 12, [(44, k_cX12_trade_0), (55, k_cX12_trade_1)])
noncomputable def k_cX12_better_0 : List xR := [(0, .aload_n 0, 1, 0, 0, 0), (1, .invokevirtual 282, 3, 199, 0, 0), (4, .ifCond .eq 13, 3, 0, 0, 0), (7, .iload_n 1, 1, 0, 0, 0), (8, .i2l, 1, 0, 0, 0), (9, .lconst 0, 1, 0, 0, 0), (10, .lconst 1, 1, 0, 0, 0), (11, .invokestatic 88, 3, 196, 3, 0), (14, .ifCond .ne 6, 3, 0, 0, 0), (17, .bipush (-2), 2, 0, 0, 0), (19, .ireturn, 1, 0, 0, 0), (20, .iconst (-1), 1, 0, 0, 0), (21, .istore_n 2, 1, 0, 0, 0), (22, .aload_n 0, 1, 0, 0, 0), (23, .invokevirtual 506, 3, 332, 0, 0), (26, .istore_n 3, 1, 0, 0, 0), (27, .iconst 0, 1, 0, 0, 0), (28, .istore 4, 2, 0, 0, 0), (30, .iload 4, 2, 0, 0, 0), (32, .aload_n 0, 1, 0, 0, 0), (33, .getfield 9, 3, 12, 1, 0), (36, .iconst 5, 1, 0, 0, 0), (37, .iaload, 1, 0, 0, 0), (38, .if_icmp .ge 88, 3, 0, 0, 0), (41, .iload 4, 2, 0, 0, 0), (43, .iconst 1, 1, 0, 0, 0), (44, .iadd, 1, 0, 0, 0), (45, .istore 5, 2, 0, 0, 0), (47, .iload 5, 2, 0, 0, 0), (49, .aload_n 0, 1, 0, 0, 0), (50, .getfield 9, 3, 12, 1, 0), (53, .iconst 5, 1, 0, 0, 0)]
noncomputable def k_cX12_better_1 : List xR := [(54, .iaload, 1, 0, 0, 0), (55, .if_icmp .ge 65, 3, 0, 0, 0), (58, .aload_n 0, 1, 0, 0, 0), (59, .iload 4, 2, 0, 0, 0), (61, .iload 5, 2, 0, 0, 0), (63, .invokevirtual 509, 3, 334, 2, 0), (66, .aload_n 0, 1, 0, 0, 0), (67, .invokevirtual 506, 3, 332, 0, 0), (70, .istore 6, 2, 0, 0, 0), (72, .aload_n 0, 1, 0, 0, 0), (73, .iload 4, 2, 0, 0, 0), (75, .iload 5, 2, 0, 0, 0), (77, .invokevirtual 509, 3, 334, 2, 0), (80, .iload_n 1, 1, 0, 0, 0), (81, .ifCond .ne 12, 3, 0, 0, 0), (84, .iload 6, 2, 0, 0, 0), (86, .iload_n 3, 1, 0, 0, 0), (87, .if_icmp .gt 15, 3, 0, 0, 0), (90, .goto 24, 3, 0, 0, 0), (93, .iload 6, 2, 0, 0, 0), (95, .iload_n 3, 1, 0, 0, 0), (96, .if_icmp .lt 6, 3, 0, 0, 0), (99, .goto 15, 3, 0, 0, 0), (102, .iload 6, 2, 0, 0, 0), (104, .istore_n 3, 1, 0, 0, 0), (105, .bipush 100, 2, 0, 0, 0), (107, .iload 4, 2, 0, 0, 0), (109, .imul, 1, 0, 0, 0), (110, .iload 5, 2, 0, 0, 0), (112, .iadd, 1, 0, 0, 0), (113, .istore_n 2, 1, 0, 0, 0), (114, .iinc 5 1, 3, 0, 0, 0)]
noncomputable def k_cX12_better_2 : List xR := [(117, .goto (-70), 3, 0, 0, 0), (120, .iinc 4 1, 3, 0, 0, 0), (123, .goto (-93), 3, 0, 0, 0), (126, .iload_n 2, 1, 0, 0, 0), (127, .ireturn, 1, 0, 0, 0)]
noncomputable def M_cX12_better : xM := (RX12, yX12_better, cX12_better, 7, (some .int), false, 12, [(53, k_cX12_better_0), (114, k_cX12_better_1), (127, k_cX12_better_2)])
noncomputable def k_cX12_swap_0 : List xR := [(0, .aload_n 0, 1, 0, 0, 0), (1, .iload_n 1, 1, 0, 0, 0), (2, .invokevirtual 267, 3, 204, 1, 0), (5, .ifCond .eq 11, 3, 0, 0, 0), (8, .aload_n 0, 1, 0, 0, 0), (9, .iload_n 2, 1, 0, 0, 0), (10, .invokevirtual 267, 3, 204, 1, 0), (13, .ifCond .ne 6, 3, 0, 0, 0), (16, .bipush (-2), 2, 0, 0, 0), (18, .ireturn, 1, 0, 0, 0), (19, .aload_n 0, 1, 0, 0, 0), (20, .iload_n 1, 1, 0, 0, 0), (21, .iload_n 2, 1, 0, 0, 0), (22, .invokevirtual 509, 3, 334, 2, 0), (25, .iconst 0, 1, 0, 0, 0), (26, .ireturn, 1, 0, 0, 0)]
noncomputable def M_cX12_swap : xM := (RX12, yX12_swap, cX12_swap, 3, (some .int), false, 12, [(26, k_cX12_swap_0)])
noncomputable def k_cX12_paint_0 : List xR := [(0, .aload_n 0, 1, 0, 0, 0), (1, .iload_n 1, 1, 0, 0, 0), (2, .invokevirtual 267, 3, 204, 1, 0), (5, .ifCond .eq 23, 3, 0, 0, 0), (8, .iload_n 2, 1, 0, 0, 0), (9, .i2l, 1, 0, 0, 0), (10, .lconst 0, 1, 0, 0, 0), (11, .lconst 1, 1, 0, 0, 0), (12, .invokestatic 88, 3, 196, 3, 0), (15, .ifCond .eq 13, 3, 0, 0, 0), (18, .aload_n 0, 1, 0, 0, 0), (19, .iload_n 1, 1, 0, 0, 0), (20, .iconst 1, 1, 0, 0, 0), (21, .invokevirtual 260, 3, 206, 2, 0), (24, .iconst (-1), 1, 0, 0, 0), (25, .if_icmp .eq 6, 3, 0, 0, 0), (28, .bipush (-2), 2, 0, 0, 0), (30, .ireturn, 1, 0, 0, 0), (31, .aload_n 0, 1, 0, 0, 0), (32, .iload_n 1, 1, 0, 0, 0), (33, .iconst 2, 1, 0, 0, 0), (34, .invokevirtual 260, 3, 206, 2, 0), (37, .istore_n 3, 1, 0, 0, 0), (38, .aload_n 0, 1, 0, 0, 0), (39, .getfield 9, 3, 12, 1, 0), (42, .bipush 24, 2, 0, 0, 0), (44, .iconst 3, 1, 0, 0, 0), (45, .iload_n 1, 1, 0, 0, 0), (46, .imul, 1, 0, 0, 0), (47, .iadd, 1, 0, 0, 0), (48, .iconst 2, 1, 0, 0, 0), (49, .iadd, 1, 0, 0, 0)]
noncomputable def k_cX12_paint_1 : List xR := [(50, .iload_n 2, 1, 0, 0, 0), (51, .iastore, 1, 0, 0, 0), (52, .iload_n 3, 1, 0, 0, 0), (53, .ireturn, 1, 0, 0, 0)]
noncomputable def M_cX12_paint : xM := (RX12, yX12_paint, cX12_paint, 4, (some .int), false, 12, [(49, k_cX12_paint_0), (53, k_cX12_paint_1)])
noncomputable def k_cX12_turn_0 : List xR := [(0, .aload_n 0, 1, 0, 0, 0), (1, .iload_n 1, 1, 0, 0, 0), (2, .invokevirtual 267, 3, 204, 1, 0), (5, .ifCond .ne 6, 3, 0, 0, 0), (8, .bipush (-2), 2, 0, 0, 0), (10, .ireturn, 1, 0, 0, 0), (11, .aload_n 0, 1, 0, 0, 0), (12, .getfield 9, 3, 12, 1, 0), (15, .bipush 8, 2, 0, 0, 0), (17, .iaload, 1, 0, 0, 0), (18, .istore_n 2, 1, 0, 0, 0), (19, .aload_n 0, 1, 0, 0, 0), (20, .getfield 9, 3, 12, 1, 0), (23, .bipush 8, 2, 0, 0, 0), (25, .iload_n 1, 1, 0, 0, 0), (26, .iastore, 1, 0, 0, 0), (27, .iload_n 2, 1, 0, 0, 0), (28, .ireturn, 1, 0, 0, 0)]
noncomputable def M_cX12_turn : xM := (RX12, yX12_turn, cX12_turn, 3, (some .int), false, 12, [(28, k_cX12_turn_0)])
noncomputable def k_cX12_lucky_0 : List xR := [(0, .aload_n 0, 1, 0, 0, 0), (1, .iload_n 1, 1, 0, 0, 0), (2, .invokevirtual 270, 3, 205, 1, 0), (5, .ifCond .ne 6, 3, 0, 0, 0), (8, .bipush (-2), 2, 0, 0, 0), (10, .ireturn, 1, 0, 0, 0), (11, .aload_n 0, 1, 0, 0, 0), (12, .getfield 9, 3, 12, 1, 0), (15, .bipush 8, 2, 0, 0, 0), (17, .iaload, 1, 0, 0, 0), (18, .istore_n 2, 1, 0, 0, 0), (19, .iconst (-1), 1, 0, 0, 0), (20, .istore_n 3, 1, 0, 0, 0), (21, .iconst (-1), 1, 0, 0, 0), (22, .istore 4, 2, 0, 0, 0), (24, .iconst 0, 1, 0, 0, 0), (25, .istore 5, 2, 0, 0, 0), (27, .iload 5, 2, 0, 0, 0), (29, .aload_n 0, 1, 0, 0, 0), (30, .getfield 9, 3, 12, 1, 0), (33, .iconst 5, 1, 0, 0, 0), (34, .iaload, 1, 0, 0, 0), (35, .if_icmp .ge 44, 3, 0, 0, 0), (38, .aload_n 0, 1, 0, 0, 0), (39, .getfield 9, 3, 12, 1, 0), (42, .bipush 8, 2, 0, 0, 0), (44, .iload 5, 2, 0, 0, 0), (46, .iastore, 1, 0, 0, 0), (47, .aload_n 0, 1, 0, 0, 0), (48, .iload_n 1, 1, 0, 0, 0), (49, .invokevirtual 365, 3, 259, 1, 0), (52, .aload_n 0, 1, 0, 0, 0)]
noncomputable def k_cX12_lucky_1 : List xR := [(53, .getfield 346, 3, 12, 29, 0), (56, .iload 4, 2, 0, 0, 0), (58, .if_icmp .gt 6, 3, 0, 0, 0), (61, .goto 12, 3, 0, 0, 0), (64, .iload 5, 2, 0, 0, 0), (66, .istore_n 3, 1, 0, 0, 0), (67, .aload_n 0, 1, 0, 0, 0), (68, .getfield 346, 3, 12, 29, 0), (71, .istore 4, 2, 0, 0, 0), (73, .iinc 5 1, 3, 0, 0, 0), (76, .goto (-49), 3, 0, 0, 0), (79, .aload_n 0, 1, 0, 0, 0), (80, .getfield 9, 3, 12, 1, 0), (83, .bipush 8, 2, 0, 0, 0), (85, .iload_n 2, 1, 0, 0, 0), (86, .iastore, 1, 0, 0, 0), (87, .iload_n 3, 1, 0, 0, 0), (88, .ireturn, 1, 0, 0, 0)]
noncomputable def M_cX12_lucky : xM := (RX12, yX12_lucky, cX12_lucky, 6, (some .int), false, 12, [(52, k_cX12_lucky_0), (88, k_cX12_lucky_1)])
noncomputable def k_cX12_shut_0 : List xR := [(0, .aload_n 0, 1, 0, 0, 0), (1, .iload_n 1, 1, 0, 0, 0), (2, .i2l, 1, 0, 0, 0), (3, .invokevirtual 300, 3, 201, 1, 0), (6, .ifCond .eq 21, 3, 0, 0, 0), (9, .iload_n 2, 1, 0, 0, 0), (10, .i2l, 1, 0, 0, 0), (11, .lconst 0, 1, 0, 0, 0), (12, .lconst 1, 1, 0, 0, 0), (13, .invokestatic 88, 3, 196, 3, 0), (16, .ifCond .eq 11, 3, 0, 0, 0), (19, .aload_n 0, 1, 0, 0, 0), (20, .iload_n 1, 1, 0, 0, 0), (21, .invokevirtual 503, 3, 329, 1, 0), (24, .ifCond .le 6, 3, 0, 0, 0), (27, .bipush (-2), 2, 0, 0, 0), (29, .ireturn, 1, 0, 0, 0), (30, .aload_n 0, 1, 0, 0, 0), (31, .iload_n 1, 1, 0, 0, 0), (32, .invokevirtual 395, 3, 202, 1, 0), (35, .ifCond .eq 7, 3, 0, 0, 0), (38, .iconst 1, 1, 0, 0, 0), (39, .goto 4, 3, 0, 0, 0), (42, .iconst 0, 1, 0, 0, 0), (43, .istore_n 3, 1, 0, 0, 0), (44, .aload_n 0, 1, 0, 0, 0), (45, .getfield 9, 3, 12, 1, 0), (48, .bipush 7, 2, 0, 0, 0), (50, .aload_n 0, 1, 0, 0, 0), (51, .getfield 9, 3, 12, 1, 0), (54, .bipush 7, 2, 0, 0, 0), (56, .iaload, 1, 0, 0, 0)]
noncomputable def k_cX12_shut_1 : List xR := [(57, .iconst 1, 1, 0, 0, 0), (58, .iload_n 1, 1, 0, 0, 0), (59, .ishl, 1, 0, 0, 0), (60, .iconst (-1), 1, 0, 0, 0), (61, .ixor, 1, 0, 0, 0), (62, .iand, 1, 0, 0, 0), (63, .iload_n 2, 1, 0, 0, 0), (64, .iload_n 1, 1, 0, 0, 0), (65, .ishl, 1, 0, 0, 0), (66, .ior, 1, 0, 0, 0), (67, .iastore, 1, 0, 0, 0), (68, .iload_n 3, 1, 0, 0, 0), (69, .ireturn, 1, 0, 0, 0)]
noncomputable def M_cX12_shut : xM := (RX12, yX12_shut, cX12_shut, 4, (some .int), false, 12, [(56, k_cX12_shut_0), (69, k_cX12_shut_1)])
noncomputable def k_cX12_train_0 : List xR := [(0, .aload_n 0, 1, 0, 0, 0), (1, .iload_n 1, 1, 0, 0, 0), (2, .invokevirtual 270, 3, 205, 1, 0), (5, .ifCond .ne 6, 3, 0, 0, 0), (8, .bipush (-2), 2, 0, 0, 0), (10, .ireturn, 1, 0, 0, 0), (11, .iload_n 2, 1, 0, 0, 0), (12, .ifCond .ne 15, 3, 0, 0, 0), (15, .iload_n 3, 1, 0, 0, 0), (16, .i2l, 1, 0, 0, 0), (17, .lconst 1, 1, 0, 0, 0), (18, .ldc2_w 387, 3, 9, 0, 0), (21, .invokestatic 88, 3, 196, 3, 0), (24, .goto 73, 3, 0, 0, 0), (27, .iload_n 2, 1, 0, 0, 0), (28, .iconst 1, 1, 0, 0, 0), (29, .if_icmp .ne 15, 3, 0, 0, 0), (32, .iload_n 3, 1, 0, 0, 0), (33, .i2l, 1, 0, 0, 0), (34, .lconst 0, 1, 0, 0, 0), (35, .ldc2_w 474, 3, 20, 0, 0), (38, .invokestatic 88, 3, 196, 3, 0), (41, .goto 56, 3, 0, 0, 0), (44, .iload_n 2, 1, 0, 0, 0), (45, .iconst 2, 1, 0, 0, 0), (46, .if_icmp .ne 15, 3, 0, 0, 0), (49, .iload_n 3, 1, 0, 0, 0), (50, .i2l, 1, 0, 0, 0), (51, .lconst 0, 1, 0, 0, 0), (52, .ldc2_w 512, 3, 99, 0, 0), (55, .invokestatic 88, 3, 196, 3, 0), (58, .goto 39, 3, 0, 0, 0)]
noncomputable def k_cX12_train_1 : List xR := [(61, .iload_n 2, 1, 0, 0, 0), (62, .iconst 3, 1, 0, 0, 0), (63, .if_icmp .ne 15, 3, 0, 0, 0), (66, .iload_n 3, 1, 0, 0, 0), (67, .i2l, 1, 0, 0, 0), (68, .lconst 0, 1, 0, 0, 0), (69, .ldc2_w 387, 3, 9, 0, 0), (72, .invokestatic 88, 3, 196, 3, 0), (75, .goto 22, 3, 0, 0, 0), (78, .iload_n 2, 1, 0, 0, 0), (79, .iconst 4, 1, 0, 0, 0), (80, .if_icmp .ne 16, 3, 0, 0, 0), (83, .aload_n 0, 1, 0, 0, 0), (84, .iload_n 3, 1, 0, 0, 0), (85, .i2l, 1, 0, 0, 0), (86, .invokevirtual 300, 3, 201, 1, 0), (89, .ifCond .eq 7, 3, 0, 0, 0), (92, .iconst 1, 1, 0, 0, 0), (93, .goto 4, 3, 0, 0, 0), (96, .iconst 0, 1, 0, 0, 0), (97, .istore 4, 2, 0, 0, 0), (99, .iload 4, 2, 0, 0, 0), (101, .ifCond .ne 6, 3, 0, 0, 0), (104, .bipush (-2), 2, 0, 0, 0), (106, .ireturn, 1, 0, 0, 0), (107, .aload_n 0, 1, 0, 0, 0), (108, .iload_n 1, 1, 0, 0, 0), (109, .iload_n 2, 1, 0, 0, 0), (110, .invokevirtual 275, 3, 207, 2, 0), (113, .istore 5, 2, 0, 0, 0), (115, .aload_n 0, 1, 0, 0, 0), (116, .getfield 9, 3, 12, 1, 0)]
noncomputable def k_cX12_train_2 : List xR := [(119, .bipush 96, 2, 0, 0, 0), (121, .iconst 5, 1, 0, 0, 0), (122, .iload_n 1, 1, 0, 0, 0), (123, .imul, 1, 0, 0, 0), (124, .iadd, 1, 0, 0, 0), (125, .iload_n 2, 1, 0, 0, 0), (126, .iadd, 1, 0, 0, 0), (127, .iload_n 3, 1, 0, 0, 0), (128, .iastore, 1, 0, 0, 0), (129, .iload 5, 2, 0, 0, 0), (131, .ireturn, 1, 0, 0, 0)]
noncomputable def M_cX12_train : xM := (RX12, yX12_train, cX12_train, 6, (some .int), false, 12, [(58, k_cX12_train_0), (116, k_cX12_train_1), (131, k_cX12_train_2)])
noncomputable def k_cX12_draw_0 : List xR := [(0, .aload_n 0, 1, 0, 0, 0), (1, .ldc2_w 514, 3, 1103515245, 0, 0), (4, .aload_n 0, 1, 0, 0, 0), (5, .getfield 516, 3, 12, 42, 0), (8, .lmul, 1, 0, 0, 0), (9, .ldc2_w 520, 3, 12345, 0, 0), (12, .ladd, 1, 0, 0, 0), (13, .ldc2_w 522, 3, 2147483648, 0, 0), (16, .lrem, 1, 0, 0, 0), (17, .putfield 516, 3, 12, 42, 0), (20, .aload_n 0, 1, 0, 0, 0), (21, .getfield 516, 3, 12, 42, 0), (24, .ldc2_w 524, 3, 65536, 0, 0), (27, .ldiv, 1, 0, 0, 0), (28, .iload_n 1, 1, 0, 0, 0), (29, .i2l, 1, 0, 0, 0), (30, .lrem, 1, 0, 0, 0), (31, .l2i, 1, 0, 0, 0), (32, .ireturn, 1, 0, 0, 0)]
noncomputable def M_cX12_draw : xM := (RX12, yX12_draw, cX12_draw, 2, (some .int), false, 12, [(32, k_cX12_draw_0)])
noncomputable def k_cX12_holeByLot_0 : List xR := [(0, .aload_n 0, 1, 0, 0, 0), (1, .getfield 248, 3, 12, 18, 0), (4, .iconst 1, 1, 0, 0, 0), (5, .if_icmp .ge 7, 3, 0, 0, 0), (8, .iconst (-1), 1, 0, 0, 0), (9, .goto 14, 3, 0, 0, 0), (12, .aload_n 0, 1, 0, 0, 0), (13, .aload_n 0, 1, 0, 0, 0), (14, .getfield 248, 3, 12, 18, 0), (17, .iconst 1, 1, 0, 0, 0), (18, .isub, 1, 0, 0, 0), (19, .iconst 0, 1, 0, 0, 0), (20, .invokevirtual 291, 3, 238, 2, 0), (23, .istore_n 2, 1, 0, 0, 0), (24, .aload_n 0, 1, 0, 0, 0), (25, .getfield 248, 3, 12, 18, 0), (28, .iconst 2, 1, 0, 0, 0), (29, .if_icmp .ge 7, 3, 0, 0, 0), (32, .iconst (-1), 1, 0, 0, 0), (33, .goto 14, 3, 0, 0, 0), (36, .aload_n 0, 1, 0, 0, 0), (37, .aload_n 0, 1, 0, 0, 0), (38, .getfield 248, 3, 12, 18, 0), (41, .iconst 2, 1, 0, 0, 0), (42, .isub, 1, 0, 0, 0), (43, .iconst 0, 1, 0, 0, 0), (44, .invokevirtual 291, 3, 238, 2, 0), (47, .istore_n 3, 1, 0, 0, 0), (48, .iconst 0, 1, 0, 0, 0), (49, .istore 4, 2, 0, 0, 0), (51, .iconst 0, 1, 0, 0, 0), (52, .istore 5, 2, 0, 0, 0)]
noncomputable def k_cX12_holeByLot_1 : List xR := [(54, .iload 5, 2, 0, 0, 0), (56, .aload_n 0, 1, 0, 0, 0), (57, .invokevirtual 92, 3, 200, 0, 0), (60, .if_icmp .ge 31, 3, 0, 0, 0), (63, .iload 4, 2, 0, 0, 0), (65, .aload_n 0, 1, 0, 0, 0), (66, .iload_n 1, 1, 0, 0, 0), (67, .iload 5, 2, 0, 0, 0), (69, .iload_n 2, 1, 0, 0, 0), (70, .iload_n 3, 1, 0, 0, 0), (71, .invokevirtual 418, 3, 290, 4, 0), (74, .ifCond .eq 7, 3, 0, 0, 0), (77, .iconst 1, 1, 0, 0, 0), (78, .goto 4, 3, 0, 0, 0), (81, .iconst 0, 1, 0, 0, 0), (82, .iadd, 1, 0, 0, 0), (83, .istore 4, 2, 0, 0, 0), (85, .iinc 5 1, 3, 0, 0, 0), (88, .goto (-34), 3, 0, 0, 0), (91, .iload 4, 2, 0, 0, 0), (93, .ifCond .ne 5, 3, 0, 0, 0), (96, .iconst (-1), 1, 0, 0, 0), (97, .ireturn, 1, 0, 0, 0), (98, .aload_n 0, 1, 0, 0, 0), (99, .iload 4, 2, 0, 0, 0), (101, .invokevirtual 526, 3, 342, 1, 0), (104, .istore 5, 2, 0, 0, 0), (106, .iconst 0, 1, 0, 0, 0), (107, .istore 6, 2, 0, 0, 0), (109, .iload 6, 2, 0, 0, 0), (111, .aload_n 0, 1, 0, 0, 0), (112, .invokevirtual 92, 3, 200, 0, 0)]
noncomputable def k_cX12_holeByLot_2 : List xR := [(115, .if_icmp .ge 35, 3, 0, 0, 0), (118, .aload_n 0, 1, 0, 0, 0), (119, .iload_n 1, 1, 0, 0, 0), (120, .iload 6, 2, 0, 0, 0), (122, .iload_n 2, 1, 0, 0, 0), (123, .iload_n 3, 1, 0, 0, 0), (124, .invokevirtual 418, 3, 290, 4, 0), (127, .ifCond .ne 6, 3, 0, 0, 0), (130, .goto 14, 3, 0, 0, 0), (133, .iload 5, 2, 0, 0, 0), (135, .ifCond .ne 6, 3, 0, 0, 0), (138, .iload 6, 2, 0, 0, 0), (140, .ireturn, 1, 0, 0, 0), (141, .iinc 5 (-1), 3, 0, 0, 0), (144, .iinc 6 1, 3, 0, 0, 0), (147, .goto (-38), 3, 0, 0, 0), (150, .iconst (-1), 1, 0, 0, 0), (151, .ireturn, 1, 0, 0, 0)]
noncomputable def M_cX12_holeByLot : xM := (RX12, yX12_holeByLot, cX12_holeByLot, 7, (some .int), false, 12, [(52, k_cX12_holeByLot_0), (112, k_cX12_holeByLot_1), (151, k_cX12_holeByLot_2)])
noncomputable def k_cX12_layNight_0 : List xR := [(0, .aload_n 0, 1, 0, 0, 0), (1, .lload_n 1, 1, 0, 0, 0), (2, .putfield 516, 3, 12, 42, 0), (5, .aload_n 0, 1, 0, 0, 0), (6, .iconst 0, 1, 0, 0, 0), (7, .putfield 248, 3, 12, 18, 0), (10, .aload_n 0, 1, 0, 0, 0), (11, .invokevirtual 257, 3, 235, 0, 0), (14, .ifCond .eq 28, 3, 0, 0, 0), (17, .aload_n 0, 1, 0, 0, 0), (18, .iload_n 3, 1, 0, 0, 0), (19, .invokevirtual 529, 3, 343, 1, 0), (22, .istore 4, 2, 0, 0, 0), (24, .iload 4, 2, 0, 0, 0), (26, .iconst (-1), 1, 0, 0, 0), (27, .if_icmp .ne 4, 3, 0, 0, 0), (30, .return_, 1, 0, 0, 0), (31, .aload_n 0, 1, 0, 0, 0), (32, .iload 4, 2, 0, 0, 0), (34, .iconst (-1), 1, 0, 0, 0), (35, .iconst 0, 1, 0, 0, 0), (36, .invokevirtual 263, 3, 236, 3, 0), (39, .goto (-29), 3, 0, 0, 0), (42, .return_, 1, 0, 0, 0)]
noncomputable def M_cX12_layNight : xM := (RX12, yX12_layNight, cX12_layNight, 5, none, false, 12, [(42, k_cX12_layNight_0)])
noncomputable def k_cX12_isSeed_0 : List xR := [(0, .iload_n 0, 1, 0, 0, 0), (1, .i2l, 1, 0, 0, 0), (2, .lconst 0, 1, 0, 0, 0), (3, .ldc2_w 532, 3, 2000000000, 0, 0), (6, .invokestatic 88, 3, 196, 3, 0), (9, .ireturn, 1, 0, 0, 0)]
noncomputable def M_cX12_isSeed : xM := (RX12, yX12_isSeed, cX12_isSeed, 1, (some .boolean), true, 12, [(9, k_cX12_isSeed_0)])
noncomputable def k_cX12_drawn_0 : List xR := [(0, .aload_n 0, 1, 0, 0, 0), (1, .invokevirtual 282, 3, 199, 0, 0), (4, .ifCond .eq 17, 3, 0, 0, 0), (7, .iload_n 1, 1, 0, 0, 0), (8, .invokestatic 534, 3, 345, 1, 0), (11, .ifCond .eq 10, 3, 0, 0, 0), (14, .iload_n 2, 1, 0, 0, 0), (15, .invokestatic 422, 3, 289, 1, 0), (18, .ifCond .ne 6, 3, 0, 0, 0), (21, .bipush (-2), 2, 0, 0, 0), (23, .ireturn, 1, 0, 0, 0), (24, .aload_n 0, 1, 0, 0, 0), (25, .iload_n 1, 1, 0, 0, 0), (26, .i2l, 1, 0, 0, 0), (27, .iload_n 2, 1, 0, 0, 0), (28, .invokevirtual 537, 3, 344, 2, 0), (31, .aload_n 0, 1, 0, 0, 0), (32, .iload_n 3, 1, 0, 0, 0), (33, .invokevirtual 288, 3, 243, 1, 0), (36, .ifCond .eq 12, 3, 0, 0, 0), (39, .aload_n 0, 1, 0, 0, 0), (40, .iload_n 3, 1, 0, 0, 0), (41, .iconst 0, 1, 0, 0, 0), (42, .invokevirtual 291, 3, 238, 2, 0), (45, .goto 4, 3, 0, 0, 0), (48, .iconst (-1), 1, 0, 0, 0), (49, .ireturn, 1, 0, 0, 0)]
noncomputable def M_cX12_drawn : xM := (RX12, yX12_drawn, cX12_drawn, 4, (some .int), false, 12, [(49, k_cX12_drawn_0)])
noncomputable def k_cX12_nightOf_0 : List xR := [(0, .aload_n 0, 1, 0, 0, 0), (1, .lload_n 1, 1, 0, 0, 0), (2, .iload_n 3, 1, 0, 0, 0), (3, .invokevirtual 537, 3, 344, 2, 0), (6, .aload_n 0, 1, 0, 0, 0), (7, .iload 4, 2, 0, 0, 0), (9, .invokevirtual 328, 3, 252, 1, 0), (12, .aload_n 0, 1, 0, 0, 0), (13, .invokevirtual 362, 3, 258, 0, 0), (16, .aload_n 0, 1, 0, 0, 0), (17, .getfield 346, 3, 12, 29, 0), (20, .ireturn, 1, 0, 0, 0)]
noncomputable def M_cX12_nightOf : xM := (RX12, yX12_nightOf, cX12_nightOf, 5, (some .int), false, 12, [(20, k_cX12_nightOf_0)])
noncomputable def k_cX12_night_0 : List xR := [(0, .iload_n 1, 1, 0, 0, 0), (1, .invokestatic 534, 3, 345, 1, 0), (4, .ifCond .eq 29, 3, 0, 0, 0), (7, .iload_n 2, 1, 0, 0, 0), (8, .invokestatic 422, 3, 289, 1, 0), (11, .ifCond .eq 22, 3, 0, 0, 0), (14, .aload_n 0, 1, 0, 0, 0), (15, .iload_n 3, 1, 0, 0, 0), (16, .invokevirtual 270, 3, 205, 1, 0), (19, .ifCond .eq 14, 3, 0, 0, 0), (22, .aload_n 0, 1, 0, 0, 0), (23, .iload_n 1, 1, 0, 0, 0), (24, .i2l, 1, 0, 0, 0), (25, .iload_n 2, 1, 0, 0, 0), (26, .iload_n 3, 1, 0, 0, 0), (27, .invokevirtual 541, 3, 347, 3, 0), (30, .goto 5, 3, 0, 0, 0), (33, .bipush (-2), 2, 0, 0, 0), (35, .ireturn, 1, 0, 0, 0)]
noncomputable def M_cX12_night : xM := (RX12, yX12_night, cX12_night, 4, (some .int), false, 12, [(35, k_cX12_night_0)])
noncomputable def k_cX12_years_0 : List xR := [(0, .iload_n 1, 1, 0, 0, 0), (1, .invokestatic 534, 3, 345, 1, 0), (4, .ifCond .eq 31, 3, 0, 0, 0), (7, .iload_n 2, 1, 0, 0, 0), (8, .i2l, 1, 0, 0, 0), (9, .lconst 1, 1, 0, 0, 0), (10, .ldc2_w 474, 3, 20, 0, 0), (13, .invokestatic 88, 3, 196, 3, 0), (16, .ifCond .eq 19, 3, 0, 0, 0), (19, .iload_n 3, 1, 0, 0, 0), (20, .invokestatic 422, 3, 289, 1, 0), (23, .ifCond .eq 12, 3, 0, 0, 0), (26, .aload_n 0, 1, 0, 0, 0), (27, .iload 4, 2, 0, 0, 0), (29, .invokevirtual 270, 3, 205, 1, 0), (32, .ifCond .ne 6, 3, 0, 0, 0), (35, .bipush (-2), 2, 0, 0, 0), (37, .ireturn, 1, 0, 0, 0), (38, .iconst 0, 1, 0, 0, 0), (39, .istore 5, 2, 0, 0, 0), (41, .iconst 0, 1, 0, 0, 0), (42, .istore 6, 2, 0, 0, 0), (44, .iload 6, 2, 0, 0, 0), (46, .iload_n 2, 1, 0, 0, 0), (47, .if_icmp .ge 27, 3, 0, 0, 0), (50, .iload 5, 2, 0, 0, 0), (52, .aload_n 0, 1, 0, 0, 0), (53, .iload_n 1, 1, 0, 0, 0), (54, .i2l, 1, 0, 0, 0), (55, .iload 6, 2, 0, 0, 0), (57, .i2l, 1, 0, 0, 0), (58, .ladd, 1, 0, 0, 0)]
noncomputable def k_cX12_years_1 : List xR := [(59, .iload_n 3, 1, 0, 0, 0), (60, .iload 4, 2, 0, 0, 0), (62, .invokevirtual 541, 3, 347, 3, 0), (65, .iadd, 1, 0, 0, 0), (66, .istore 5, 2, 0, 0, 0), (68, .iinc 6 1, 3, 0, 0, 0), (71, .goto (-27), 3, 0, 0, 0), (74, .iload 5, 2, 0, 0, 0), (76, .ireturn, 1, 0, 0, 0)]
noncomputable def M_cX12_years : xM := (RX12, yX12_years, cX12_years, 7, (some .int), false, 12, [(58, k_cX12_years_0), (76, k_cX12_years_1)])
noncomputable def k_cX12_count_0 : List xR := [(0, .iconst 0, 1, 0, 0, 0), (1, .istore_n 2, 1, 0, 0, 0), (2, .iload_n 1, 1, 0, 0, 0), (3, .tableswitch 162 0 10 #[57, 64, 71, 78, 85, 92, 100, 108, 116, 124, 129], 57, 0, 0, 0), (60, .aload_n 0, 1, 0, 0, 0), (61, .getfield 9, 3, 12, 1, 0), (64, .iconst 0, 1, 0, 0, 0), (65, .iaload, 1, 0, 0, 0), (66, .ireturn, 1, 0, 0, 0), (67, .aload_n 0, 1, 0, 0, 0), (68, .getfield 9, 3, 12, 1, 0), (71, .iconst 1, 1, 0, 0, 0), (72, .iaload, 1, 0, 0, 0), (73, .ireturn, 1, 0, 0, 0), (74, .aload_n 0, 1, 0, 0, 0), (75, .getfield 9, 3, 12, 1, 0), (78, .iconst 2, 1, 0, 0, 0), (79, .iaload, 1, 0, 0, 0), (80, .ireturn, 1, 0, 0, 0), (81, .aload_n 0, 1, 0, 0, 0), (82, .getfield 9, 3, 12, 1, 0), (85, .iconst 3, 1, 0, 0, 0), (86, .iaload, 1, 0, 0, 0), (87, .ireturn, 1, 0, 0, 0), (88, .aload_n 0, 1, 0, 0, 0), (89, .getfield 9, 3, 12, 1, 0), (92, .iconst 5, 1, 0, 0, 0), (93, .iaload, 1, 0, 0, 0), (94, .ireturn, 1, 0, 0, 0), (95, .aload_n 0, 1, 0, 0, 0), (96, .getfield 9, 3, 12, 1, 0), (99, .bipush 6, 2, 0, 0, 0)]
noncomputable def k_cX12_count_1 : List xR := [(101, .iaload, 1, 0, 0, 0), (102, .ireturn, 1, 0, 0, 0), (103, .aload_n 0, 1, 0, 0, 0), (104, .getfield 9, 3, 12, 1, 0), (107, .bipush 7, 2, 0, 0, 0), (109, .iaload, 1, 0, 0, 0), (110, .ireturn, 1, 0, 0, 0), (111, .aload_n 0, 1, 0, 0, 0), (112, .getfield 9, 3, 12, 1, 0), (115, .bipush 8, 2, 0, 0, 0), (117, .iaload, 1, 0, 0, 0), (118, .ireturn, 1, 0, 0, 0), (119, .aload_n 0, 1, 0, 0, 0), (120, .getfield 9, 3, 12, 1, 0), (123, .bipush 9, 2, 0, 0, 0), (125, .iaload, 1, 0, 0, 0), (126, .ireturn, 1, 0, 0, 0), (127, .aload_n 0, 1, 0, 0, 0), (128, .getfield 96, 3, 12, 5, 0), (131, .ireturn, 1, 0, 0, 0), (132, .iconst 0, 1, 0, 0, 0), (133, .istore_n 3, 1, 0, 0, 0), (134, .iload_n 3, 1, 0, 0, 0), (135, .iconst 4, 1, 0, 0, 0), (136, .if_icmp .ge 27, 3, 0, 0, 0), (139, .iload_n 2, 1, 0, 0, 0), (140, .aload_n 0, 1, 0, 0, 0), (141, .getfield 71, 3, 12, 43, 0), (144, .iload_n 3, 1, 0, 0, 0), (145, .iaload, 1, 0, 0, 0), (146, .iconst (-1), 1, 0, 0, 0), (147, .if_icmp .ne 7, 3, 0, 0, 0)]
noncomputable def k_cX12_count_2 : List xR := [(150, .iconst 0, 1, 0, 0, 0), (151, .goto 4, 3, 0, 0, 0), (154, .iconst 1, 1, 0, 0, 0), (155, .iadd, 1, 0, 0, 0), (156, .istore_n 2, 1, 0, 0, 0), (157, .iinc 3 1, 3, 0, 0, 0), (160, .goto (-26), 3, 0, 0, 0), (163, .iload_n 2, 1, 0, 0, 0), (164, .ireturn, 1, 0, 0, 0), (165, .iconst (-1), 1, 0, 0, 0), (166, .ireturn, 1, 0, 0, 0)]
noncomputable def M_cX12_count : xM := (RX12, yX12_count, cX12_count, 4, (some .int), false, 12, [(99, k_cX12_count_0), (147, k_cX12_count_1), (166, k_cX12_count_2)])
noncomputable def k_cX12_isSlot_0 : List xR := [(0, .iload_n 0, 1, 0, 0, 0), (1, .i2l, 1, 0, 0, 0), (2, .lconst 0, 1, 0, 0, 0), (3, .ldc2_w 416, 3, 3, 0, 0), (6, .invokestatic 88, 3, 196, 3, 0), (9, .ireturn, 1, 0, 0, 0)]
noncomputable def M_cX12_isSlot : xM := (RX12, yX12_isSlot, cX12_isSlot, 1, (some .boolean), true, 12, [(9, k_cX12_isSlot_0)])
noncomputable def k_cX12_cut_0 : List xR := [(0, .bipush 64, 2, 0, 0, 0), (2, .bipush 8, 2, 0, 0, 0), (4, .iload_n 2, 1, 0, 0, 0), (5, .ishl, 1, 0, 0, 0), (6, .isub, 1, 0, 0, 0), (7, .istore_n 3, 1, 0, 0, 0), (8, .lload_n 0, 1, 0, 0, 0), (9, .iload_n 3, 1, 0, 0, 0), (10, .lshl, 1, 0, 0, 0), (11, .iload_n 3, 1, 0, 0, 0), (12, .lshr, 1, 0, 0, 0), (13, .lreturn, 1, 0, 0, 0)]
noncomputable def M_cX12_cut : xM := (RX12, yX12_cut, cX12_cut, 4, (some .long), true, 12, [(13, k_cX12_cut_0)])
noncomputable def k_cX12_row_0 : List xR := [(0, .iload_n 1, 1, 0, 0, 0), (1, .invokestatic 443, 3, 351, 1, 0), (4, .ifCond .eq 21, 3, 0, 0, 0), (7, .iload_n 2, 1, 0, 0, 0), (8, .i2l, 1, 0, 0, 0), (9, .lconst 0, 1, 0, 0, 0), (10, .ldc2_w 416, 3, 3, 0, 0), (13, .invokestatic 88, 3, 196, 3, 0), (16, .ifCond .eq 9, 3, 0, 0, 0), (19, .iload_n 3, 1, 0, 0, 0), (20, .bipush 60, 2, 0, 0, 0), (22, .if_icmp .le 6, 3, 0, 0, 0), (25, .bipush (-2), 2, 0, 0, 0), (27, .ireturn, 1, 0, 0, 0), (28, .iload_n 3, 1, 0, 0, 0), (29, .ifCond .ge 6, 3, 0, 0, 0), (32, .bipush (-3), 2, 0, 0, 0), (34, .ireturn, 1, 0, 0, 0), (35, .aload_n 0, 1, 0, 0, 0), (36, .getfield 71, 3, 12, 43, 0), (39, .iload_n 1, 1, 0, 0, 0), (40, .iload_n 3, 1, 0, 0, 0), (41, .iastore, 1, 0, 0, 0), (42, .aload_n 0, 1, 0, 0, 0), (43, .getfield 74, 3, 12, 44, 0), (46, .iload_n 1, 1, 0, 0, 0), (47, .iload_n 2, 1, 0, 0, 0), (48, .iastore, 1, 0, 0, 0), (49, .iconst 0, 1, 0, 0, 0), (50, .istore 4, 2, 0, 0, 0), (52, .iload 4, 2, 0, 0, 0), (54, .bipush 60, 2, 0, 0, 0)]
noncomputable def k_cX12_row_1 : List xR := [(56, .if_icmp .ge 22, 3, 0, 0, 0), (59, .aload_n 0, 1, 0, 0, 0), (60, .getfield 77, 3, 12, 45, 0), (63, .bipush 60, 2, 0, 0, 0), (65, .iload_n 1, 1, 0, 0, 0), (66, .imul, 1, 0, 0, 0), (67, .iload 4, 2, 0, 0, 0), (69, .iadd, 1, 0, 0, 0), (70, .lconst 0, 1, 0, 0, 0), (71, .lastore, 1, 0, 0, 0), (72, .iinc 4 1, 3, 0, 0, 0), (75, .goto (-23), 3, 0, 0, 0), (78, .iconst 0, 1, 0, 0, 0), (79, .ireturn, 1, 0, 0, 0)]
noncomputable def M_cX12_row : xM := (RX12, yX12_row, cX12_row, 5, (some .int), false, 12, [(54, k_cX12_row_0), (79, k_cX12_row_1)])
noncomputable def k_cX12_write_0 : List xR := [(0, .iload_n 1, 1, 0, 0, 0), (1, .invokestatic 443, 3, 351, 1, 0), (4, .ifCond .ne 6, 3, 0, 0, 0), (7, .bipush (-2), 2, 0, 0, 0), (9, .ireturn, 1, 0, 0, 0), (10, .aload_n 0, 1, 0, 0, 0), (11, .getfield 71, 3, 12, 43, 0), (14, .iload_n 1, 1, 0, 0, 0), (15, .iaload, 1, 0, 0, 0), (16, .iconst (-1), 1, 0, 0, 0), (17, .if_icmp .ne 6, 3, 0, 0, 0), (20, .bipush (-6), 2, 0, 0, 0), (22, .ireturn, 1, 0, 0, 0), (23, .iload_n 2, 1, 0, 0, 0), (24, .i2l, 1, 0, 0, 0), (25, .lconst 0, 1, 0, 0, 0), (26, .aload_n 0, 1, 0, 0, 0), (27, .getfield 71, 3, 12, 43, 0), (30, .iload_n 1, 1, 0, 0, 0), (31, .iaload, 1, 0, 0, 0), (32, .iconst 1, 1, 0, 0, 0), (33, .isub, 1, 0, 0, 0), (34, .i2l, 1, 0, 0, 0), (35, .invokestatic 88, 3, 196, 3, 0), (38, .ifCond .ne 6, 3, 0, 0, 0), (41, .bipush (-7), 2, 0, 0, 0), (43, .ireturn, 1, 0, 0, 0), (44, .aload_n 0, 1, 0, 0, 0), (45, .getfield 77, 3, 12, 45, 0), (48, .bipush 60, 2, 0, 0, 0), (50, .iload_n 1, 1, 0, 0, 0), (51, .imul, 1, 0, 0, 0)]
noncomputable def k_cX12_write_1 : List xR := [(52, .iload_n 2, 1, 0, 0, 0), (53, .iadd, 1, 0, 0, 0), (54, .lload_n 3, 1, 0, 0, 0), (55, .aload_n 0, 1, 0, 0, 0), (56, .getfield 74, 3, 12, 44, 0), (59, .iload_n 1, 1, 0, 0, 0), (60, .iaload, 1, 0, 0, 0), (61, .invokestatic 545, 3, 352, 2, 0), (64, .lastore, 1, 0, 0, 0), (65, .iconst 0, 1, 0, 0, 0), (66, .ireturn, 1, 0, 0, 0)]
noncomputable def M_cX12_write : xM := (RX12, yX12_write, cX12_write, 5, (some .int), false, 12, [(51, k_cX12_write_0), (66, k_cX12_write_1)])
noncomputable def k_cX12_paste_0 : List xR := [(0, .iload_n 1, 1, 0, 0, 0), (1, .invokestatic 443, 3, 351, 1, 0), (4, .ifCond .eq 10, 3, 0, 0, 0), (7, .iload_n 3, 1, 0, 0, 0), (8, .invokestatic 443, 3, 351, 1, 0), (11, .ifCond .ne 6, 3, 0, 0, 0), (14, .bipush (-2), 2, 0, 0, 0), (16, .ireturn, 1, 0, 0, 0), (17, .aload_n 0, 1, 0, 0, 0), (18, .getfield 71, 3, 12, 43, 0), (21, .iload_n 1, 1, 0, 0, 0), (22, .iaload, 1, 0, 0, 0), (23, .iconst (-1), 1, 0, 0, 0), (24, .if_icmp .eq 13, 3, 0, 0, 0), (27, .aload_n 0, 1, 0, 0, 0), (28, .getfield 71, 3, 12, 43, 0), (31, .iload_n 3, 1, 0, 0, 0), (32, .iaload, 1, 0, 0, 0), (33, .iconst (-1), 1, 0, 0, 0), (34, .if_icmp .ne 6, 3, 0, 0, 0), (37, .bipush (-6), 2, 0, 0, 0), (39, .ireturn, 1, 0, 0, 0), (40, .aload_n 0, 1, 0, 0, 0), (41, .getfield 74, 3, 12, 44, 0), (44, .iload_n 1, 1, 0, 0, 0), (45, .iaload, 1, 0, 0, 0), (46, .aload_n 0, 1, 0, 0, 0), (47, .getfield 74, 3, 12, 44, 0), (50, .iload_n 3, 1, 0, 0, 0), (51, .iaload, 1, 0, 0, 0), (52, .if_icmp .eq 6, 3, 0, 0, 0), (55, .bipush (-8), 2, 0, 0, 0)]
noncomputable def k_cX12_paste_1 : List xR := [(57, .ireturn, 1, 0, 0, 0), (58, .iload_n 2, 1, 0, 0, 0), (59, .ifCond .lt 48, 3, 0, 0, 0), (62, .iload 4, 2, 0, 0, 0), (64, .ifCond .lt 43, 3, 0, 0, 0), (67, .iload 5, 2, 0, 0, 0), (69, .ifCond .lt 38, 3, 0, 0, 0), (72, .iload_n 2, 1, 0, 0, 0), (73, .i2l, 1, 0, 0, 0), (74, .iload 5, 2, 0, 0, 0), (76, .i2l, 1, 0, 0, 0), (77, .ladd, 1, 0, 0, 0), (78, .aload_n 0, 1, 0, 0, 0), (79, .getfield 71, 3, 12, 43, 0), (82, .iload_n 1, 1, 0, 0, 0), (83, .iaload, 1, 0, 0, 0), (84, .i2l, 1, 0, 0, 0), (85, .lcmp, 1, 0, 0, 0), (86, .ifCond .gt 21, 3, 0, 0, 0), (89, .iload 4, 2, 0, 0, 0), (91, .i2l, 1, 0, 0, 0), (92, .iload 5, 2, 0, 0, 0), (94, .i2l, 1, 0, 0, 0), (95, .ladd, 1, 0, 0, 0), (96, .aload_n 0, 1, 0, 0, 0), (97, .getfield 71, 3, 12, 43, 0), (100, .iload_n 3, 1, 0, 0, 0), (101, .iaload, 1, 0, 0, 0), (102, .i2l, 1, 0, 0, 0), (103, .lcmp, 1, 0, 0, 0), (104, .ifCond .le 6, 3, 0, 0, 0), (107, .bipush (-7), 2, 0, 0, 0)]
noncomputable def k_cX12_paste_2 : List xR := [(109, .ireturn, 1, 0, 0, 0), (110, .iconst 0, 1, 0, 0, 0), (111, .istore 6, 2, 0, 0, 0), (113, .iload 6, 2, 0, 0, 0), (115, .iload 5, 2, 0, 0, 0), (117, .if_icmp .ge 30, 3, 0, 0, 0), (120, .aload_n 0, 1, 0, 0, 0), (121, .getfield 80, 3, 12, 46, 0), (124, .iload 6, 2, 0, 0, 0), (126, .aload_n 0, 1, 0, 0, 0), (127, .getfield 77, 3, 12, 45, 0), (130, .bipush 60, 2, 0, 0, 0), (132, .iload_n 1, 1, 0, 0, 0), (133, .imul, 1, 0, 0, 0), (134, .iload_n 2, 1, 0, 0, 0), (135, .iadd, 1, 0, 0, 0), (136, .iload 6, 2, 0, 0, 0), (138, .iadd, 1, 0, 0, 0), (139, .laload, 1, 0, 0, 0), (140, .lastore, 1, 0, 0, 0), (141, .iinc 6 1, 3, 0, 0, 0), (144, .goto (-31), 3, 0, 0, 0), (147, .iconst 0, 1, 0, 0, 0), (148, .istore 6, 2, 0, 0, 0), (150, .iload 6, 2, 0, 0, 0), (152, .iload 5, 2, 0, 0, 0), (154, .if_icmp .ge 31, 3, 0, 0, 0), (157, .aload_n 0, 1, 0, 0, 0), (158, .getfield 77, 3, 12, 45, 0), (161, .bipush 60, 2, 0, 0, 0), (163, .iload_n 3, 1, 0, 0, 0), (164, .imul, 1, 0, 0, 0)]
noncomputable def k_cX12_paste_3 : List xR := [(165, .iload 4, 2, 0, 0, 0), (167, .iadd, 1, 0, 0, 0), (168, .iload 6, 2, 0, 0, 0), (170, .iadd, 1, 0, 0, 0), (171, .aload_n 0, 1, 0, 0, 0), (172, .getfield 80, 3, 12, 46, 0), (175, .iload 6, 2, 0, 0, 0), (177, .laload, 1, 0, 0, 0), (178, .lastore, 1, 0, 0, 0), (179, .iinc 6 1, 3, 0, 0, 0), (182, .goto (-32), 3, 0, 0, 0), (185, .iconst 0, 1, 0, 0, 0), (186, .ireturn, 1, 0, 0, 0)]
noncomputable def M_cX12_paste : xM := (RX12, yX12_paste, cX12_paste, 7, (some .int), false, 12, [(55, k_cX12_paste_0), (107, k_cX12_paste_1), (164, k_cX12_paste_2), (186, k_cX12_paste_3)])
noncomputable def k_cJ6_bitCount_0f7a4_0 : List xR := [(0, .iload_n 0, 1, 0, 0, 0), (1, .iload_n 0, 1, 0, 0, 0), (2, .iconst 1, 1, 0, 0, 0), (3, .iushr, 1, 0, 0, 0), (4, .ldc_w 265, 3, 1431655765, 0, 0), (7, .iand, 1, 0, 0, 0), (8, .isub, 1, 0, 0, 0), (9, .istore_n 0, 1, 0, 0, 0), (10, .iload_n 0, 1, 0, 0, 0), (11, .ldc_w 266, 3, 858993459, 0, 0), (14, .iand, 1, 0, 0, 0), (15, .iload_n 0, 1, 0, 0, 0), (16, .iconst 2, 1, 0, 0, 0), (17, .iushr, 1, 0, 0, 0), (18, .ldc_w 266, 3, 858993459, 0, 0), (21, .iand, 1, 0, 0, 0), (22, .iadd, 1, 0, 0, 0), (23, .istore_n 0, 1, 0, 0, 0), (24, .iload_n 0, 1, 0, 0, 0), (25, .iload_n 0, 1, 0, 0, 0), (26, .iconst 4, 1, 0, 0, 0), (27, .iushr, 1, 0, 0, 0), (28, .iadd, 1, 0, 0, 0), (29, .ldc_w 267, 3, 252645135, 0, 0), (32, .iand, 1, 0, 0, 0), (33, .istore_n 0, 1, 0, 0, 0), (34, .iload_n 0, 1, 0, 0, 0), (35, .iload_n 0, 1, 0, 0, 0), (36, .bipush 8, 2, 0, 0, 0), (38, .iushr, 1, 0, 0, 0), (39, .iadd, 1, 0, 0, 0), (40, .istore_n 0, 1, 0, 0, 0)]
noncomputable def k_cJ6_bitCount_0f7a4_1 : List xR := [(41, .iload_n 0, 1, 0, 0, 0), (42, .iload_n 0, 1, 0, 0, 0), (43, .bipush 16, 2, 0, 0, 0), (45, .iushr, 1, 0, 0, 0), (46, .iadd, 1, 0, 0, 0), (47, .istore_n 0, 1, 0, 0, 0), (48, .iload_n 0, 1, 0, 0, 0), (49, .bipush 63, 2, 0, 0, 0), (51, .iand, 1, 0, 0, 0), (52, .ireturn, 1, 0, 0, 0)]
noncomputable def M_cJ6_bitCount_0f7a4 : xM := (RJ6, yJ6_bitCount_0f7a4, cJ6_bitCount_0f7a4, 1, (some .int), true, 999, [(40, k_cJ6_bitCount_0f7a4_0), (52, k_cJ6_bitCount_0f7a4_1)])
noncomputable def k_cJ9_floorMod_7cf53_0 : List xR := [(0, .iload_n 0, 1, 0, 0, 0), (1, .iload_n 1, 1, 0, 0, 0), (2, .irem, 1, 0, 0, 0), (3, .istore_n 2, 1, 0, 0, 0), (4, .iload_n 0, 1, 0, 0, 0), (5, .iload_n 1, 1, 0, 0, 0), (6, .ixor, 1, 0, 0, 0), (7, .ifCond .ge 11, 3, 0, 0, 0), (10, .iload_n 2, 1, 0, 0, 0), (11, .ifCond .eq 7, 3, 0, 0, 0), (14, .iload_n 2, 1, 0, 0, 0), (15, .iload_n 1, 1, 0, 0, 0), (16, .iadd, 1, 0, 0, 0), (17, .ireturn, 1, 0, 0, 0), (18, .iload_n 2, 1, 0, 0, 0), (19, .ireturn, 1, 0, 0, 0)]
noncomputable def M_cJ9_floorMod_7cf53 : xM := (RJ9, yJ9_floorMod_7cf53, cJ9_floorMod_7cf53, 3, (some .int), true, 999, [(19, k_cJ9_floorMod_7cf53_0)])
noncomputable def k_law_0 : List xR := [(0, .new 7, 3, 11, 11, 0), (3, .dup, 1, 0, 0, 0), (4, .invokespecial 9, 3, 111, 0, 0), (7, .astore_n 1, 1, 0, 0, 0), (8, .new 10, 3, 12, 47, 0), (11, .dup, 1, 0, 0, 0), (12, .invokespecial 12, 3, 195, 0, 0), (15, .astore_n 2, 1, 0, 0, 0), (16, .iconst 0, 1, 0, 0, 0), (17, .istore_n 3, 1, 0, 0, 0), (18, .iload_n 3, 1, 0, 0, 0), (19, .aload_n 0, 1, 0, 0, 0), (20, .arraylength, 1, 0, 0, 0), (21, .bipush 6, 2, 0, 0, 0), (23, .isub, 1, 0, 0, 0), (24, .if_icmp .gt 2350, 3, 0, 0, 0), (27, .aload_n 0, 1, 0, 0, 0), (28, .iload_n 3, 1, 0, 0, 0), (29, .iaload, 1, 0, 0, 0), (30, .bipush 127, 2, 0, 0, 0), (32, .iand, 1, 0, 0, 0), (33, .tableswitch 2335 0 69 #[295, 358, 381, 394, 417, 450, 483, 506, 519, 552, 575, 588, 621, 654, 687, 710, 743, 776, 809, 832, 855, 878, 911, 944, 967, 1000, 1033, 1056, 1089, 1112, 1135, 1168, 1211, 1234, 1257, 1280, 1303, 1326, 1349, 1382, 1405, 1428, 1441, 1464, 1497, 1520, 1563, 1586, 1609, 1632, 1655, 1688, 1711, 1724, 1737, 1760, 1793, 1826, 1849, 1872, 1905, 1948, 1991, 2034, 2087, 2110, 2133, 2156, 2199, 2272], 295, 0, 0, 0), (328, .aload_n 1, 1, 0, 0, 0), (329, .aload_n 0, 1, 0, 0, 0), (330, .iload_n 3, 1, 0, 0, 0), (331, .iconst 1, 1, 0, 0, 0), (332, .iadd, 1, 0, 0, 0), (333, .iaload, 1, 0, 0, 0), (334, .aload_n 0, 1, 0, 0, 0), (335, .iload_n 3, 1, 0, 0, 0), (336, .iconst 2, 1, 0, 0, 0), (337, .iadd, 1, 0, 0, 0)]
noncomputable def k_law_1 : List xR := [(338, .iaload, 1, 0, 0, 0), (339, .aload_n 0, 1, 0, 0, 0), (340, .iload_n 3, 1, 0, 0, 0), (341, .iconst 3, 1, 0, 0, 0), (342, .iadd, 1, 0, 0, 0), (343, .iaload, 1, 0, 0, 0), (344, .aload_n 0, 1, 0, 0, 0), (345, .iload_n 3, 1, 0, 0, 0), (346, .iconst 4, 1, 0, 0, 0), (347, .iadd, 1, 0, 0, 0), (348, .iaload, 1, 0, 0, 0), (349, .aload_n 0, 1, 0, 0, 0), (350, .iload_n 3, 1, 0, 0, 0), (351, .iconst 5, 1, 0, 0, 0), (352, .iadd, 1, 0, 0, 0), (353, .iaload, 1, 0, 0, 0), (354, .invokevirtual 13, 3, 112, 5, 0), (357, .pop, 1, 0, 0, 0), (358, .aload_n 2, 1, 0, 0, 0), (359, .aload_n 0, 1, 0, 0, 0), (360, .iload_n 3, 1, 0, 0, 0), (361, .iconst 1, 1, 0, 0, 0), (362, .iadd, 1, 0, 0, 0), (363, .iaload, 1, 0, 0, 0), (364, .aload_n 0, 1, 0, 0, 0), (365, .iload_n 3, 1, 0, 0, 0), (366, .iconst 2, 1, 0, 0, 0), (367, .iadd, 1, 0, 0, 0), (368, .iaload, 1, 0, 0, 0), (369, .aload_n 0, 1, 0, 0, 0), (370, .iload_n 3, 1, 0, 0, 0), (371, .iconst 3, 1, 0, 0, 0)]
noncomputable def k_law_2 : List xR := [(372, .iadd, 1, 0, 0, 0), (373, .iaload, 1, 0, 0, 0), (374, .aload_n 0, 1, 0, 0, 0), (375, .iload_n 3, 1, 0, 0, 0), (376, .iconst 4, 1, 0, 0, 0), (377, .iadd, 1, 0, 0, 0), (378, .iaload, 1, 0, 0, 0), (379, .aload_n 0, 1, 0, 0, 0), (380, .iload_n 3, 1, 0, 0, 0), (381, .iconst 5, 1, 0, 0, 0), (382, .iadd, 1, 0, 0, 0), (383, .iaload, 1, 0, 0, 0), (384, .invokevirtual 17, 3, 208, 5, 0), (387, .pop, 1, 0, 0, 0), (388, .goto 1980, 3, 0, 0, 0), (391, .aload_n 1, 1, 0, 0, 0), (392, .aload_n 0, 1, 0, 0, 0), (393, .iload_n 3, 1, 0, 0, 0), (394, .iconst 1, 1, 0, 0, 0), (395, .iadd, 1, 0, 0, 0), (396, .iaload, 1, 0, 0, 0), (397, .invokevirtual 18, 3, 113, 1, 0), (400, .pop, 1, 0, 0, 0), (401, .aload_n 2, 1, 0, 0, 0), (402, .aload_n 0, 1, 0, 0, 0), (403, .iload_n 3, 1, 0, 0, 0), (404, .iconst 1, 1, 0, 0, 0), (405, .iadd, 1, 0, 0, 0), (406, .iaload, 1, 0, 0, 0), (407, .invokevirtual 22, 3, 209, 1, 0), (410, .pop, 1, 0, 0, 0), (411, .goto 1957, 3, 0, 0, 0)]
noncomputable def k_law_3 : List xR := [(414, .aload_n 1, 1, 0, 0, 0), (415, .invokevirtual 23, 3, 114, 0, 0), (418, .pop, 1, 0, 0, 0), (419, .aload_n 2, 1, 0, 0, 0), (420, .invokevirtual 27, 3, 232, 0, 0), (423, .pop, 1, 0, 0, 0), (424, .goto 1944, 3, 0, 0, 0), (427, .aload_n 1, 1, 0, 0, 0), (428, .aload_n 0, 1, 0, 0, 0), (429, .iload_n 3, 1, 0, 0, 0), (430, .iconst 1, 1, 0, 0, 0), (431, .iadd, 1, 0, 0, 0), (432, .iaload, 1, 0, 0, 0), (433, .invokevirtual 28, 3, 115, 1, 0), (436, .pop, 1, 0, 0, 0), (437, .aload_n 2, 1, 0, 0, 0), (438, .aload_n 0, 1, 0, 0, 0), (439, .iload_n 3, 1, 0, 0, 0), (440, .iconst 1, 1, 0, 0, 0), (441, .iadd, 1, 0, 0, 0), (442, .iaload, 1, 0, 0, 0), (443, .invokevirtual 31, 3, 219, 1, 0), (446, .pop, 1, 0, 0, 0), (447, .goto 1921, 3, 0, 0, 0), (450, .aload_n 1, 1, 0, 0, 0), (451, .aload_n 0, 1, 0, 0, 0), (452, .iload_n 3, 1, 0, 0, 0), (453, .iconst 1, 1, 0, 0, 0), (454, .iadd, 1, 0, 0, 0), (455, .iaload, 1, 0, 0, 0), (456, .aload_n 0, 1, 0, 0, 0), (457, .iload_n 3, 1, 0, 0, 0)]
noncomputable def k_law_4 : List xR := [(458, .iconst 2, 1, 0, 0, 0), (459, .iadd, 1, 0, 0, 0), (460, .iaload, 1, 0, 0, 0), (461, .invokevirtual 32, 3, 116, 2, 0), (464, .pop, 1, 0, 0, 0), (465, .aload_n 2, 1, 0, 0, 0), (466, .aload_n 0, 1, 0, 0, 0), (467, .iload_n 3, 1, 0, 0, 0), (468, .iconst 1, 1, 0, 0, 0), (469, .iadd, 1, 0, 0, 0), (470, .iaload, 1, 0, 0, 0), (471, .aload_n 0, 1, 0, 0, 0), (472, .iload_n 3, 1, 0, 0, 0), (473, .iconst 2, 1, 0, 0, 0), (474, .iadd, 1, 0, 0, 0), (475, .iaload, 1, 0, 0, 0), (476, .invokevirtual 36, 3, 239, 2, 0), (479, .pop, 1, 0, 0, 0), (480, .goto 1888, 3, 0, 0, 0), (483, .aload_n 1, 1, 0, 0, 0), (484, .aload_n 0, 1, 0, 0, 0), (485, .iload_n 3, 1, 0, 0, 0), (486, .iconst 1, 1, 0, 0, 0), (487, .iadd, 1, 0, 0, 0), (488, .iaload, 1, 0, 0, 0), (489, .aload_n 0, 1, 0, 0, 0), (490, .iload_n 3, 1, 0, 0, 0), (491, .iconst 2, 1, 0, 0, 0), (492, .iadd, 1, 0, 0, 0), (493, .iaload, 1, 0, 0, 0), (494, .invokevirtual 37, 3, 117, 2, 0), (497, .pop, 1, 0, 0, 0)]
noncomputable def k_law_5 : List xR := [(498, .aload_n 2, 1, 0, 0, 0), (499, .aload_n 0, 1, 0, 0, 0), (500, .iload_n 3, 1, 0, 0, 0), (501, .iconst 1, 1, 0, 0, 0), (502, .iadd, 1, 0, 0, 0), (503, .iaload, 1, 0, 0, 0), (504, .aload_n 0, 1, 0, 0, 0), (505, .iload_n 3, 1, 0, 0, 0), (506, .iconst 2, 1, 0, 0, 0), (507, .iadd, 1, 0, 0, 0), (508, .iaload, 1, 0, 0, 0), (509, .invokevirtual 40, 3, 240, 2, 0), (512, .pop, 1, 0, 0, 0), (513, .goto 1855, 3, 0, 0, 0), (516, .aload_n 1, 1, 0, 0, 0), (517, .aload_n 0, 1, 0, 0, 0), (518, .iload_n 3, 1, 0, 0, 0), (519, .iconst 1, 1, 0, 0, 0), (520, .iadd, 1, 0, 0, 0), (521, .iaload, 1, 0, 0, 0), (522, .invokevirtual 41, 3, 118, 1, 0), (525, .pop, 1, 0, 0, 0), (526, .aload_n 2, 1, 0, 0, 0), (527, .aload_n 0, 1, 0, 0, 0), (528, .iload_n 3, 1, 0, 0, 0), (529, .iconst 1, 1, 0, 0, 0), (530, .iadd, 1, 0, 0, 0), (531, .iaload, 1, 0, 0, 0), (532, .invokevirtual 44, 3, 241, 1, 0), (535, .pop, 1, 0, 0, 0), (536, .goto 1832, 3, 0, 0, 0), (539, .aload_n 1, 1, 0, 0, 0)]
noncomputable def k_law_6 : List xR := [(540, .invokevirtual 45, 3, 120, 0, 0), (543, .pop, 1, 0, 0, 0), (544, .aload_n 2, 1, 0, 0, 0), (545, .invokevirtual 48, 3, 242, 0, 0), (548, .pop, 1, 0, 0, 0), (549, .goto 1819, 3, 0, 0, 0), (552, .aload_n 1, 1, 0, 0, 0), (553, .aload_n 0, 1, 0, 0, 0), (554, .iload_n 3, 1, 0, 0, 0), (555, .iconst 1, 1, 0, 0, 0), (556, .iadd, 1, 0, 0, 0), (557, .iaload, 1, 0, 0, 0), (558, .aload_n 0, 1, 0, 0, 0), (559, .iload_n 3, 1, 0, 0, 0), (560, .iconst 2, 1, 0, 0, 0), (561, .iadd, 1, 0, 0, 0), (562, .iaload, 1, 0, 0, 0), (563, .invokevirtual 49, 3, 121, 2, 0), (566, .pop, 1, 0, 0, 0), (567, .aload_n 2, 1, 0, 0, 0), (568, .aload_n 0, 1, 0, 0, 0), (569, .iload_n 3, 1, 0, 0, 0), (570, .iconst 1, 1, 0, 0, 0), (571, .iadd, 1, 0, 0, 0), (572, .iaload, 1, 0, 0, 0), (573, .aload_n 0, 1, 0, 0, 0), (574, .iload_n 3, 1, 0, 0, 0), (575, .iconst 2, 1, 0, 0, 0), (576, .iadd, 1, 0, 0, 0), (577, .iaload, 1, 0, 0, 0), (578, .invokevirtual 52, 3, 244, 2, 0), (581, .pop, 1, 0, 0, 0)]
noncomputable def k_law_7 : List xR := [(582, .goto 1786, 3, 0, 0, 0), (585, .aload_n 1, 1, 0, 0, 0), (586, .aload_n 0, 1, 0, 0, 0), (587, .iload_n 3, 1, 0, 0, 0), (588, .iconst 1, 1, 0, 0, 0), (589, .iadd, 1, 0, 0, 0), (590, .iaload, 1, 0, 0, 0), (591, .invokevirtual 53, 3, 122, 1, 0), (594, .pop, 1, 0, 0, 0), (595, .aload_n 2, 1, 0, 0, 0), (596, .aload_n 0, 1, 0, 0, 0), (597, .iload_n 3, 1, 0, 0, 0), (598, .iconst 1, 1, 0, 0, 0), (599, .iadd, 1, 0, 0, 0), (600, .iaload, 1, 0, 0, 0), (601, .invokevirtual 56, 3, 246, 1, 0), (604, .pop, 1, 0, 0, 0), (605, .goto 1763, 3, 0, 0, 0), (608, .aload_n 1, 1, 0, 0, 0), (609, .invokevirtual 57, 3, 123, 0, 0), (612, .pop, 1, 0, 0, 0), (613, .aload_n 2, 1, 0, 0, 0), (614, .invokevirtual 60, 3, 247, 0, 0), (617, .pop, 1, 0, 0, 0), (618, .goto 1750, 3, 0, 0, 0), (621, .aload_n 1, 1, 0, 0, 0), (622, .aload_n 0, 1, 0, 0, 0), (623, .iload_n 3, 1, 0, 0, 0), (624, .iconst 1, 1, 0, 0, 0), (625, .iadd, 1, 0, 0, 0), (626, .iaload, 1, 0, 0, 0), (627, .aload_n 0, 1, 0, 0, 0)]
noncomputable def k_law_8 : List xR := [(628, .iload_n 3, 1, 0, 0, 0), (629, .iconst 2, 1, 0, 0, 0), (630, .iadd, 1, 0, 0, 0), (631, .iaload, 1, 0, 0, 0), (632, .invokevirtual 61, 3, 124, 2, 0), (635, .pop, 1, 0, 0, 0), (636, .aload_n 2, 1, 0, 0, 0), (637, .aload_n 0, 1, 0, 0, 0), (638, .iload_n 3, 1, 0, 0, 0), (639, .iconst 1, 1, 0, 0, 0), (640, .iadd, 1, 0, 0, 0), (641, .iaload, 1, 0, 0, 0), (642, .aload_n 0, 1, 0, 0, 0), (643, .iload_n 3, 1, 0, 0, 0), (644, .iconst 2, 1, 0, 0, 0), (645, .iadd, 1, 0, 0, 0), (646, .iaload, 1, 0, 0, 0), (647, .invokevirtual 64, 3, 249, 2, 0), (650, .pop, 1, 0, 0, 0), (651, .goto 1717, 3, 0, 0, 0), (654, .aload_n 1, 1, 0, 0, 0), (655, .aload_n 0, 1, 0, 0, 0), (656, .iload_n 3, 1, 0, 0, 0), (657, .iconst 1, 1, 0, 0, 0), (658, .iadd, 1, 0, 0, 0), (659, .iaload, 1, 0, 0, 0), (660, .aload_n 0, 1, 0, 0, 0), (661, .iload_n 3, 1, 0, 0, 0), (662, .iconst 2, 1, 0, 0, 0), (663, .iadd, 1, 0, 0, 0), (664, .iaload, 1, 0, 0, 0), (665, .invokevirtual 65, 3, 125, 2, 0)]
noncomputable def k_law_9 : List xR := [(668, .pop, 1, 0, 0, 0), (669, .aload_n 2, 1, 0, 0, 0), (670, .aload_n 0, 1, 0, 0, 0), (671, .iload_n 3, 1, 0, 0, 0), (672, .iconst 1, 1, 0, 0, 0), (673, .iadd, 1, 0, 0, 0), (674, .iaload, 1, 0, 0, 0), (675, .aload_n 0, 1, 0, 0, 0), (676, .iload_n 3, 1, 0, 0, 0), (677, .iconst 2, 1, 0, 0, 0), (678, .iadd, 1, 0, 0, 0), (679, .iaload, 1, 0, 0, 0), (680, .invokevirtual 68, 3, 251, 2, 0), (683, .pop, 1, 0, 0, 0), (684, .goto 1684, 3, 0, 0, 0), (687, .aload_n 1, 1, 0, 0, 0), (688, .aload_n 0, 1, 0, 0, 0), (689, .iload_n 3, 1, 0, 0, 0), (690, .iconst 1, 1, 0, 0, 0), (691, .iadd, 1, 0, 0, 0), (692, .iaload, 1, 0, 0, 0), (693, .aload_n 0, 1, 0, 0, 0), (694, .iload_n 3, 1, 0, 0, 0), (695, .iconst 2, 1, 0, 0, 0), (696, .iadd, 1, 0, 0, 0), (697, .iaload, 1, 0, 0, 0), (698, .invokevirtual 69, 3, 126, 2, 0), (701, .pop, 1, 0, 0, 0), (702, .aload_n 2, 1, 0, 0, 0), (703, .aload_n 0, 1, 0, 0, 0), (704, .iload_n 3, 1, 0, 0, 0), (705, .iconst 1, 1, 0, 0, 0)]
noncomputable def k_law_10 : List xR := [(706, .iadd, 1, 0, 0, 0), (707, .iaload, 1, 0, 0, 0), (708, .aload_n 0, 1, 0, 0, 0), (709, .iload_n 3, 1, 0, 0, 0), (710, .iconst 2, 1, 0, 0, 0), (711, .iadd, 1, 0, 0, 0), (712, .iaload, 1, 0, 0, 0), (713, .invokevirtual 72, 3, 254, 2, 0), (716, .pop, 1, 0, 0, 0), (717, .goto 1651, 3, 0, 0, 0), (720, .aload_n 1, 1, 0, 0, 0), (721, .aload_n 0, 1, 0, 0, 0), (722, .iload_n 3, 1, 0, 0, 0), (723, .iconst 1, 1, 0, 0, 0), (724, .iadd, 1, 0, 0, 0), (725, .iaload, 1, 0, 0, 0), (726, .invokevirtual 73, 3, 127, 1, 0), (729, .pop, 1, 0, 0, 0), (730, .aload_n 2, 1, 0, 0, 0), (731, .aload_n 0, 1, 0, 0, 0), (732, .iload_n 3, 1, 0, 0, 0), (733, .iconst 1, 1, 0, 0, 0), (734, .iadd, 1, 0, 0, 0), (735, .iaload, 1, 0, 0, 0), (736, .invokevirtual 76, 3, 260, 1, 0), (739, .pop, 1, 0, 0, 0), (740, .goto 1628, 3, 0, 0, 0), (743, .aload_n 1, 1, 0, 0, 0), (744, .aload_n 0, 1, 0, 0, 0), (745, .iload_n 3, 1, 0, 0, 0), (746, .iconst 1, 1, 0, 0, 0), (747, .iadd, 1, 0, 0, 0)]
noncomputable def k_law_11 : List xR := [(748, .iaload, 1, 0, 0, 0), (749, .aload_n 0, 1, 0, 0, 0), (750, .iload_n 3, 1, 0, 0, 0), (751, .iconst 2, 1, 0, 0, 0), (752, .iadd, 1, 0, 0, 0), (753, .iaload, 1, 0, 0, 0), (754, .invokevirtual 77, 3, 128, 2, 0), (757, .pop, 1, 0, 0, 0), (758, .aload_n 2, 1, 0, 0, 0), (759, .aload_n 0, 1, 0, 0, 0), (760, .iload_n 3, 1, 0, 0, 0), (761, .iconst 1, 1, 0, 0, 0), (762, .iadd, 1, 0, 0, 0), (763, .iaload, 1, 0, 0, 0), (764, .aload_n 0, 1, 0, 0, 0), (765, .iload_n 3, 1, 0, 0, 0), (766, .iconst 2, 1, 0, 0, 0), (767, .iadd, 1, 0, 0, 0), (768, .iaload, 1, 0, 0, 0), (769, .invokevirtual 80, 3, 261, 2, 0), (772, .pop, 1, 0, 0, 0), (773, .goto 1595, 3, 0, 0, 0), (776, .aload_n 1, 1, 0, 0, 0), (777, .aload_n 0, 1, 0, 0, 0), (778, .iload_n 3, 1, 0, 0, 0), (779, .iconst 1, 1, 0, 0, 0), (780, .iadd, 1, 0, 0, 0), (781, .iaload, 1, 0, 0, 0), (782, .aload_n 0, 1, 0, 0, 0), (783, .iload_n 3, 1, 0, 0, 0), (784, .iconst 2, 1, 0, 0, 0), (785, .iadd, 1, 0, 0, 0)]
noncomputable def k_law_12 : List xR := [(786, .iaload, 1, 0, 0, 0), (787, .invokevirtual 81, 3, 129, 2, 0), (790, .pop, 1, 0, 0, 0), (791, .aload_n 2, 1, 0, 0, 0), (792, .aload_n 0, 1, 0, 0, 0), (793, .iload_n 3, 1, 0, 0, 0), (794, .iconst 1, 1, 0, 0, 0), (795, .iadd, 1, 0, 0, 0), (796, .iaload, 1, 0, 0, 0), (797, .aload_n 0, 1, 0, 0, 0), (798, .iload_n 3, 1, 0, 0, 0), (799, .iconst 2, 1, 0, 0, 0), (800, .iadd, 1, 0, 0, 0), (801, .iaload, 1, 0, 0, 0), (802, .invokevirtual 84, 3, 262, 2, 0), (805, .pop, 1, 0, 0, 0), (806, .goto 1562, 3, 0, 0, 0), (809, .aload_n 1, 1, 0, 0, 0), (810, .aload_n 0, 1, 0, 0, 0), (811, .iload_n 3, 1, 0, 0, 0), (812, .iconst 1, 1, 0, 0, 0), (813, .iadd, 1, 0, 0, 0), (814, .iaload, 1, 0, 0, 0), (815, .aload_n 0, 1, 0, 0, 0), (816, .iload_n 3, 1, 0, 0, 0), (817, .iconst 2, 1, 0, 0, 0), (818, .iadd, 1, 0, 0, 0), (819, .iaload, 1, 0, 0, 0), (820, .invokevirtual 85, 3, 130, 2, 0), (823, .pop, 1, 0, 0, 0), (824, .aload_n 2, 1, 0, 0, 0), (825, .aload_n 0, 1, 0, 0, 0)]
noncomputable def k_law_13 : List xR := [(826, .iload_n 3, 1, 0, 0, 0), (827, .iconst 1, 1, 0, 0, 0), (828, .iadd, 1, 0, 0, 0), (829, .iaload, 1, 0, 0, 0), (830, .aload_n 0, 1, 0, 0, 0), (831, .iload_n 3, 1, 0, 0, 0), (832, .iconst 2, 1, 0, 0, 0), (833, .iadd, 1, 0, 0, 0), (834, .iaload, 1, 0, 0, 0), (835, .invokevirtual 88, 3, 263, 2, 0), (838, .pop, 1, 0, 0, 0), (839, .goto 1529, 3, 0, 0, 0), (842, .aload_n 1, 1, 0, 0, 0), (843, .aload_n 0, 1, 0, 0, 0), (844, .iload_n 3, 1, 0, 0, 0), (845, .iconst 1, 1, 0, 0, 0), (846, .iadd, 1, 0, 0, 0), (847, .iaload, 1, 0, 0, 0), (848, .invokevirtual 89, 3, 131, 1, 0), (851, .pop, 1, 0, 0, 0), (852, .aload_n 2, 1, 0, 0, 0), (853, .aload_n 0, 1, 0, 0, 0), (854, .iload_n 3, 1, 0, 0, 0), (855, .iconst 1, 1, 0, 0, 0), (856, .iadd, 1, 0, 0, 0), (857, .iaload, 1, 0, 0, 0), (858, .invokevirtual 92, 3, 264, 1, 0), (861, .pop, 1, 0, 0, 0), (862, .goto 1506, 3, 0, 0, 0), (865, .aload_n 1, 1, 0, 0, 0), (866, .aload_n 0, 1, 0, 0, 0), (867, .iload_n 3, 1, 0, 0, 0)]
noncomputable def k_law_14 : List xR := [(868, .iconst 1, 1, 0, 0, 0), (869, .iadd, 1, 0, 0, 0), (870, .iaload, 1, 0, 0, 0), (871, .invokevirtual 93, 3, 132, 1, 0), (874, .pop, 1, 0, 0, 0), (875, .aload_n 2, 1, 0, 0, 0), (876, .aload_n 0, 1, 0, 0, 0), (877, .iload_n 3, 1, 0, 0, 0), (878, .iconst 1, 1, 0, 0, 0), (879, .iadd, 1, 0, 0, 0), (880, .iaload, 1, 0, 0, 0), (881, .invokevirtual 96, 3, 265, 1, 0), (884, .pop, 1, 0, 0, 0), (885, .goto 1483, 3, 0, 0, 0), (888, .aload_n 1, 1, 0, 0, 0), (889, .aload_n 0, 1, 0, 0, 0), (890, .iload_n 3, 1, 0, 0, 0), (891, .iconst 1, 1, 0, 0, 0), (892, .iadd, 1, 0, 0, 0), (893, .iaload, 1, 0, 0, 0), (894, .invokevirtual 97, 3, 133, 1, 0), (897, .pop, 1, 0, 0, 0), (898, .aload_n 2, 1, 0, 0, 0), (899, .aload_n 0, 1, 0, 0, 0), (900, .iload_n 3, 1, 0, 0, 0), (901, .iconst 1, 1, 0, 0, 0), (902, .iadd, 1, 0, 0, 0), (903, .iaload, 1, 0, 0, 0), (904, .invokevirtual 100, 3, 271, 1, 0), (907, .pop, 1, 0, 0, 0), (908, .goto 1460, 3, 0, 0, 0), (911, .aload_n 1, 1, 0, 0, 0)]
noncomputable def k_law_15 : List xR := [(912, .aload_n 0, 1, 0, 0, 0), (913, .iload_n 3, 1, 0, 0, 0), (914, .iconst 1, 1, 0, 0, 0), (915, .iadd, 1, 0, 0, 0), (916, .iaload, 1, 0, 0, 0), (917, .aload_n 0, 1, 0, 0, 0), (918, .iload_n 3, 1, 0, 0, 0), (919, .iconst 2, 1, 0, 0, 0), (920, .iadd, 1, 0, 0, 0), (921, .iaload, 1, 0, 0, 0), (922, .invokevirtual 101, 3, 134, 2, 0), (925, .pop, 1, 0, 0, 0), (926, .aload_n 2, 1, 0, 0, 0), (927, .aload_n 0, 1, 0, 0, 0), (928, .iload_n 3, 1, 0, 0, 0), (929, .iconst 1, 1, 0, 0, 0), (930, .iadd, 1, 0, 0, 0), (931, .iaload, 1, 0, 0, 0), (932, .aload_n 0, 1, 0, 0, 0), (933, .iload_n 3, 1, 0, 0, 0), (934, .iconst 2, 1, 0, 0, 0), (935, .iadd, 1, 0, 0, 0), (936, .iaload, 1, 0, 0, 0), (937, .invokevirtual 104, 3, 272, 2, 0), (940, .pop, 1, 0, 0, 0), (941, .goto 1427, 3, 0, 0, 0), (944, .aload_n 1, 1, 0, 0, 0), (945, .aload_n 0, 1, 0, 0, 0), (946, .iload_n 3, 1, 0, 0, 0), (947, .iconst 1, 1, 0, 0, 0), (948, .iadd, 1, 0, 0, 0), (949, .iaload, 1, 0, 0, 0)]
noncomputable def k_law_16 : List xR := [(950, .aload_n 0, 1, 0, 0, 0), (951, .iload_n 3, 1, 0, 0, 0), (952, .iconst 2, 1, 0, 0, 0), (953, .iadd, 1, 0, 0, 0), (954, .iaload, 1, 0, 0, 0), (955, .invokevirtual 105, 3, 135, 2, 0), (958, .pop, 1, 0, 0, 0), (959, .aload_n 2, 1, 0, 0, 0), (960, .aload_n 0, 1, 0, 0, 0), (961, .iload_n 3, 1, 0, 0, 0), (962, .iconst 1, 1, 0, 0, 0), (963, .iadd, 1, 0, 0, 0), (964, .iaload, 1, 0, 0, 0), (965, .aload_n 0, 1, 0, 0, 0), (966, .iload_n 3, 1, 0, 0, 0), (967, .iconst 2, 1, 0, 0, 0), (968, .iadd, 1, 0, 0, 0), (969, .iaload, 1, 0, 0, 0), (970, .invokevirtual 108, 3, 274, 2, 0), (973, .pop, 1, 0, 0, 0), (974, .goto 1394, 3, 0, 0, 0), (977, .aload_n 1, 1, 0, 0, 0), (978, .aload_n 0, 1, 0, 0, 0), (979, .iload_n 3, 1, 0, 0, 0), (980, .iconst 1, 1, 0, 0, 0), (981, .iadd, 1, 0, 0, 0), (982, .iaload, 1, 0, 0, 0), (983, .invokevirtual 109, 3, 136, 1, 0), (986, .pop, 1, 0, 0, 0), (987, .aload_n 2, 1, 0, 0, 0), (988, .aload_n 0, 1, 0, 0, 0), (989, .iload_n 3, 1, 0, 0, 0)]
noncomputable def k_law_17 : List xR := [(990, .iconst 1, 1, 0, 0, 0), (991, .iadd, 1, 0, 0, 0), (992, .iaload, 1, 0, 0, 0), (993, .invokevirtual 112, 3, 275, 1, 0), (996, .pop, 1, 0, 0, 0), (997, .goto 1371, 3, 0, 0, 0), (1000, .aload_n 1, 1, 0, 0, 0), (1001, .aload_n 0, 1, 0, 0, 0), (1002, .iload_n 3, 1, 0, 0, 0), (1003, .iconst 1, 1, 0, 0, 0), (1004, .iadd, 1, 0, 0, 0), (1005, .iaload, 1, 0, 0, 0), (1006, .aload_n 0, 1, 0, 0, 0), (1007, .iload_n 3, 1, 0, 0, 0), (1008, .iconst 2, 1, 0, 0, 0), (1009, .iadd, 1, 0, 0, 0), (1010, .iaload, 1, 0, 0, 0), (1011, .invokevirtual 113, 3, 137, 2, 0), (1014, .pop, 1, 0, 0, 0), (1015, .aload_n 2, 1, 0, 0, 0), (1016, .aload_n 0, 1, 0, 0, 0), (1017, .iload_n 3, 1, 0, 0, 0), (1018, .iconst 1, 1, 0, 0, 0), (1019, .iadd, 1, 0, 0, 0), (1020, .iaload, 1, 0, 0, 0), (1021, .aload_n 0, 1, 0, 0, 0), (1022, .iload_n 3, 1, 0, 0, 0), (1023, .iconst 2, 1, 0, 0, 0), (1024, .iadd, 1, 0, 0, 0), (1025, .iaload, 1, 0, 0, 0), (1026, .invokevirtual 116, 3, 277, 2, 0), (1029, .pop, 1, 0, 0, 0)]
noncomputable def k_law_18 : List xR := [(1030, .goto 1338, 3, 0, 0, 0), (1033, .aload_n 1, 1, 0, 0, 0), (1034, .aload_n 0, 1, 0, 0, 0), (1035, .iload_n 3, 1, 0, 0, 0), (1036, .iconst 1, 1, 0, 0, 0), (1037, .iadd, 1, 0, 0, 0), (1038, .iaload, 1, 0, 0, 0), (1039, .aload_n 0, 1, 0, 0, 0), (1040, .iload_n 3, 1, 0, 0, 0), (1041, .iconst 2, 1, 0, 0, 0), (1042, .iadd, 1, 0, 0, 0), (1043, .iaload, 1, 0, 0, 0), (1044, .invokevirtual 117, 3, 140, 2, 0), (1047, .pop, 1, 0, 0, 0), (1048, .aload_n 2, 1, 0, 0, 0), (1049, .aload_n 0, 1, 0, 0, 0), (1050, .iload_n 3, 1, 0, 0, 0), (1051, .iconst 1, 1, 0, 0, 0), (1052, .iadd, 1, 0, 0, 0), (1053, .iaload, 1, 0, 0, 0), (1054, .aload_n 0, 1, 0, 0, 0), (1055, .iload_n 3, 1, 0, 0, 0), (1056, .iconst 2, 1, 0, 0, 0), (1057, .iadd, 1, 0, 0, 0), (1058, .iaload, 1, 0, 0, 0), (1059, .invokevirtual 120, 3, 281, 2, 0), (1062, .pop, 1, 0, 0, 0), (1063, .goto 1305, 3, 0, 0, 0), (1066, .aload_n 1, 1, 0, 0, 0), (1067, .aload_n 0, 1, 0, 0, 0), (1068, .iload_n 3, 1, 0, 0, 0), (1069, .iconst 1, 1, 0, 0, 0)]
noncomputable def k_law_19 : List xR := [(1070, .iadd, 1, 0, 0, 0), (1071, .iaload, 1, 0, 0, 0), (1072, .invokevirtual 121, 3, 141, 1, 0), (1075, .pop, 1, 0, 0, 0), (1076, .aload_n 2, 1, 0, 0, 0), (1077, .aload_n 0, 1, 0, 0, 0), (1078, .iload_n 3, 1, 0, 0, 0), (1079, .iconst 1, 1, 0, 0, 0), (1080, .iadd, 1, 0, 0, 0), (1081, .iaload, 1, 0, 0, 0), (1082, .invokevirtual 124, 3, 282, 1, 0), (1085, .pop, 1, 0, 0, 0), (1086, .goto 1282, 3, 0, 0, 0), (1089, .aload_n 1, 1, 0, 0, 0), (1090, .aload_n 0, 1, 0, 0, 0), (1091, .iload_n 3, 1, 0, 0, 0), (1092, .iconst 1, 1, 0, 0, 0), (1093, .iadd, 1, 0, 0, 0), (1094, .iaload, 1, 0, 0, 0), (1095, .aload_n 0, 1, 0, 0, 0), (1096, .iload_n 3, 1, 0, 0, 0), (1097, .iconst 2, 1, 0, 0, 0), (1098, .iadd, 1, 0, 0, 0), (1099, .iaload, 1, 0, 0, 0), (1100, .invokevirtual 125, 3, 142, 2, 0), (1103, .pop, 1, 0, 0, 0), (1104, .aload_n 2, 1, 0, 0, 0), (1105, .aload_n 0, 1, 0, 0, 0), (1106, .iload_n 3, 1, 0, 0, 0), (1107, .iconst 1, 1, 0, 0, 0), (1108, .iadd, 1, 0, 0, 0), (1109, .iaload, 1, 0, 0, 0)]
noncomputable def k_law_20 : List xR := [(1110, .aload_n 0, 1, 0, 0, 0), (1111, .iload_n 3, 1, 0, 0, 0), (1112, .iconst 2, 1, 0, 0, 0), (1113, .iadd, 1, 0, 0, 0), (1114, .iaload, 1, 0, 0, 0), (1115, .invokevirtual 128, 3, 284, 2, 0), (1118, .pop, 1, 0, 0, 0), (1119, .goto 1249, 3, 0, 0, 0), (1122, .aload_n 1, 1, 0, 0, 0), (1123, .aload_n 0, 1, 0, 0, 0), (1124, .iload_n 3, 1, 0, 0, 0), (1125, .iconst 1, 1, 0, 0, 0), (1126, .iadd, 1, 0, 0, 0), (1127, .iaload, 1, 0, 0, 0), (1128, .invokevirtual 129, 3, 143, 1, 0), (1131, .pop, 1, 0, 0, 0), (1132, .aload_n 2, 1, 0, 0, 0), (1133, .aload_n 0, 1, 0, 0, 0), (1134, .iload_n 3, 1, 0, 0, 0), (1135, .iconst 1, 1, 0, 0, 0), (1136, .iadd, 1, 0, 0, 0), (1137, .iaload, 1, 0, 0, 0), (1138, .invokevirtual 132, 3, 286, 1, 0), (1141, .pop, 1, 0, 0, 0), (1142, .goto 1226, 3, 0, 0, 0), (1145, .aload_n 1, 1, 0, 0, 0), (1146, .aload_n 0, 1, 0, 0, 0), (1147, .iload_n 3, 1, 0, 0, 0), (1148, .iconst 1, 1, 0, 0, 0), (1149, .iadd, 1, 0, 0, 0), (1150, .iaload, 1, 0, 0, 0), (1151, .invokevirtual 133, 3, 138, 1, 0)]
noncomputable def k_law_21 : List xR := [(1154, .pop, 1, 0, 0, 0), (1155, .aload_n 2, 1, 0, 0, 0), (1156, .aload_n 0, 1, 0, 0, 0), (1157, .iload_n 3, 1, 0, 0, 0), (1158, .iconst 1, 1, 0, 0, 0), (1159, .iadd, 1, 0, 0, 0), (1160, .iaload, 1, 0, 0, 0), (1161, .invokevirtual 136, 3, 288, 1, 0), (1164, .pop, 1, 0, 0, 0), (1165, .goto 1203, 3, 0, 0, 0), (1168, .aload_n 1, 1, 0, 0, 0), (1169, .aload_n 0, 1, 0, 0, 0), (1170, .iload_n 3, 1, 0, 0, 0), (1171, .iconst 1, 1, 0, 0, 0), (1172, .iadd, 1, 0, 0, 0), (1173, .iaload, 1, 0, 0, 0), (1174, .aload_n 0, 1, 0, 0, 0), (1175, .iload_n 3, 1, 0, 0, 0), (1176, .iconst 2, 1, 0, 0, 0), (1177, .iadd, 1, 0, 0, 0), (1178, .iaload, 1, 0, 0, 0), (1179, .invokevirtual 137, 3, 144, 2, 0), (1182, .pop2, 1, 0, 0, 0), (1183, .aload_n 2, 1, 0, 0, 0), (1184, .aload_n 0, 1, 0, 0, 0), (1185, .iload_n 3, 1, 0, 0, 0), (1186, .iconst 1, 1, 0, 0, 0), (1187, .iadd, 1, 0, 0, 0), (1188, .iaload, 1, 0, 0, 0), (1189, .aload_n 0, 1, 0, 0, 0), (1190, .iload_n 3, 1, 0, 0, 0), (1191, .iconst 2, 1, 0, 0, 0)]
noncomputable def k_law_22 : List xR := [(1192, .iadd, 1, 0, 0, 0), (1193, .iaload, 1, 0, 0, 0), (1194, .invokevirtual 141, 3, 293, 2, 0), (1197, .pop2, 1, 0, 0, 0), (1198, .goto 1170, 3, 0, 0, 0), (1201, .aload_n 1, 1, 0, 0, 0), (1202, .aload_n 0, 1, 0, 0, 0), (1203, .iload_n 3, 1, 0, 0, 0), (1204, .iconst 1, 1, 0, 0, 0), (1205, .iadd, 1, 0, 0, 0), (1206, .iaload, 1, 0, 0, 0), (1207, .aload_n 0, 1, 0, 0, 0), (1208, .iload_n 3, 1, 0, 0, 0), (1209, .iconst 2, 1, 0, 0, 0), (1210, .iadd, 1, 0, 0, 0), (1211, .iaload, 1, 0, 0, 0), (1212, .aload_n 0, 1, 0, 0, 0), (1213, .iload_n 3, 1, 0, 0, 0), (1214, .iconst 3, 1, 0, 0, 0), (1215, .iadd, 1, 0, 0, 0), (1216, .iaload, 1, 0, 0, 0), (1217, .invokevirtual 142, 3, 145, 3, 0), (1220, .pop2, 1, 0, 0, 0), (1221, .aload_n 2, 1, 0, 0, 0), (1222, .aload_n 0, 1, 0, 0, 0), (1223, .iload_n 3, 1, 0, 0, 0), (1224, .iconst 1, 1, 0, 0, 0), (1225, .iadd, 1, 0, 0, 0), (1226, .iaload, 1, 0, 0, 0), (1227, .aload_n 0, 1, 0, 0, 0), (1228, .iload_n 3, 1, 0, 0, 0), (1229, .iconst 2, 1, 0, 0, 0)]
noncomputable def k_law_23 : List xR := [(1230, .iadd, 1, 0, 0, 0), (1231, .iaload, 1, 0, 0, 0), (1232, .aload_n 0, 1, 0, 0, 0), (1233, .iload_n 3, 1, 0, 0, 0), (1234, .iconst 3, 1, 0, 0, 0), (1235, .iadd, 1, 0, 0, 0), (1236, .iaload, 1, 0, 0, 0), (1237, .invokevirtual 146, 3, 294, 3, 0), (1240, .pop2, 1, 0, 0, 0), (1241, .goto 1127, 3, 0, 0, 0), (1244, .aload_n 1, 1, 0, 0, 0), (1245, .aload_n 0, 1, 0, 0, 0), (1246, .iload_n 3, 1, 0, 0, 0), (1247, .iconst 1, 1, 0, 0, 0), (1248, .iadd, 1, 0, 0, 0), (1249, .iaload, 1, 0, 0, 0), (1250, .invokevirtual 147, 3, 146, 1, 0), (1253, .pop, 1, 0, 0, 0), (1254, .aload_n 2, 1, 0, 0, 0), (1255, .aload_n 0, 1, 0, 0, 0), (1256, .iload_n 3, 1, 0, 0, 0), (1257, .iconst 1, 1, 0, 0, 0), (1258, .iadd, 1, 0, 0, 0), (1259, .iaload, 1, 0, 0, 0), (1260, .invokevirtual 150, 3, 295, 1, 0), (1263, .pop, 1, 0, 0, 0), (1264, .goto 1104, 3, 0, 0, 0), (1267, .aload_n 1, 1, 0, 0, 0), (1268, .aload_n 0, 1, 0, 0, 0), (1269, .iload_n 3, 1, 0, 0, 0), (1270, .iconst 1, 1, 0, 0, 0), (1271, .iadd, 1, 0, 0, 0)]
noncomputable def k_law_24 : List xR := [(1272, .iaload, 1, 0, 0, 0), (1273, .invokevirtual 151, 3, 147, 1, 0), (1276, .pop, 1, 0, 0, 0), (1277, .aload_n 2, 1, 0, 0, 0), (1278, .aload_n 0, 1, 0, 0, 0), (1279, .iload_n 3, 1, 0, 0, 0), (1280, .iconst 1, 1, 0, 0, 0), (1281, .iadd, 1, 0, 0, 0), (1282, .iaload, 1, 0, 0, 0), (1283, .invokevirtual 154, 3, 297, 1, 0), (1286, .pop, 1, 0, 0, 0), (1287, .goto 1081, 3, 0, 0, 0), (1290, .aload_n 1, 1, 0, 0, 0), (1291, .aload_n 0, 1, 0, 0, 0), (1292, .iload_n 3, 1, 0, 0, 0), (1293, .iconst 1, 1, 0, 0, 0), (1294, .iadd, 1, 0, 0, 0), (1295, .iaload, 1, 0, 0, 0), (1296, .invokevirtual 155, 3, 148, 1, 0), (1299, .pop, 1, 0, 0, 0), (1300, .aload_n 2, 1, 0, 0, 0), (1301, .aload_n 0, 1, 0, 0, 0), (1302, .iload_n 3, 1, 0, 0, 0), (1303, .iconst 1, 1, 0, 0, 0), (1304, .iadd, 1, 0, 0, 0), (1305, .iaload, 1, 0, 0, 0), (1306, .invokevirtual 158, 3, 302, 1, 0), (1309, .pop, 1, 0, 0, 0), (1310, .goto 1058, 3, 0, 0, 0), (1313, .aload_n 1, 1, 0, 0, 0), (1314, .aload_n 0, 1, 0, 0, 0), (1315, .iload_n 3, 1, 0, 0, 0)]
noncomputable def k_law_25 : List xR := [(1316, .iconst 1, 1, 0, 0, 0), (1317, .iadd, 1, 0, 0, 0), (1318, .iaload, 1, 0, 0, 0), (1319, .invokevirtual 159, 3, 149, 1, 0), (1322, .pop, 1, 0, 0, 0), (1323, .aload_n 2, 1, 0, 0, 0), (1324, .aload_n 0, 1, 0, 0, 0), (1325, .iload_n 3, 1, 0, 0, 0), (1326, .iconst 1, 1, 0, 0, 0), (1327, .iadd, 1, 0, 0, 0), (1328, .iaload, 1, 0, 0, 0), (1329, .invokevirtual 162, 3, 303, 1, 0), (1332, .pop, 1, 0, 0, 0), (1333, .goto 1035, 3, 0, 0, 0), (1336, .aload_n 1, 1, 0, 0, 0), (1337, .aload_n 0, 1, 0, 0, 0), (1338, .iload_n 3, 1, 0, 0, 0), (1339, .iconst 1, 1, 0, 0, 0), (1340, .iadd, 1, 0, 0, 0), (1341, .iaload, 1, 0, 0, 0), (1342, .invokevirtual 163, 3, 150, 1, 0), (1345, .pop, 1, 0, 0, 0), (1346, .aload_n 2, 1, 0, 0, 0), (1347, .aload_n 0, 1, 0, 0, 0), (1348, .iload_n 3, 1, 0, 0, 0), (1349, .iconst 1, 1, 0, 0, 0), (1350, .iadd, 1, 0, 0, 0), (1351, .iaload, 1, 0, 0, 0), (1352, .invokevirtual 166, 3, 304, 1, 0), (1355, .pop, 1, 0, 0, 0), (1356, .goto 1012, 3, 0, 0, 0), (1359, .aload_n 1, 1, 0, 0, 0)]
noncomputable def k_law_26 : List xR := [(1360, .aload_n 0, 1, 0, 0, 0), (1361, .iload_n 3, 1, 0, 0, 0), (1362, .iconst 1, 1, 0, 0, 0), (1363, .iadd, 1, 0, 0, 0), (1364, .iaload, 1, 0, 0, 0), (1365, .invokevirtual 167, 3, 151, 1, 0), (1368, .pop, 1, 0, 0, 0), (1369, .aload_n 2, 1, 0, 0, 0), (1370, .aload_n 0, 1, 0, 0, 0), (1371, .iload_n 3, 1, 0, 0, 0), (1372, .iconst 1, 1, 0, 0, 0), (1373, .iadd, 1, 0, 0, 0), (1374, .iaload, 1, 0, 0, 0), (1375, .invokevirtual 170, 3, 306, 1, 0), (1378, .pop, 1, 0, 0, 0), (1379, .goto 989, 3, 0, 0, 0), (1382, .aload_n 1, 1, 0, 0, 0), (1383, .aload_n 0, 1, 0, 0, 0), (1384, .iload_n 3, 1, 0, 0, 0), (1385, .iconst 1, 1, 0, 0, 0), (1386, .iadd, 1, 0, 0, 0), (1387, .iaload, 1, 0, 0, 0), (1388, .aload_n 0, 1, 0, 0, 0), (1389, .iload_n 3, 1, 0, 0, 0), (1390, .iconst 2, 1, 0, 0, 0), (1391, .iadd, 1, 0, 0, 0), (1392, .iaload, 1, 0, 0, 0), (1393, .invokevirtual 171, 3, 152, 2, 0), (1396, .pop, 1, 0, 0, 0), (1397, .aload_n 2, 1, 0, 0, 0), (1398, .aload_n 0, 1, 0, 0, 0), (1399, .iload_n 3, 1, 0, 0, 0)]
noncomputable def k_law_27 : List xR := [(1400, .iconst 1, 1, 0, 0, 0), (1401, .iadd, 1, 0, 0, 0), (1402, .iaload, 1, 0, 0, 0), (1403, .aload_n 0, 1, 0, 0, 0), (1404, .iload_n 3, 1, 0, 0, 0), (1405, .iconst 2, 1, 0, 0, 0), (1406, .iadd, 1, 0, 0, 0), (1407, .iaload, 1, 0, 0, 0), (1408, .invokevirtual 174, 3, 307, 2, 0), (1411, .pop, 1, 0, 0, 0), (1412, .goto 956, 3, 0, 0, 0), (1415, .aload_n 1, 1, 0, 0, 0), (1416, .aload_n 0, 1, 0, 0, 0), (1417, .iload_n 3, 1, 0, 0, 0), (1418, .iconst 1, 1, 0, 0, 0), (1419, .iadd, 1, 0, 0, 0), (1420, .iaload, 1, 0, 0, 0), (1421, .invokevirtual 175, 3, 153, 1, 0), (1424, .pop, 1, 0, 0, 0), (1425, .aload_n 2, 1, 0, 0, 0), (1426, .aload_n 0, 1, 0, 0, 0), (1427, .iload_n 3, 1, 0, 0, 0), (1428, .iconst 1, 1, 0, 0, 0), (1429, .iadd, 1, 0, 0, 0), (1430, .iaload, 1, 0, 0, 0), (1431, .invokevirtual 178, 3, 308, 1, 0), (1434, .pop, 1, 0, 0, 0), (1435, .goto 933, 3, 0, 0, 0), (1438, .aload_n 1, 1, 0, 0, 0), (1439, .aload_n 0, 1, 0, 0, 0), (1440, .iload_n 3, 1, 0, 0, 0), (1441, .iconst 1, 1, 0, 0, 0)]
noncomputable def k_law_28 : List xR := [(1442, .iadd, 1, 0, 0, 0), (1443, .iaload, 1, 0, 0, 0), (1444, .invokevirtual 179, 3, 154, 1, 0), (1447, .pop, 1, 0, 0, 0), (1448, .aload_n 2, 1, 0, 0, 0), (1449, .aload_n 0, 1, 0, 0, 0), (1450, .iload_n 3, 1, 0, 0, 0), (1451, .iconst 1, 1, 0, 0, 0), (1452, .iadd, 1, 0, 0, 0), (1453, .iaload, 1, 0, 0, 0), (1454, .invokevirtual 182, 3, 311, 1, 0), (1457, .pop, 1, 0, 0, 0), (1458, .goto 910, 3, 0, 0, 0), (1461, .aload_n 1, 1, 0, 0, 0), (1462, .invokevirtual 183, 3, 155, 0, 0), (1465, .pop, 1, 0, 0, 0), (1466, .aload_n 2, 1, 0, 0, 0), (1467, .invokevirtual 186, 3, 312, 0, 0), (1470, .pop, 1, 0, 0, 0), (1471, .goto 897, 3, 0, 0, 0), (1474, .aload_n 1, 1, 0, 0, 0), (1475, .aload_n 0, 1, 0, 0, 0), (1476, .iload_n 3, 1, 0, 0, 0), (1477, .iconst 1, 1, 0, 0, 0), (1478, .iadd, 1, 0, 0, 0), (1479, .iaload, 1, 0, 0, 0), (1480, .invokevirtual 187, 3, 156, 1, 0), (1483, .pop, 1, 0, 0, 0), (1484, .aload_n 2, 1, 0, 0, 0), (1485, .aload_n 0, 1, 0, 0, 0), (1486, .iload_n 3, 1, 0, 0, 0), (1487, .iconst 1, 1, 0, 0, 0)]
noncomputable def k_law_29 : List xR := [(1488, .iadd, 1, 0, 0, 0), (1489, .iaload, 1, 0, 0, 0), (1490, .invokevirtual 190, 3, 314, 1, 0), (1493, .pop, 1, 0, 0, 0), (1494, .goto 874, 3, 0, 0, 0), (1497, .aload_n 1, 1, 0, 0, 0), (1498, .aload_n 0, 1, 0, 0, 0), (1499, .iload_n 3, 1, 0, 0, 0), (1500, .iconst 1, 1, 0, 0, 0), (1501, .iadd, 1, 0, 0, 0), (1502, .iaload, 1, 0, 0, 0), (1503, .aload_n 0, 1, 0, 0, 0), (1504, .iload_n 3, 1, 0, 0, 0), (1505, .iconst 2, 1, 0, 0, 0), (1506, .iadd, 1, 0, 0, 0), (1507, .iaload, 1, 0, 0, 0), (1508, .invokevirtual 191, 3, 157, 2, 0), (1511, .pop, 1, 0, 0, 0), (1512, .aload_n 2, 1, 0, 0, 0), (1513, .aload_n 0, 1, 0, 0, 0), (1514, .iload_n 3, 1, 0, 0, 0), (1515, .iconst 1, 1, 0, 0, 0), (1516, .iadd, 1, 0, 0, 0), (1517, .iaload, 1, 0, 0, 0), (1518, .aload_n 0, 1, 0, 0, 0), (1519, .iload_n 3, 1, 0, 0, 0), (1520, .iconst 2, 1, 0, 0, 0), (1521, .iadd, 1, 0, 0, 0), (1522, .iaload, 1, 0, 0, 0), (1523, .invokevirtual 194, 3, 316, 2, 0), (1526, .pop, 1, 0, 0, 0), (1527, .goto 841, 3, 0, 0, 0)]
noncomputable def k_law_30 : List xR := [(1530, .aload_n 1, 1, 0, 0, 0), (1531, .aload_n 0, 1, 0, 0, 0), (1532, .iload_n 3, 1, 0, 0, 0), (1533, .iconst 1, 1, 0, 0, 0), (1534, .iadd, 1, 0, 0, 0), (1535, .iaload, 1, 0, 0, 0), (1536, .invokevirtual 195, 3, 158, 1, 0), (1539, .pop, 1, 0, 0, 0), (1540, .aload_n 2, 1, 0, 0, 0), (1541, .aload_n 0, 1, 0, 0, 0), (1542, .iload_n 3, 1, 0, 0, 0), (1543, .iconst 1, 1, 0, 0, 0), (1544, .iadd, 1, 0, 0, 0), (1545, .iaload, 1, 0, 0, 0), (1546, .invokevirtual 198, 3, 317, 1, 0), (1549, .pop, 1, 0, 0, 0), (1550, .goto 818, 3, 0, 0, 0), (1553, .aload_n 1, 1, 0, 0, 0), (1554, .aload_n 0, 1, 0, 0, 0), (1555, .iload_n 3, 1, 0, 0, 0), (1556, .iconst 1, 1, 0, 0, 0), (1557, .iadd, 1, 0, 0, 0), (1558, .iaload, 1, 0, 0, 0), (1559, .aload_n 0, 1, 0, 0, 0), (1560, .iload_n 3, 1, 0, 0, 0), (1561, .iconst 2, 1, 0, 0, 0), (1562, .iadd, 1, 0, 0, 0), (1563, .iaload, 1, 0, 0, 0), (1564, .aload_n 0, 1, 0, 0, 0), (1565, .iload_n 3, 1, 0, 0, 0), (1566, .iconst 3, 1, 0, 0, 0), (1567, .iadd, 1, 0, 0, 0)]
noncomputable def k_law_31 : List xR := [(1568, .iaload, 1, 0, 0, 0), (1569, .invokevirtual 199, 3, 159, 3, 0), (1572, .pop, 1, 0, 0, 0), (1573, .aload_n 2, 1, 0, 0, 0), (1574, .aload_n 0, 1, 0, 0, 0), (1575, .iload_n 3, 1, 0, 0, 0), (1576, .iconst 1, 1, 0, 0, 0), (1577, .iadd, 1, 0, 0, 0), (1578, .iaload, 1, 0, 0, 0), (1579, .aload_n 0, 1, 0, 0, 0), (1580, .iload_n 3, 1, 0, 0, 0), (1581, .iconst 2, 1, 0, 0, 0), (1582, .iadd, 1, 0, 0, 0), (1583, .iaload, 1, 0, 0, 0), (1584, .aload_n 0, 1, 0, 0, 0), (1585, .iload_n 3, 1, 0, 0, 0), (1586, .iconst 3, 1, 0, 0, 0), (1587, .iadd, 1, 0, 0, 0), (1588, .iaload, 1, 0, 0, 0), (1589, .invokevirtual 203, 3, 319, 3, 0), (1592, .pop, 1, 0, 0, 0), (1593, .goto 775, 3, 0, 0, 0), (1596, .aload_n 1, 1, 0, 0, 0), (1597, .aload_n 0, 1, 0, 0, 0), (1598, .iload_n 3, 1, 0, 0, 0), (1599, .iconst 1, 1, 0, 0, 0), (1600, .iadd, 1, 0, 0, 0), (1601, .iaload, 1, 0, 0, 0), (1602, .invokevirtual 204, 3, 160, 1, 0), (1605, .pop, 1, 0, 0, 0), (1606, .aload_n 2, 1, 0, 0, 0), (1607, .aload_n 0, 1, 0, 0, 0)]
noncomputable def k_law_32 : List xR := [(1608, .iload_n 3, 1, 0, 0, 0), (1609, .iconst 1, 1, 0, 0, 0), (1610, .iadd, 1, 0, 0, 0), (1611, .iaload, 1, 0, 0, 0), (1612, .invokevirtual 207, 3, 321, 1, 0), (1615, .pop, 1, 0, 0, 0), (1616, .goto 752, 3, 0, 0, 0), (1619, .aload_n 1, 1, 0, 0, 0), (1620, .aload_n 0, 1, 0, 0, 0), (1621, .iload_n 3, 1, 0, 0, 0), (1622, .iconst 1, 1, 0, 0, 0), (1623, .iadd, 1, 0, 0, 0), (1624, .iaload, 1, 0, 0, 0), (1625, .invokevirtual 208, 3, 161, 1, 0), (1628, .pop, 1, 0, 0, 0), (1629, .aload_n 2, 1, 0, 0, 0), (1630, .aload_n 0, 1, 0, 0, 0), (1631, .iload_n 3, 1, 0, 0, 0), (1632, .iconst 1, 1, 0, 0, 0), (1633, .iadd, 1, 0, 0, 0), (1634, .iaload, 1, 0, 0, 0), (1635, .invokevirtual 211, 3, 322, 1, 0), (1638, .pop, 1, 0, 0, 0), (1639, .goto 729, 3, 0, 0, 0), (1642, .aload_n 1, 1, 0, 0, 0), (1643, .aload_n 0, 1, 0, 0, 0), (1644, .iload_n 3, 1, 0, 0, 0), (1645, .iconst 1, 1, 0, 0, 0), (1646, .iadd, 1, 0, 0, 0), (1647, .iaload, 1, 0, 0, 0), (1648, .invokevirtual 212, 3, 162, 1, 0), (1651, .pop, 1, 0, 0, 0)]
noncomputable def k_law_33 : List xR := [(1652, .aload_n 2, 1, 0, 0, 0), (1653, .aload_n 0, 1, 0, 0, 0), (1654, .iload_n 3, 1, 0, 0, 0), (1655, .iconst 1, 1, 0, 0, 0), (1656, .iadd, 1, 0, 0, 0), (1657, .iaload, 1, 0, 0, 0), (1658, .invokevirtual 215, 3, 326, 1, 0), (1661, .pop, 1, 0, 0, 0), (1662, .goto 706, 3, 0, 0, 0), (1665, .aload_n 1, 1, 0, 0, 0), (1666, .aload_n 0, 1, 0, 0, 0), (1667, .iload_n 3, 1, 0, 0, 0), (1668, .iconst 1, 1, 0, 0, 0), (1669, .iadd, 1, 0, 0, 0), (1670, .iaload, 1, 0, 0, 0), (1671, .invokevirtual 216, 3, 163, 1, 0), (1674, .pop, 1, 0, 0, 0), (1675, .aload_n 2, 1, 0, 0, 0), (1676, .aload_n 0, 1, 0, 0, 0), (1677, .iload_n 3, 1, 0, 0, 0), (1678, .iconst 1, 1, 0, 0, 0), (1679, .iadd, 1, 0, 0, 0), (1680, .iaload, 1, 0, 0, 0), (1681, .invokevirtual 219, 3, 327, 1, 0), (1684, .pop, 1, 0, 0, 0), (1685, .goto 683, 3, 0, 0, 0), (1688, .aload_n 1, 1, 0, 0, 0), (1689, .aload_n 0, 1, 0, 0, 0), (1690, .iload_n 3, 1, 0, 0, 0), (1691, .iconst 1, 1, 0, 0, 0), (1692, .iadd, 1, 0, 0, 0), (1693, .iaload, 1, 0, 0, 0)]
noncomputable def k_law_34 : List xR := [(1694, .aload_n 0, 1, 0, 0, 0), (1695, .iload_n 3, 1, 0, 0, 0), (1696, .iconst 2, 1, 0, 0, 0), (1697, .iadd, 1, 0, 0, 0), (1698, .iaload, 1, 0, 0, 0), (1699, .invokevirtual 220, 3, 164, 2, 0), (1702, .pop, 1, 0, 0, 0), (1703, .aload_n 2, 1, 0, 0, 0), (1704, .aload_n 0, 1, 0, 0, 0), (1705, .iload_n 3, 1, 0, 0, 0), (1706, .iconst 1, 1, 0, 0, 0), (1707, .iadd, 1, 0, 0, 0), (1708, .iaload, 1, 0, 0, 0), (1709, .aload_n 0, 1, 0, 0, 0), (1710, .iload_n 3, 1, 0, 0, 0), (1711, .iconst 2, 1, 0, 0, 0), (1712, .iadd, 1, 0, 0, 0), (1713, .iaload, 1, 0, 0, 0), (1714, .invokevirtual 223, 3, 328, 2, 0), (1717, .pop, 1, 0, 0, 0), (1718, .goto 650, 3, 0, 0, 0), (1721, .aload_n 1, 1, 0, 0, 0), (1722, .aload_n 0, 1, 0, 0, 0), (1723, .iload_n 3, 1, 0, 0, 0), (1724, .iconst 1, 1, 0, 0, 0), (1725, .iadd, 1, 0, 0, 0), (1726, .iaload, 1, 0, 0, 0), (1727, .invokevirtual 224, 3, 165, 1, 0), (1730, .pop, 1, 0, 0, 0), (1731, .aload_n 2, 1, 0, 0, 0), (1732, .aload_n 0, 1, 0, 0, 0), (1733, .iload_n 3, 1, 0, 0, 0)]
noncomputable def k_law_35 : List xR := [(1734, .iconst 1, 1, 0, 0, 0), (1735, .iadd, 1, 0, 0, 0), (1736, .iaload, 1, 0, 0, 0), (1737, .invokevirtual 227, 3, 330, 1, 0), (1740, .pop, 1, 0, 0, 0), (1741, .goto 627, 3, 0, 0, 0), (1744, .aload_n 1, 1, 0, 0, 0), (1745, .invokevirtual 228, 3, 166, 0, 0), (1748, .pop, 1, 0, 0, 0), (1749, .aload_n 2, 1, 0, 0, 0), (1750, .invokevirtual 231, 3, 331, 0, 0), (1753, .pop, 1, 0, 0, 0), (1754, .goto 614, 3, 0, 0, 0), (1757, .aload_n 1, 1, 0, 0, 0), (1758, .invokevirtual 232, 3, 167, 0, 0), (1761, .pop, 1, 0, 0, 0), (1762, .aload_n 2, 1, 0, 0, 0), (1763, .invokevirtual 235, 3, 333, 0, 0), (1766, .pop, 1, 0, 0, 0), (1767, .goto 601, 3, 0, 0, 0), (1770, .aload_n 1, 1, 0, 0, 0), (1771, .aload_n 0, 1, 0, 0, 0), (1772, .iload_n 3, 1, 0, 0, 0), (1773, .iconst 1, 1, 0, 0, 0), (1774, .iadd, 1, 0, 0, 0), (1775, .iaload, 1, 0, 0, 0), (1776, .invokevirtual 236, 3, 168, 1, 0), (1779, .pop, 1, 0, 0, 0), (1780, .aload_n 2, 1, 0, 0, 0), (1781, .aload_n 0, 1, 0, 0, 0), (1782, .iload_n 3, 1, 0, 0, 0), (1783, .iconst 1, 1, 0, 0, 0)]
noncomputable def k_law_36 : List xR := [(1784, .iadd, 1, 0, 0, 0), (1785, .iaload, 1, 0, 0, 0), (1786, .invokevirtual 239, 3, 335, 1, 0), (1789, .pop, 1, 0, 0, 0), (1790, .goto 578, 3, 0, 0, 0), (1793, .aload_n 1, 1, 0, 0, 0), (1794, .aload_n 0, 1, 0, 0, 0), (1795, .iload_n 3, 1, 0, 0, 0), (1796, .iconst 1, 1, 0, 0, 0), (1797, .iadd, 1, 0, 0, 0), (1798, .iaload, 1, 0, 0, 0), (1799, .aload_n 0, 1, 0, 0, 0), (1800, .iload_n 3, 1, 0, 0, 0), (1801, .iconst 2, 1, 0, 0, 0), (1802, .iadd, 1, 0, 0, 0), (1803, .iaload, 1, 0, 0, 0), (1804, .invokevirtual 240, 3, 169, 2, 0), (1807, .pop, 1, 0, 0, 0), (1808, .aload_n 2, 1, 0, 0, 0), (1809, .aload_n 0, 1, 0, 0, 0), (1810, .iload_n 3, 1, 0, 0, 0), (1811, .iconst 1, 1, 0, 0, 0), (1812, .iadd, 1, 0, 0, 0), (1813, .iaload, 1, 0, 0, 0), (1814, .aload_n 0, 1, 0, 0, 0), (1815, .iload_n 3, 1, 0, 0, 0), (1816, .iconst 2, 1, 0, 0, 0), (1817, .iadd, 1, 0, 0, 0), (1818, .iaload, 1, 0, 0, 0), (1819, .invokevirtual 243, 3, 336, 2, 0), (1822, .pop, 1, 0, 0, 0), (1823, .goto 545, 3, 0, 0, 0)]
noncomputable def k_law_37 : List xR := [(1826, .aload_n 1, 1, 0, 0, 0), (1827, .aload_n 0, 1, 0, 0, 0), (1828, .iload_n 3, 1, 0, 0, 0), (1829, .iconst 1, 1, 0, 0, 0), (1830, .iadd, 1, 0, 0, 0), (1831, .iaload, 1, 0, 0, 0), (1832, .aload_n 0, 1, 0, 0, 0), (1833, .iload_n 3, 1, 0, 0, 0), (1834, .iconst 2, 1, 0, 0, 0), (1835, .iadd, 1, 0, 0, 0), (1836, .iaload, 1, 0, 0, 0), (1837, .invokevirtual 244, 3, 170, 2, 0), (1840, .pop, 1, 0, 0, 0), (1841, .aload_n 2, 1, 0, 0, 0), (1842, .aload_n 0, 1, 0, 0, 0), (1843, .iload_n 3, 1, 0, 0, 0), (1844, .iconst 1, 1, 0, 0, 0), (1845, .iadd, 1, 0, 0, 0), (1846, .iaload, 1, 0, 0, 0), (1847, .aload_n 0, 1, 0, 0, 0), (1848, .iload_n 3, 1, 0, 0, 0), (1849, .iconst 2, 1, 0, 0, 0), (1850, .iadd, 1, 0, 0, 0), (1851, .iaload, 1, 0, 0, 0), (1852, .invokevirtual 247, 3, 337, 2, 0), (1855, .pop, 1, 0, 0, 0), (1856, .goto 512, 3, 0, 0, 0), (1859, .aload_n 1, 1, 0, 0, 0), (1860, .aload_n 0, 1, 0, 0, 0), (1861, .iload_n 3, 1, 0, 0, 0), (1862, .iconst 1, 1, 0, 0, 0), (1863, .iadd, 1, 0, 0, 0)]
noncomputable def k_law_38 : List xR := [(1864, .iaload, 1, 0, 0, 0), (1865, .invokevirtual 248, 3, 171, 1, 0), (1868, .pop, 1, 0, 0, 0), (1869, .aload_n 2, 1, 0, 0, 0), (1870, .aload_n 0, 1, 0, 0, 0), (1871, .iload_n 3, 1, 0, 0, 0), (1872, .iconst 1, 1, 0, 0, 0), (1873, .iadd, 1, 0, 0, 0), (1874, .iaload, 1, 0, 0, 0), (1875, .invokevirtual 251, 3, 338, 1, 0), (1878, .pop, 1, 0, 0, 0), (1879, .goto 489, 3, 0, 0, 0), (1882, .aload_n 1, 1, 0, 0, 0), (1883, .aload_n 0, 1, 0, 0, 0), (1884, .iload_n 3, 1, 0, 0, 0), (1885, .iconst 1, 1, 0, 0, 0), (1886, .iadd, 1, 0, 0, 0), (1887, .iaload, 1, 0, 0, 0), (1888, .invokevirtual 252, 3, 139, 1, 0), (1891, .aload_n 2, 1, 0, 0, 0), (1892, .aload_n 0, 1, 0, 0, 0), (1893, .iload_n 3, 1, 0, 0, 0), (1894, .iconst 1, 1, 0, 0, 0), (1895, .iadd, 1, 0, 0, 0), (1896, .iaload, 1, 0, 0, 0), (1897, .invokevirtual 255, 3, 339, 1, 0), (1900, .if_icmp .eq 468, 3, 0, 0, 0), (1903, .iconst 0, 1, 0, 0, 0), (1904, .ireturn, 1, 0, 0, 0), (1905, .aload_n 1, 1, 0, 0, 0), (1906, .aload_n 0, 1, 0, 0, 0), (1907, .iload_n 3, 1, 0, 0, 0)]
noncomputable def k_law_39 : List xR := [(1908, .iconst 1, 1, 0, 0, 0), (1909, .iadd, 1, 0, 0, 0), (1910, .iaload, 1, 0, 0, 0), (1911, .aload_n 0, 1, 0, 0, 0), (1912, .iload_n 3, 1, 0, 0, 0), (1913, .iconst 2, 1, 0, 0, 0), (1914, .iadd, 1, 0, 0, 0), (1915, .iaload, 1, 0, 0, 0), (1916, .invokevirtual 256, 3, 172, 2, 0), (1919, .pop, 1, 0, 0, 0), (1920, .aload_n 2, 1, 0, 0, 0), (1921, .aload_n 0, 1, 0, 0, 0), (1922, .iload_n 3, 1, 0, 0, 0), (1923, .iconst 1, 1, 0, 0, 0), (1924, .iadd, 1, 0, 0, 0), (1925, .iaload, 1, 0, 0, 0), (1926, .aload_n 0, 1, 0, 0, 0), (1927, .iload_n 3, 1, 0, 0, 0), (1928, .iconst 2, 1, 0, 0, 0), (1929, .iadd, 1, 0, 0, 0), (1930, .iaload, 1, 0, 0, 0), (1931, .invokevirtual 259, 3, 340, 2, 0), (1934, .pop, 1, 0, 0, 0), (1935, .goto 433, 3, 0, 0, 0), (1938, .aload_n 1, 1, 0, 0, 0), (1939, .aload_n 0, 1, 0, 0, 0), (1940, .iload_n 3, 1, 0, 0, 0), (1941, .iconst 1, 1, 0, 0, 0), (1942, .iadd, 1, 0, 0, 0), (1943, .iaload, 1, 0, 0, 0), (1944, .aload_n 0, 1, 0, 0, 0), (1945, .iload_n 3, 1, 0, 0, 0)]
noncomputable def k_law_40 : List xR := [(1946, .iconst 2, 1, 0, 0, 0), (1947, .iadd, 1, 0, 0, 0), (1948, .iaload, 1, 0, 0, 0), (1949, .aload_n 0, 1, 0, 0, 0), (1950, .iload_n 3, 1, 0, 0, 0), (1951, .iconst 3, 1, 0, 0, 0), (1952, .iadd, 1, 0, 0, 0), (1953, .iaload, 1, 0, 0, 0), (1954, .invokevirtual 260, 3, 173, 3, 0), (1957, .pop, 1, 0, 0, 0), (1958, .aload_n 2, 1, 0, 0, 0), (1959, .aload_n 0, 1, 0, 0, 0), (1960, .iload_n 3, 1, 0, 0, 0), (1961, .iconst 1, 1, 0, 0, 0), (1962, .iadd, 1, 0, 0, 0), (1963, .iaload, 1, 0, 0, 0), (1964, .aload_n 0, 1, 0, 0, 0), (1965, .iload_n 3, 1, 0, 0, 0), (1966, .iconst 2, 1, 0, 0, 0), (1967, .iadd, 1, 0, 0, 0), (1968, .iaload, 1, 0, 0, 0), (1969, .aload_n 0, 1, 0, 0, 0), (1970, .iload_n 3, 1, 0, 0, 0), (1971, .iconst 3, 1, 0, 0, 0), (1972, .iadd, 1, 0, 0, 0), (1973, .iaload, 1, 0, 0, 0), (1974, .invokevirtual 263, 3, 341, 3, 0), (1977, .pop, 1, 0, 0, 0), (1978, .goto 390, 3, 0, 0, 0), (1981, .aload_n 1, 1, 0, 0, 0), (1982, .aload_n 0, 1, 0, 0, 0), (1983, .iload_n 3, 1, 0, 0, 0)]
noncomputable def k_law_41 : List xR := [(1984, .iconst 1, 1, 0, 0, 0), (1985, .iadd, 1, 0, 0, 0), (1986, .iaload, 1, 0, 0, 0), (1987, .aload_n 0, 1, 0, 0, 0), (1988, .iload_n 3, 1, 0, 0, 0), (1989, .iconst 2, 1, 0, 0, 0), (1990, .iadd, 1, 0, 0, 0), (1991, .iaload, 1, 0, 0, 0), (1992, .aload_n 0, 1, 0, 0, 0), (1993, .iload_n 3, 1, 0, 0, 0), (1994, .iconst 3, 1, 0, 0, 0), (1995, .iadd, 1, 0, 0, 0), (1996, .iaload, 1, 0, 0, 0), (1997, .invokevirtual 264, 3, 174, 3, 0), (2000, .pop, 1, 0, 0, 0), (2001, .aload_n 2, 1, 0, 0, 0), (2002, .aload_n 0, 1, 0, 0, 0), (2003, .iload_n 3, 1, 0, 0, 0), (2004, .iconst 1, 1, 0, 0, 0), (2005, .iadd, 1, 0, 0, 0), (2006, .iaload, 1, 0, 0, 0), (2007, .aload_n 0, 1, 0, 0, 0), (2008, .iload_n 3, 1, 0, 0, 0), (2009, .iconst 2, 1, 0, 0, 0), (2010, .iadd, 1, 0, 0, 0), (2011, .iaload, 1, 0, 0, 0), (2012, .aload_n 0, 1, 0, 0, 0), (2013, .iload_n 3, 1, 0, 0, 0), (2014, .iconst 3, 1, 0, 0, 0), (2015, .iadd, 1, 0, 0, 0), (2016, .iaload, 1, 0, 0, 0), (2017, .invokevirtual 267, 3, 346, 3, 0)]
noncomputable def k_law_42 : List xR := [(2020, .pop, 1, 0, 0, 0), (2021, .goto 347, 3, 0, 0, 0), (2024, .aload_n 1, 1, 0, 0, 0), (2025, .aload_n 0, 1, 0, 0, 0), (2026, .iload_n 3, 1, 0, 0, 0), (2027, .iconst 1, 1, 0, 0, 0), (2028, .iadd, 1, 0, 0, 0), (2029, .iaload, 1, 0, 0, 0), (2030, .aload_n 0, 1, 0, 0, 0), (2031, .iload_n 3, 1, 0, 0, 0), (2032, .iconst 2, 1, 0, 0, 0), (2033, .iadd, 1, 0, 0, 0), (2034, .iaload, 1, 0, 0, 0), (2035, .aload_n 0, 1, 0, 0, 0), (2036, .iload_n 3, 1, 0, 0, 0), (2037, .iconst 3, 1, 0, 0, 0), (2038, .iadd, 1, 0, 0, 0), (2039, .iaload, 1, 0, 0, 0), (2040, .invokevirtual 268, 3, 175, 3, 0), (2043, .pop, 1, 0, 0, 0), (2044, .aload_n 2, 1, 0, 0, 0), (2045, .aload_n 0, 1, 0, 0, 0), (2046, .iload_n 3, 1, 0, 0, 0), (2047, .iconst 1, 1, 0, 0, 0), (2048, .iadd, 1, 0, 0, 0), (2049, .iaload, 1, 0, 0, 0), (2050, .aload_n 0, 1, 0, 0, 0), (2051, .iload_n 3, 1, 0, 0, 0), (2052, .iconst 2, 1, 0, 0, 0), (2053, .iadd, 1, 0, 0, 0), (2054, .iaload, 1, 0, 0, 0), (2055, .aload_n 0, 1, 0, 0, 0)]
noncomputable def k_law_43 : List xR := [(2056, .iload_n 3, 1, 0, 0, 0), (2057, .iconst 3, 1, 0, 0, 0), (2058, .iadd, 1, 0, 0, 0), (2059, .iaload, 1, 0, 0, 0), (2060, .invokevirtual 271, 3, 348, 3, 0), (2063, .pop, 1, 0, 0, 0), (2064, .goto 304, 3, 0, 0, 0), (2067, .aload_n 1, 1, 0, 0, 0), (2068, .aload_n 0, 1, 0, 0, 0), (2069, .iload_n 3, 1, 0, 0, 0), (2070, .iconst 1, 1, 0, 0, 0), (2071, .iadd, 1, 0, 0, 0), (2072, .iaload, 1, 0, 0, 0), (2073, .aload_n 0, 1, 0, 0, 0), (2074, .iload_n 3, 1, 0, 0, 0), (2075, .iconst 2, 1, 0, 0, 0), (2076, .iadd, 1, 0, 0, 0), (2077, .iaload, 1, 0, 0, 0), (2078, .aload_n 0, 1, 0, 0, 0), (2079, .iload_n 3, 1, 0, 0, 0), (2080, .iconst 3, 1, 0, 0, 0), (2081, .iadd, 1, 0, 0, 0), (2082, .iaload, 1, 0, 0, 0), (2083, .aload_n 0, 1, 0, 0, 0), (2084, .iload_n 3, 1, 0, 0, 0), (2085, .iconst 4, 1, 0, 0, 0), (2086, .iadd, 1, 0, 0, 0), (2087, .iaload, 1, 0, 0, 0), (2088, .invokevirtual 272, 3, 176, 4, 0), (2091, .pop, 1, 0, 0, 0), (2092, .aload_n 2, 1, 0, 0, 0), (2093, .aload_n 0, 1, 0, 0, 0)]
noncomputable def k_law_44 : List xR := [(2094, .iload_n 3, 1, 0, 0, 0), (2095, .iconst 1, 1, 0, 0, 0), (2096, .iadd, 1, 0, 0, 0), (2097, .iaload, 1, 0, 0, 0), (2098, .aload_n 0, 1, 0, 0, 0), (2099, .iload_n 3, 1, 0, 0, 0), (2100, .iconst 2, 1, 0, 0, 0), (2101, .iadd, 1, 0, 0, 0), (2102, .iaload, 1, 0, 0, 0), (2103, .aload_n 0, 1, 0, 0, 0), (2104, .iload_n 3, 1, 0, 0, 0), (2105, .iconst 3, 1, 0, 0, 0), (2106, .iadd, 1, 0, 0, 0), (2107, .iaload, 1, 0, 0, 0), (2108, .aload_n 0, 1, 0, 0, 0), (2109, .iload_n 3, 1, 0, 0, 0), (2110, .iconst 4, 1, 0, 0, 0), (2111, .iadd, 1, 0, 0, 0), (2112, .iaload, 1, 0, 0, 0), (2113, .invokevirtual 276, 3, 349, 4, 0), (2116, .pop, 1, 0, 0, 0), (2117, .goto 251, 3, 0, 0, 0), (2120, .aload_n 1, 1, 0, 0, 0), (2121, .aload_n 0, 1, 0, 0, 0), (2122, .iload_n 3, 1, 0, 0, 0), (2123, .iconst 1, 1, 0, 0, 0), (2124, .iadd, 1, 0, 0, 0), (2125, .iaload, 1, 0, 0, 0), (2126, .invokevirtual 277, 3, 119, 1, 0), (2129, .pop, 1, 0, 0, 0), (2130, .aload_n 2, 1, 0, 0, 0), (2131, .aload_n 0, 1, 0, 0, 0)]
noncomputable def k_law_45 : List xR := [(2132, .iload_n 3, 1, 0, 0, 0), (2133, .iconst 1, 1, 0, 0, 0), (2134, .iadd, 1, 0, 0, 0), (2135, .iaload, 1, 0, 0, 0), (2136, .invokevirtual 280, 3, 350, 1, 0), (2139, .pop, 1, 0, 0, 0), (2140, .goto 228, 3, 0, 0, 0), (2143, .aload_n 1, 1, 0, 0, 0), (2144, .aload_n 0, 1, 0, 0, 0), (2145, .iload_n 3, 1, 0, 0, 0), (2146, .iconst 1, 1, 0, 0, 0), (2147, .iadd, 1, 0, 0, 0), (2148, .iaload, 1, 0, 0, 0), (2149, .invokevirtual 281, 3, 177, 1, 0), (2152, .pop, 1, 0, 0, 0), (2153, .aload_n 2, 1, 0, 0, 0), (2154, .aload_n 0, 1, 0, 0, 0), (2155, .iload_n 3, 1, 0, 0, 0), (2156, .iconst 1, 1, 0, 0, 0), (2157, .iadd, 1, 0, 0, 0), (2158, .iaload, 1, 0, 0, 0), (2159, .invokevirtual 284, 3, 197, 1, 0), (2162, .pop, 1, 0, 0, 0), (2163, .goto 205, 3, 0, 0, 0), (2166, .aload_n 1, 1, 0, 0, 0), (2167, .aload_n 0, 1, 0, 0, 0), (2168, .iload_n 3, 1, 0, 0, 0), (2169, .iconst 1, 1, 0, 0, 0), (2170, .iadd, 1, 0, 0, 0), (2171, .iaload, 1, 0, 0, 0), (2172, .invokevirtual 285, 3, 178, 1, 0), (2175, .pop, 1, 0, 0, 0)]
noncomputable def k_law_46 : List xR := [(2176, .aload_n 2, 1, 0, 0, 0), (2177, .aload_n 0, 1, 0, 0, 0), (2178, .iload_n 3, 1, 0, 0, 0), (2179, .iconst 1, 1, 0, 0, 0), (2180, .iadd, 1, 0, 0, 0), (2181, .iaload, 1, 0, 0, 0), (2182, .invokevirtual 288, 3, 198, 1, 0), (2185, .pop, 1, 0, 0, 0), (2186, .goto 182, 3, 0, 0, 0), (2189, .aload_n 1, 1, 0, 0, 0), (2190, .aload_n 0, 1, 0, 0, 0), (2191, .iload_n 3, 1, 0, 0, 0), (2192, .iconst 1, 1, 0, 0, 0), (2193, .iadd, 1, 0, 0, 0), (2194, .iaload, 1, 0, 0, 0), (2195, .aload_n 0, 1, 0, 0, 0), (2196, .iload_n 3, 1, 0, 0, 0), (2197, .iconst 2, 1, 0, 0, 0), (2198, .iadd, 1, 0, 0, 0), (2199, .iaload, 1, 0, 0, 0), (2200, .aload_n 0, 1, 0, 0, 0), (2201, .iload_n 3, 1, 0, 0, 0), (2202, .iconst 3, 1, 0, 0, 0), (2203, .iadd, 1, 0, 0, 0), (2204, .iaload, 1, 0, 0, 0), (2205, .invokevirtual 289, 3, 179, 3, 0), (2208, .pop, 1, 0, 0, 0), (2209, .aload_n 2, 1, 0, 0, 0), (2210, .aload_n 0, 1, 0, 0, 0), (2211, .iload_n 3, 1, 0, 0, 0), (2212, .iconst 1, 1, 0, 0, 0), (2213, .iadd, 1, 0, 0, 0)]
noncomputable def k_law_47 : List xR := [(2214, .iaload, 1, 0, 0, 0), (2215, .aload_n 0, 1, 0, 0, 0), (2216, .iload_n 3, 1, 0, 0, 0), (2217, .iconst 2, 1, 0, 0, 0), (2218, .iadd, 1, 0, 0, 0), (2219, .iaload, 1, 0, 0, 0), (2220, .aload_n 0, 1, 0, 0, 0), (2221, .iload_n 3, 1, 0, 0, 0), (2222, .iconst 3, 1, 0, 0, 0), (2223, .iadd, 1, 0, 0, 0), (2224, .iaload, 1, 0, 0, 0), (2225, .invokevirtual 292, 3, 353, 3, 0), (2228, .pop, 1, 0, 0, 0), (2229, .goto 139, 3, 0, 0, 0), (2232, .aload_n 1, 1, 0, 0, 0), (2233, .aload_n 0, 1, 0, 0, 0), (2234, .iload_n 3, 1, 0, 0, 0), (2235, .iconst 1, 1, 0, 0, 0), (2236, .iadd, 1, 0, 0, 0), (2237, .iaload, 1, 0, 0, 0), (2238, .aload_n 0, 1, 0, 0, 0), (2239, .iload_n 3, 1, 0, 0, 0), (2240, .iconst 2, 1, 0, 0, 0), (2241, .iadd, 1, 0, 0, 0), (2242, .iaload, 1, 0, 0, 0), (2243, .aload_n 0, 1, 0, 0, 0), (2244, .iload_n 3, 1, 0, 0, 0), (2245, .iconst 3, 1, 0, 0, 0), (2246, .iadd, 1, 0, 0, 0), (2247, .iaload, 1, 0, 0, 0), (2248, .i2l, 1, 0, 0, 0), (2249, .bipush 32, 2, 0, 0, 0)]
noncomputable def k_law_48 : List xR := [(2251, .lshl, 1, 0, 0, 0), (2252, .aload_n 0, 1, 0, 0, 0), (2253, .iload_n 3, 1, 0, 0, 0), (2254, .iconst 4, 1, 0, 0, 0), (2255, .iadd, 1, 0, 0, 0), (2256, .iaload, 1, 0, 0, 0), (2257, .i2l, 1, 0, 0, 0), (2258, .ldc2_w 293, 3, 4294967295, 0, 0), (2261, .land, 1, 0, 0, 0), (2262, .lor, 1, 0, 0, 0), (2263, .invokevirtual 295, 3, 180, 3, 0), (2266, .pop, 1, 0, 0, 0), (2267, .aload_n 2, 1, 0, 0, 0), (2268, .aload_n 0, 1, 0, 0, 0), (2269, .iload_n 3, 1, 0, 0, 0), (2270, .iconst 1, 1, 0, 0, 0), (2271, .iadd, 1, 0, 0, 0), (2272, .iaload, 1, 0, 0, 0), (2273, .aload_n 0, 1, 0, 0, 0), (2274, .iload_n 3, 1, 0, 0, 0), (2275, .iconst 2, 1, 0, 0, 0), (2276, .iadd, 1, 0, 0, 0), (2277, .iaload, 1, 0, 0, 0), (2278, .aload_n 0, 1, 0, 0, 0), (2279, .iload_n 3, 1, 0, 0, 0), (2280, .iconst 3, 1, 0, 0, 0), (2281, .iadd, 1, 0, 0, 0), (2282, .iaload, 1, 0, 0, 0), (2283, .i2l, 1, 0, 0, 0), (2284, .bipush 32, 2, 0, 0, 0), (2286, .lshl, 1, 0, 0, 0), (2287, .aload_n 0, 1, 0, 0, 0)]
noncomputable def k_law_49 : List xR := [(2288, .iload_n 3, 1, 0, 0, 0), (2289, .iconst 4, 1, 0, 0, 0), (2290, .iadd, 1, 0, 0, 0), (2291, .iaload, 1, 0, 0, 0), (2292, .i2l, 1, 0, 0, 0), (2293, .ldc2_w 293, 3, 4294967295, 0, 0), (2296, .land, 1, 0, 0, 0), (2297, .lor, 1, 0, 0, 0), (2298, .invokevirtual 299, 3, 354, 3, 0), (2301, .pop, 1, 0, 0, 0), (2302, .goto 66, 3, 0, 0, 0), (2305, .aload_n 1, 1, 0, 0, 0), (2306, .aload_n 0, 1, 0, 0, 0), (2307, .iload_n 3, 1, 0, 0, 0), (2308, .iconst 1, 1, 0, 0, 0), (2309, .iadd, 1, 0, 0, 0), (2310, .iaload, 1, 0, 0, 0), (2311, .aload_n 0, 1, 0, 0, 0), (2312, .iload_n 3, 1, 0, 0, 0), (2313, .iconst 2, 1, 0, 0, 0), (2314, .iadd, 1, 0, 0, 0), (2315, .iaload, 1, 0, 0, 0), (2316, .aload_n 0, 1, 0, 0, 0), (2317, .iload_n 3, 1, 0, 0, 0), (2318, .iconst 3, 1, 0, 0, 0), (2319, .iadd, 1, 0, 0, 0), (2320, .iaload, 1, 0, 0, 0), (2321, .aload_n 0, 1, 0, 0, 0), (2322, .iload_n 3, 1, 0, 0, 0), (2323, .iconst 4, 1, 0, 0, 0), (2324, .iadd, 1, 0, 0, 0), (2325, .iaload, 1, 0, 0, 0)]
noncomputable def k_law_50 : List xR := [(2326, .aload_n 0, 1, 0, 0, 0), (2327, .iload_n 3, 1, 0, 0, 0), (2328, .iconst 5, 1, 0, 0, 0), (2329, .iadd, 1, 0, 0, 0), (2330, .iaload, 1, 0, 0, 0), (2331, .invokevirtual 300, 3, 181, 5, 0), (2334, .pop, 1, 0, 0, 0), (2335, .aload_n 2, 1, 0, 0, 0), (2336, .aload_n 0, 1, 0, 0, 0), (2337, .iload_n 3, 1, 0, 0, 0), (2338, .iconst 1, 1, 0, 0, 0), (2339, .iadd, 1, 0, 0, 0), (2340, .iaload, 1, 0, 0, 0), (2341, .aload_n 0, 1, 0, 0, 0), (2342, .iload_n 3, 1, 0, 0, 0), (2343, .iconst 2, 1, 0, 0, 0), (2344, .iadd, 1, 0, 0, 0), (2345, .iaload, 1, 0, 0, 0), (2346, .aload_n 0, 1, 0, 0, 0), (2347, .iload_n 3, 1, 0, 0, 0), (2348, .iconst 3, 1, 0, 0, 0), (2349, .iadd, 1, 0, 0, 0), (2350, .iaload, 1, 0, 0, 0), (2351, .aload_n 0, 1, 0, 0, 0), (2352, .iload_n 3, 1, 0, 0, 0), (2353, .iconst 4, 1, 0, 0, 0), (2354, .iadd, 1, 0, 0, 0), (2355, .iaload, 1, 0, 0, 0), (2356, .aload_n 0, 1, 0, 0, 0), (2357, .iload_n 3, 1, 0, 0, 0), (2358, .iconst 5, 1, 0, 0, 0), (2359, .iadd, 1, 0, 0, 0)]
noncomputable def k_law_51 : List xR := [(2360, .iaload, 1, 0, 0, 0), (2361, .invokevirtual 303, 3, 355, 5, 0), (2364, .pop, 1, 0, 0, 0), (2365, .goto 3, 3, 0, 0, 0), (2368, .iinc 3 6, 3, 0, 0, 0), (2371, .goto (-2353), 3, 0, 0, 0), (2374, .iconst 1, 1, 0, 0, 0), (2375, .ireturn, 1, 0, 0, 0)]
noncomputable def M_law : xM := (RL, x, cL_law, 4, (some .int), true, 999, [(337, k_law_0), (371, k_law_1), (411, k_law_2), (457, k_law_3), (497, k_law_4), (539, k_law_5), (581, k_law_6), (627, k_law_7), (665, k_law_8), (705, k_law_9), (747, k_law_10), (785, k_law_11), (825, k_law_12), (867, k_law_13), (911, k_law_14), (949, k_law_15), (989, k_law_16), (1029, k_law_17), (1069, k_law_18), (1109, k_law_19), (1151, k_law_20), (1191, k_law_21), (1229, k_law_22), (1271, k_law_23), (1315, k_law_24), (1359, k_law_25), (1399, k_law_26), (1441, k_law_27), (1487, k_law_28), (1527, k_law_29), (1567, k_law_30), (1607, k_law_31), (1651, k_law_32), (1693, k_law_33), (1733, k_law_34), (1783, k_law_35), (1823, k_law_36), (1863, k_law_37), (1907, k_law_38), (1945, k_law_39), (1983, k_law_40), (2017, k_law_41), (2055, k_law_42), (2093, k_law_43), (2131, k_law_44), (2175, k_law_45), (2213, k_law_46), (2249, k_law_47), (2287, k_law_48), (2325, k_law_49), (2359, k_law_50), (2375, k_law_51)])
noncomputable def x_mt : List xM := [M_cX0_init, M_cX0_most, M_cX0_goOn, M_cX0_freeAt, M_cX0_keep, M_cX1_init, M_cX1_judge, M_cX1_judgeOne, M_cX2_init, M_cX2_empty, M_cX2_copy, M_cX2_isTold, M_cX2_holes, M_cX2_isHole, M_cX2_isTick, M_cX2_isPlayer, M_cX2_isShut, M_cX2_openHoles, M_cX2_apart, M_cX2_stepsToAll, M_cX2_pathRound, M_cX2_stayIn, M_cX2_hasStayFrom, M_cX2_setStay, M_cX2_trait, M_cX2_setTrait, M_cX2_isTrait, M_cX2_lets, M_cX3_init, M_cX3_empty, M_cX3_copy, M_cX3_has, M_cX3_add, M_cX3_exchange, M_cX3_exchangeIn, M_cX3_round, M_cX3_oftenAt, M_cX3_goesSo, M_cX3_neededFrom, M_cX3_alike, M_cX4_init, M_cX4_has, M_cX4_deal, M_cX4_draw, M_cX4_nthLet, M_cX4_begin, M_cX4_hasRoom, M_cX4_add, M_cX4_upIn, M_cX4_holesOf, M_cX4_goodHoles, M_cX4_goodIn, M_cX4_strike, M_cX5_init, M_cX5_begin, M_cX5_grow, M_cX5_growFrom, M_cX5_at, M_cX5_waysTo, M_cX5_add, M_cX5_rowsTo, M_cX5_rowsInAll, M_cX5_isEven, M_cX6_init, M_cX6_take, M_cX6_paceIn, M_cX6_awareOf, M_cX6_there, M_cX6_reachFrom, M_cX7_init, M_cX7_readAll, M_cX7_shapeOf, M_cX7_readLine, M_cX7_blame, M_cX7_behindBlank, M_cX7_kindOfLine, M_cX7_standsAt, M_cX7_isSpelled, M_cX7_isFull, M_cX7_judge, M_cX7_within, M_cX7_fitsBoard, M_cX7_judgeFrom, M_cX7_isOpen, M_cX7_apply, M_cX7_addPlayer, M_cX7_step, M_cX7_isBlank, M_cX7_isLetter, M_cX7_isDigit, M_cX8_init, M_cX8_isMade, M_cX8_make, M_cX8_put, M_cX8_hasPart, M_cX8_isBelow, M_cX8_isPeriod, M_cX8_leastPeriod, M_cX8_periodsInAll, M_cX9_init, M_cX9_good, M_cX9_rashPoints, M_cX9_begin, M_cX9_goFor, M_cX9_among, M_cX9_strike, M_cX9_holeBehind, M_cX9_firstMissed, M_cX10_init, M_cX10_put, M_cX10_at, M_cX11_init, M_cX11_feed, M_cX11_end, M_cX11_board, M_cX11_fault, M_cX11_drum, M_cX11_player, M_cX11_stay, M_cX11_count, M_cX11_comings, M_cX11_comes, M_cX11_up, M_cX11_calm, M_cX11_steps, M_cX11_pace, M_cX11_aware, M_cX11_hits, M_cX11_hit, M_cX11_twice, M_cX11_where, M_cX11_missed, M_cX11_walked, M_cX11_best, M_cX11_ahead, M_cX11_learns, M_cX11_enough, M_cX11_waits, M_cX11_slack, M_cX11_lucky, M_cX11_mean, M_cX11_middle, M_cX11_reach, M_cX11_post, M_cX11_rows, M_cX11_ends, M_cX11_fair, M_cX11_breaks, M_cX11_period, M_cX11_periods, M_cX11_luck, M_cX11_fits, M_cX11_place, M_cX11_next, M_cX11_needed, M_cX11_known, M_cX11_rash, M_cX11_look, M_cX11_line, M_cX11_two, M_cX11_tickets, M_cX11_prize, M_cX11_counted, M_cX11_scored, M_cX11_early, M_cX11_often, M_cX11_balance, M_cX11_path, M_cX11_better, M_cX11_swap, M_cX11_paint, M_cX11_turn, M_cX11_shut, M_cX11_train, M_cX11_drawn, M_cX11_night, M_cX11_years, M_cX11_image, M_cX11_back, M_cX11_row, M_cX11_write, M_cX11_paste, M_cX11_isSlot, M_cX11_isLaw, M_cX11_isSeed, M_cX11_rowsKept, M_cX11_makeReady, M_cX11_runOf, M_cX11_hitsKnowing, M_cX11_hitsLagging, M_cX11_lookPoints, M_cX11_ticketsOfRun, M_cX11_countLots, M_cX11_whyUnheard, M_cX11_whyNoBlows, M_cX12_init, M_cX12_in, M_cX12_image, M_cX12_back, M_cX12_isBoard, M_cX12_holes, M_cX12_isHole, M_cX12_isShut, M_cX12_isTick, M_cX12_isComing, M_cX12_isPlayer, M_cX12_ofComing, M_cX12_of, M_cX12_feed, M_cX12_end, M_cX12_see, M_cX12_advance, M_cX12_good, M_cX12_errs, M_cX12_is, M_cX12_takes, M_cX12_needs, M_cX12_number, M_cX12_told, M_cX12_fault, M_cX12_freshHoles, M_cX12_readFirst, M_cX12_freshStay, M_cX12_readStay, M_cX12_isNextHole, M_cX12_isFreshComing, M_cX12_readShut, M_cX12_readHole, M_cX12_readComing, M_cX12_readPlayer, M_cX12_readNext, M_cX12_readLine, M_cX12_board, M_cX12_stayIn, M_cX12_nextTick, M_cX12_mayCome, M_cX12_come, M_cX12_lay, M_cX12_inGame, M_cX12_drum, M_cX12_player, M_cX12_stay, M_cX12_comings, M_cX12_isInGame, M_cX12_comes, M_cX12_upIn, M_cX12_up, M_cX12_calm, M_cX12_stepsOf, M_cX12_steps, M_cX12_paceIn, M_cX12_pace, M_cX12_asTold, M_cX12_awareOf, M_cX12_aware, M_cX12_goes, M_cX12_isHis, M_cX12_goesFor, M_cX12_run, M_cX12_runAsTold, M_cX12_hits, M_cX12_hit, M_cX12_twice, M_cX12_where, M_cX12_missed, M_cX12_walked, M_cX12_cell, M_cX12_sooner, M_cX12_behind, M_cX12_mayHit, M_cX12_bestOf, M_cX12_best, M_cX12_ahead, M_cX12_learnsBy, M_cX12_learns, M_cX12_enough, M_cX12_waitingAt, M_cX12_waits, M_cX12_openHoles, M_cX12_stepsToAll, M_cX12_divisor, M_cX12_mean, M_cX12_middle, M_cX12_reachOf, M_cX12_reach, M_cX12_bits, M_cX12_post, M_cX12_lagging, M_cX12_slack, M_cX12_isLaw, M_cX12_lets, M_cX12_fillRows, M_cX12_endingIn, M_cX12_rows, M_cX12_ends, M_cX12_fair, M_cX12_holeAt, M_cX12_breaks, M_cX12_numberAt, M_cX12_asksHeard, M_cX12_isPeriod, M_cX12_leastPeriod, M_cX12_period, M_cX12_periods, M_cX12_luck, M_cX12_fitsFrom, M_cX12_fits, M_cX12_place, M_cX12_next, M_cX12_goesAlike, M_cX12_neededFrom, M_cX12_needed, M_cX12_known, M_cX12_rashOf, M_cX12_rash, M_cX12_lookOf, M_cX12_look, M_cX12_line, M_cX12_hitsOn, M_cX12_two, M_cX12_ticketsOf, M_cX12_tickets, M_cX12_prize, M_cX12_asksBlows, M_cX12_strike, M_cX12_layBlows, M_cX12_counted, M_cX12_scored, M_cX12_early, M_cX12_oftenOf, M_cX12_often, M_cX12_balance, M_cX12_pathOf, M_cX12_path, M_cX12_trade, M_cX12_better, M_cX12_swap, M_cX12_paint, M_cX12_turn, M_cX12_lucky, M_cX12_shut, M_cX12_train, M_cX12_draw, M_cX12_holeByLot, M_cX12_layNight, M_cX12_isSeed, M_cX12_drawn, M_cX12_nightOf, M_cX12_night, M_cX12_years, M_cX12_count, M_cX12_isSlot, M_cX12_cut, M_cX12_row, M_cX12_write, M_cX12_paste, M_cJ6_bitCount_0f7a4, M_cJ9_floorMod_7cf53]
/-! ===== the words of the tables ===== -/
theorem x_tb {ts : List Cond} (h : ∀ w ∈ ts, w ∈ lw_tbl) {i : Nat} {w : Cond} (e : ts[i]? = some w) : w ∈ lw_tbl := h w (List.mem_of_getElem? e)
theorem x_tbl {w : Cond} (h : w ∈ tables_1) : w ∈ lw_tbl := List.mem_append_right _ h
theorem x_t0 {i : Nat} {w : Cond} (e : (k2_sels lw_privs)[i]? = some w) : w ∈ lw_tbl := List.mem_append_left _ (List.mem_of_getElem? e)
theorem x_t1 {i : Nat} {w : Cond} (e : tables_1_1[i]? = some w) : w ∈ lw_tbl := x_tbl (List.mem_append_left _ (List.mem_of_getElem? e))
theorem x_t2 {i : Nat} {w : Cond} (e : tables_1_2[i]? = some w) : w ∈ lw_tbl := x_tbl (List.mem_append_right _ (List.mem_append_left _ (List.mem_of_getElem? e)))
theorem x_t3 {i : Nat} {w : Cond} (e : tables_1_3[i]? = some w) : w ∈ lw_tbl := x_tbl (List.mem_append_right _ (List.mem_append_right _ (List.mem_append_left _ (List.mem_of_getElem? e))))
theorem x_t4 {i : Nat} {w : Cond} (e : tables_1_4[i]? = some w) : w ∈ lw_tbl := x_tbl (List.mem_append_right _ (List.mem_append_right _ (List.mem_append_right _ (List.mem_append_left _ (List.mem_of_getElem? e)))))
theorem x_t5 {i : Nat} {w : Cond} (e : tables_1_5[i]? = some w) : w ∈ lw_tbl := x_tbl (List.mem_append_right _ (List.mem_append_right _ (List.mem_append_right _ (List.mem_append_right _ (List.mem_append_left _ (List.mem_of_getElem? e))))))
theorem x_t6 {i : Nat} {w : Cond} (e : tables_1_6[i]? = some w) : w ∈ lw_tbl := x_tbl (List.mem_append_right _ (List.mem_append_right _ (List.mem_append_right _ (List.mem_append_right _ (List.mem_append_right _ (List.mem_append_left _ (List.mem_of_getElem? e)))))))
theorem x_t7 {i : Nat} {w : Cond} (e : tables_1_7[i]? = some w) : w ∈ lw_tbl := x_tbl (List.mem_append_right _ (List.mem_append_right _ (List.mem_append_right _ (List.mem_append_right _ (List.mem_append_right _ (List.mem_append_right _ (List.mem_append_left _ (List.mem_of_getElem? e))))))))
theorem x_t8 {i : Nat} {w : Cond} (e : tables_1_8[i]? = some w) : w ∈ lw_tbl := x_tbl (List.mem_append_right _ (List.mem_append_right _ (List.mem_append_right _ (List.mem_append_right _ (List.mem_append_right _ (List.mem_append_right _ (List.mem_append_right _ (List.mem_append_left _ (List.mem_of_getElem? e)))))))))
theorem x_t9 {i : Nat} {w : Cond} (e : tables_1_9[i]? = some w) : w ∈ lw_tbl := x_tbl (List.mem_append_right _ (List.mem_append_right _ (List.mem_append_right _ (List.mem_append_right _ (List.mem_append_right _ (List.mem_append_right _ (List.mem_append_right _ (List.mem_append_right _ (List.mem_of_getElem? e)))))))))
theorem x_oi1 : Cond.instanceMethod Lib.objectInit ∈ x_bw := (x_bw_in (x_t1 (i := 27) rfl) rfl)
theorem x_oi2 : Cond.code Lib.objectInit ⟨#[0xb1]⟩ 1 none ∈ x_bw := (x_bw_in (x_t1 (i := 28) (by decide +kernel)) rfl)
theorem x_mmax : Cond.static Lib.Math.max.name ∈ x_bw ∧ Cond.initialized "java/lang/Math" ∈ x_bw ∧ Cond.code Lib.Math.max.name Lib.Math.max.code 2 (some .int) ∈ x_bw := ⟨(x_bw_in (x_t4 (i := 72) rfl) rfl), (x_bw_in (x_t1 (i := 14) rfl) rfl), (x_bw_in (x_t4 (i := 73) (by decide +kernel)) rfl)⟩
theorem x_mmin : Cond.static Lib.Math.min.name ∈ x_bw ∧ Cond.initialized "java/lang/Math" ∈ x_bw ∧ Cond.code Lib.Math.min.name Lib.Math.min.code 2 (some .int) ∈ x_bw := ⟨(x_bw_in (x_t2 (i := 217) rfl) rfl), (x_bw_in (x_t1 (i := 14) rfl) rfl), (x_bw_in (x_t2 (i := 218) (by decide +kernel)) rfl)⟩
theorem x_mabs : Cond.static Lib.Math.abs.name ∈ x_bw ∧ Cond.initialized "java/lang/Math" ∈ x_bw ∧ Cond.code Lib.Math.abs.name Lib.Math.abs.code 1 (some .int) ∈ x_bw := ⟨(x_bw_in (x_t4 (i := 13) rfl) rfl), (x_bw_in (x_t1 (i := 14) rfl) rfl), (x_bw_in (x_t4 (i := 14) (by decide +kernel)) rfl)⟩
theorem x_ac : Cond.native arraycopyName ∈ x_bw ∧ Cond.static arraycopyName ∈ x_bw ∧ Cond.initialized "java/lang/System" ∈ x_bw := ⟨(x_bw_in (x_t3 (i := 140) rfl) rfl), (x_bw_in (x_t3 (i := 139) rfl) rfl), (x_bw_in (x_t1 (i := 19) rfl) rfl)⟩
theorem x_ao_in : ∀ C ∈ x_ao, Cond.arrayOver (.object C) ∈ lw_tbl := (List.forall_mem_cons.mpr ⟨x_t1 (i := 138) rfl, (List.forall_mem_cons.mpr ⟨x_t2 (i := 113) rfl, (fun _ h => absurd h List.not_mem_nil)⟩)⟩)
theorem x_al {α : Type} {P : α → Prop} {a : α} {l : List α} (h : P a) (t : ∀ r ∈ l, P r) : ∀ r ∈ a :: l, P r := List.forall_mem_cons.mpr ⟨h, t⟩
theorem x_an {α : Type} {P : α → Prop} : ∀ r ∈ ([] : List α), P r := fun _ h => absurd h List.not_mem_nil
theorem x_JW_ok : x_JW := (x_al (x_bw_in (x_t3 (i := 9) (by decide +kernel)) rfl) (x_al (x_bw_in (x_t3 (i := 7) rfl) rfl) (x_al (x_bw_in (x_t3 (i := 8) rfl) rfl) (x_al (x_bw_in (x_t3 (i := 6) rfl) rfl) (x_al (x_bw_in (x_t3 (i := 19) (by decide +kernel)) rfl) (x_al (x_bw_in (x_t3 (i := 17) rfl) rfl) (x_al (x_bw_in (x_t3 (i := 18) rfl) rfl) (x_al (x_bw_in (x_t3 (i := 16) rfl) rfl) (x_al (x_bw_in (x_t3 (i := 5) (by decide +kernel)) rfl) (x_al (x_bw_in (x_t3 (i := 3) rfl) rfl) (x_al (x_bw_in (x_t3 (i := 4) rfl) rfl) (x_al (x_bw_in (x_t3 (i := 15) (by decide +kernel)) rfl) (x_al (x_bw_in (x_t3 (i := 13) rfl) rfl) (x_al (x_bw_in (x_t3 (i := 14) rfl) rfl) (x_al (x_bw_in (x_t3 (i := 25) (by decide +kernel)) rfl) (x_al (x_bw_in (x_t3 (i := 24) rfl) rfl) (x_al (x_bw_in (x_t3 (i := 23) rfl) rfl) (x_al (x_bw_in (x_t3 (i := 22) (by decide +kernel)) rfl) (x_al (x_bw_in (x_t3 (i := 21) rfl) rfl) (x_al (x_bw_in (x_t3 (i := 20) rfl) rfl) (x_al (x_bw_in (x_t3 (i := 30) (by decide +kernel)) rfl) (x_al (x_bw_in (x_t3 (i := 29) rfl) rfl) (x_al (x_bw_in (x_t3 (i := 28) rfl) rfl) (x_al (x_bw_in (x_t1 (i := 15) rfl) rfl) (x_al (x_bw_in (x_t1 (i := 16) rfl) rfl) (x_al (x_bw_in (x_t1 (i := 17) rfl) rfl) (x_al (x_bw_in (x_t9 (i := 179) rfl) rfl) (x_al (x_bw_in (x_t9 (i := 180) rfl) rfl) (x_al (x_bw_in (x_t3 (i := 10) rfl) rfl) (x_al (x_bw_in (x_t3 (i := 26) rfl) rfl) x_an))))))))))))))))))))))))))))))
theorem x_lit_in : ∀ q ∈ x_lit, Cond.stringRef q.1 q.2.1 q.2.2 ∈ lw_tbl := (x_al (x_t2 (i := 230) rfl) (x_al (x_t2 (i := 231) rfl) (x_al (x_t2 (i := 232) rfl) (x_al (x_t2 (i := 233) rfl) (x_al (x_t2 (i := 234) rfl) (x_al (x_t2 (i := 235) rfl) (x_al (x_t2 (i := 236) rfl) (x_al (x_t2 (i := 237) rfl) (x_al (x_t7 (i := 34) rfl) (x_al (x_t7 (i := 53) rfl) (x_al (x_t7 (i := 62) rfl) (x_al (x_t7 (i := 63) rfl) (x_al (x_t7 (i := 64) rfl) (x_al (x_t7 (i := 69) rfl) (x_al (x_t7 (i := 70) rfl) (x_al (x_t7 (i := 71) rfl) (x_al (x_t7 (i := 72) rfl) (x_al (x_t7 (i := 73) rfl) (x_al (x_t7 (i := 74) rfl) (x_al (x_t7 (i := 75) rfl) (x_al (x_t7 (i := 80) rfl) (x_al (x_t7 (i := 113) rfl) (x_al (x_t7 (i := 114) rfl) (x_al (x_t7 (i := 115) rfl) (x_al (x_t7 (i := 116) rfl) (x_al (x_t7 (i := 117) rfl) (x_al (x_t7 (i := 118) rfl) x_an)))))))))))))))))))))))))))
theorem x_ly1 : Cond.laysStatic "java/lang/String" "COMPACT_STRINGS" "Z" ∈ lw_tbl := x_t3 (i := 11) rfl
theorem x_ly2 : Cond.initialized "java/lang/String" ∈ lw_tbl := x_t1 (i := 15) rfl
theorem x_ly3 : Cond.laysStatic "jdk/internal/util/Preconditions" "SIOOBE_FORMATTER" "Ljava/util/function/BiFunction;" ∈ lw_tbl := x_t3 (i := 27) rfl
theorem x_ly4 : Cond.initialized "jdk/internal/util/Preconditions" ∈ lw_tbl := x_t1 (i := 17) rfl
theorem x_ll : x_lit.length = x_sbyt.length := rfl
set_option maxRecDepth 20000 in
theorem x_C0 : (∀ w ∈ u_ws RX0 TX0 1, w ∈ x_bw) ∧ Cond.instantiable RX0 1 ∈ x_bw ∧ Cond.initialized RX0 ∈ x_bw := by
  refine ⟨fun w hw => ?_, (x_bw_in (x_t2 (i := 67) rfl) rfl), (x_bw_in (x_t1 (i := 9) rfl) rfl)⟩
  obtain ⟨k, hk, rfl⟩ := List.mem_map.mp hw
  have hk := List.mem_range.mp hk
  match k, hk with
  | 0, _ => exact (x_bw_in (x_t2 (i := 73) rfl) rfl)
  | k + 1, h => exact absurd h (by omega)
set_option maxRecDepth 20000 in
theorem x_C1 : (∀ w ∈ u_ws RX1 TX1 4, w ∈ x_bw) ∧ Cond.instantiable RX1 4 ∈ x_bw ∧ Cond.initialized RX1 ∈ x_bw := by
  refine ⟨fun w hw => ?_, (x_bw_in (x_t2 (i := 91) rfl) rfl), (x_bw_in (x_t1 (i := 11) rfl) rfl)⟩
  obtain ⟨k, hk, rfl⟩ := List.mem_map.mp hw
  have hk := List.mem_range.mp hk
  match k, hk with
  | 0, _ => exact (x_bw_in (x_t2 (i := 103) rfl) rfl)
  | 1, _ => exact (x_bw_in (x_t2 (i := 105) rfl) rfl)
  | 2, _ => exact (x_bw_in (x_t2 (i := 107) rfl) rfl)
  | 3, _ => exact (x_bw_in (x_t2 (i := 109) rfl) rfl)
  | k + 4, h => exact absurd h (by omega)
set_option maxRecDepth 20000 in
theorem x_C2 : (∀ w ∈ u_ws RX2 TX2 15, w ∈ x_bw) ∧ Cond.instantiable RX2 15 ∈ x_bw ∧ Cond.initialized RX2 ∈ x_bw := by
  refine ⟨fun w hw => ?_, (x_bw_in (x_t1 (i := 30) rfl) rfl), (x_bw_in (x_t1 (i := 2) rfl) rfl)⟩
  obtain ⟨k, hk, rfl⟩ := List.mem_map.mp hw
  have hk := List.mem_range.mp hk
  match k, hk with
  | 0, _ => exact (x_bw_in (x_t1 (i := 107) rfl) rfl)
  | 1, _ => exact (x_bw_in (x_t1 (i := 109) rfl) rfl)
  | 2, _ => exact (x_bw_in (x_t1 (i := 111) rfl) rfl)
  | 3, _ => exact (x_bw_in (x_t1 (i := 113) rfl) rfl)
  | 4, _ => exact (x_bw_in (x_t1 (i := 115) rfl) rfl)
  | 5, _ => exact (x_bw_in (x_t1 (i := 117) rfl) rfl)
  | 6, _ => exact (x_bw_in (x_t1 (i := 119) rfl) rfl)
  | 7, _ => exact (x_bw_in (x_t1 (i := 121) rfl) rfl)
  | 8, _ => exact (x_bw_in (x_t1 (i := 123) rfl) rfl)
  | 9, _ => exact (x_bw_in (x_t1 (i := 125) rfl) rfl)
  | 10, _ => exact (x_bw_in (x_t1 (i := 127) rfl) rfl)
  | 11, _ => exact (x_bw_in (x_t1 (i := 129) rfl) rfl)
  | 12, _ => exact (x_bw_in (x_t1 (i := 131) rfl) rfl)
  | 13, _ => exact (x_bw_in (x_t1 (i := 133) rfl) rfl)
  | 14, _ => exact (x_bw_in (x_t1 (i := 135) rfl) rfl)
  | k + 15, h => exact absurd h (by omega)
set_option maxRecDepth 20000 in
theorem x_C3 : (∀ w ∈ u_ws RX3 TX3 5, w ∈ x_bw) ∧ Cond.instantiable RX3 5 ∈ x_bw ∧ Cond.initialized RX3 ∈ x_bw := by
  refine ⟨fun w hw => ?_, (x_bw_in (x_t1 (i := 36) rfl) rfl), (x_bw_in (x_t1 (i := 3) rfl) rfl)⟩
  obtain ⟨k, hk, rfl⟩ := List.mem_map.mp hw
  have hk := List.mem_range.mp hk
  match k, hk with
  | 0, _ => exact (x_bw_in (x_t1 (i := 57) rfl) rfl)
  | 1, _ => exact (x_bw_in (x_t1 (i := 59) rfl) rfl)
  | 2, _ => exact (x_bw_in (x_t1 (i := 61) rfl) rfl)
  | 3, _ => exact (x_bw_in (x_t1 (i := 63) rfl) rfl)
  | 4, _ => exact (x_bw_in (x_t1 (i := 65) rfl) rfl)
  | k + 5, h => exact absurd h (by omega)
set_option maxRecDepth 20000 in
theorem x_C4 : (∀ w ∈ u_ws RX4 TX4 7, w ∈ x_bw) ∧ Cond.instantiable RX4 7 ∈ x_bw ∧ Cond.initialized RX4 ∈ x_bw := by
  refine ⟨fun w hw => ?_, (x_bw_in (x_t1 (i := 196) rfl) rfl), (x_bw_in (x_t1 (i := 6) rfl) rfl)⟩
  obtain ⟨k, hk, rfl⟩ := List.mem_map.mp hw
  have hk := List.mem_range.mp hk
  match k, hk with
  | 0, _ => exact (x_bw_in (x_t1 (i := 226) rfl) rfl)
  | 1, _ => exact (x_bw_in (x_t1 (i := 228) rfl) rfl)
  | 2, _ => exact (x_bw_in (x_t1 (i := 230) rfl) rfl)
  | 3, _ => exact (x_bw_in (x_t1 (i := 232) rfl) rfl)
  | 4, _ => exact (x_bw_in (x_t1 (i := 234) rfl) rfl)
  | 5, _ => exact (x_bw_in (x_t1 (i := 236) rfl) rfl)
  | 6, _ => exact (x_bw_in (x_t1 (i := 238) rfl) rfl)
  | k + 7, h => exact absurd h (by omega)
set_option maxRecDepth 20000 in
theorem x_C5 : (∀ w ∈ u_ws RX5 TX5 2, w ∈ x_bw) ∧ Cond.instantiable RX5 2 ∈ x_bw ∧ Cond.initialized RX5 ∈ x_bw := by
  refine ⟨fun w hw => ?_, (x_bw_in (x_t2 (i := 77) rfl) rfl), (x_bw_in (x_t1 (i := 10) rfl) rfl)⟩
  obtain ⟨k, hk, rfl⟩ := List.mem_map.mp hw
  have hk := List.mem_range.mp hk
  match k, hk with
  | 0, _ => exact (x_bw_in (x_t2 (i := 84) rfl) rfl)
  | 1, _ => exact (x_bw_in (x_t2 (i := 86) rfl) rfl)
  | k + 2, h => exact absurd h (by omega)
set_option maxRecDepth 20000 in
theorem x_C6 : (∀ w ∈ u_ws RX6 TX6 5, w ∈ x_bw) ∧ Cond.instantiable RX6 5 ∈ x_bw ∧ Cond.initialized RX6 ∈ x_bw := by
  refine ⟨fun w hw => ?_, (x_bw_in (x_t2 (i := 2) rfl) rfl), (x_bw_in (x_t1 (i := 7) rfl) rfl)⟩
  obtain ⟨k, hk, rfl⟩ := List.mem_map.mp hw
  have hk := List.mem_range.mp hk
  match k, hk with
  | 0, _ => exact (x_bw_in (x_t2 (i := 17) rfl) rfl)
  | 1, _ => exact (x_bw_in (x_t2 (i := 19) rfl) rfl)
  | 2, _ => exact (x_bw_in (x_t2 (i := 21) rfl) rfl)
  | 3, _ => exact (x_bw_in (x_t2 (i := 23) rfl) rfl)
  | 4, _ => exact (x_bw_in (x_t2 (i := 25) rfl) rfl)
  | k + 5, h => exact absurd h (by omega)
set_option maxRecDepth 20000 in
theorem x_C7 : (∀ w ∈ u_ws RX7 TX7 9, w ∈ x_bw) ∧ Cond.instantiable RX7 9 ∈ x_bw ∧ Cond.initialized RX7 ∈ x_bw := by
  refine ⟨fun w hw => ?_, (x_bw_in (x_t1 (i := 140) rfl) rfl), (x_bw_in (x_t1 (i := 4) rfl) rfl)⟩
  obtain ⟨k, hk, rfl⟩ := List.mem_map.mp hw
  have hk := List.mem_range.mp hk
  match k, hk with
  | 0, _ => exact (x_bw_in (x_t1 (i := 176) rfl) rfl)
  | 1, _ => exact (x_bw_in (x_t1 (i := 178) rfl) rfl)
  | 2, _ => exact (x_bw_in (x_t1 (i := 180) rfl) rfl)
  | 3, _ => exact (x_bw_in (x_t1 (i := 182) rfl) rfl)
  | 4, _ => exact (x_bw_in (x_t1 (i := 184) rfl) rfl)
  | 5, _ => exact (x_bw_in (x_t1 (i := 186) rfl) rfl)
  | 6, _ => exact (x_bw_in (x_t1 (i := 188) rfl) rfl)
  | 7, _ => exact (x_bw_in (x_t1 (i := 190) rfl) rfl)
  | 8, _ => exact (x_bw_in (x_t1 (i := 192) rfl) rfl)
  | k + 9, h => exact absurd h (by omega)
set_option maxRecDepth 20000 in
theorem x_C8 : (∀ w ∈ u_ws RX8 TX8 3, w ∈ x_bw) ∧ Cond.instantiable RX8 3 ∈ x_bw ∧ Cond.initialized RX8 ∈ x_bw := by
  refine ⟨fun w hw => ?_, (x_bw_in (x_t2 (i := 114) rfl) rfl), (x_bw_in (x_t1 (i := 12) rfl) rfl)⟩
  obtain ⟨k, hk, rfl⟩ := List.mem_map.mp hw
  have hk := List.mem_range.mp hk
  match k, hk with
  | 0, _ => exact (x_bw_in (x_t2 (i := 129) rfl) rfl)
  | 1, _ => exact (x_bw_in (x_t2 (i := 131) rfl) rfl)
  | 2, _ => exact (x_bw_in (x_t2 (i := 133) rfl) rfl)
  | k + 3, h => exact absurd h (by omega)
set_option maxRecDepth 20000 in
theorem x_C9 : (∀ w ∈ u_ws RX9 TX9 9, w ∈ x_bw) ∧ Cond.instantiable RX9 9 ∈ x_bw ∧ Cond.initialized RX9 ∈ x_bw := by
  refine ⟨fun w hw => ?_, (x_bw_in (x_t2 (i := 29) rfl) rfl), (x_bw_in (x_t1 (i := 8) rfl) rfl)⟩
  obtain ⟨k, hk, rfl⟩ := List.mem_map.mp hw
  have hk := List.mem_range.mp hk
  match k, hk with
  | 0, _ => exact (x_bw_in (x_t2 (i := 47) rfl) rfl)
  | 1, _ => exact (x_bw_in (x_t2 (i := 49) rfl) rfl)
  | 2, _ => exact (x_bw_in (x_t2 (i := 51) rfl) rfl)
  | 3, _ => exact (x_bw_in (x_t2 (i := 53) rfl) rfl)
  | 4, _ => exact (x_bw_in (x_t2 (i := 55) rfl) rfl)
  | 5, _ => exact (x_bw_in (x_t2 (i := 57) rfl) rfl)
  | 6, _ => exact (x_bw_in (x_t2 (i := 59) rfl) rfl)
  | 7, _ => exact (x_bw_in (x_t2 (i := 61) rfl) rfl)
  | 8, _ => exact (x_bw_in (x_t2 (i := 63) rfl) rfl)
  | k + 9, h => exact absurd h (by omega)
set_option maxRecDepth 20000 in
theorem x_C10 : (∀ w ∈ u_ws RX10 TX10 2, w ∈ x_bw) ∧ Cond.instantiable RX10 2 ∈ x_bw ∧ Cond.initialized RX10 ∈ x_bw := by
  refine ⟨fun w hw => ?_, (x_bw_in (x_t1 (i := 148) rfl) rfl), (x_bw_in (x_t1 (i := 5) rfl) rfl)⟩
  obtain ⟨k, hk, rfl⟩ := List.mem_map.mp hw
  have hk := List.mem_range.mp hk
  match k, hk with
  | 0, _ => exact (x_bw_in (x_t1 (i := 157) rfl) rfl)
  | 1, _ => exact (x_bw_in (x_t1 (i := 159) rfl) rfl)
  | k + 2, h => exact absurd h (by omega)
set_option maxRecDepth 20000 in
theorem x_C11 : (∀ w ∈ u_ws RX11 TX11 11, w ∈ x_bw) ∧ Cond.instantiable RX11 11 ∈ x_bw ∧ Cond.initialized RX11 ∈ x_bw := by
  refine ⟨fun w hw => ?_, (x_bw_in (x_t1 (i := 22) rfl) rfl), (x_bw_in (x_t1 (i := 1) rfl) rfl)⟩
  obtain ⟨k, hk, rfl⟩ := List.mem_map.mp hw
  have hk := List.mem_range.mp hk
  match k, hk with
  | 0, _ => exact (x_bw_in (x_t2 (i := 147) rfl) rfl)
  | 1, _ => exact (x_bw_in (x_t2 (i := 149) rfl) rfl)
  | 2, _ => exact (x_bw_in (x_t2 (i := 151) rfl) rfl)
  | 3, _ => exact (x_bw_in (x_t2 (i := 153) rfl) rfl)
  | 4, _ => exact (x_bw_in (x_t2 (i := 155) rfl) rfl)
  | 5, _ => exact (x_bw_in (x_t2 (i := 157) rfl) rfl)
  | 6, _ => exact (x_bw_in (x_t2 (i := 159) rfl) rfl)
  | 7, _ => exact (x_bw_in (x_t2 (i := 161) rfl) rfl)
  | 8, _ => exact (x_bw_in (x_t2 (i := 163) rfl) rfl)
  | 9, _ => exact (x_bw_in (x_t2 (i := 165) rfl) rfl)
  | 10, _ => exact (x_bw_in (x_t2 (i := 167) rfl) rfl)
  | k + 11, h => exact absurd h (by omega)
set_option maxRecDepth 20000 in
theorem x_C12 : (∀ w ∈ u_ws RX12 TX12 47, w ∈ x_bw) ∧ Cond.instantiable RX12 47 ∈ x_bw ∧ Cond.initialized RX12 ∈ x_bw := by
  refine ⟨fun w hw => ?_, (x_bw_in (x_t6 (i := 73) rfl) rfl), (x_bw_in (x_t1 (i := 13) rfl) rfl)⟩
  obtain ⟨k, hk, rfl⟩ := List.mem_map.mp hw
  have hk := List.mem_range.mp hk
  match k, hk with
  | 0, _ => exact (x_bw_in (x_t6 (i := 124) rfl) rfl)
  | 1, _ => exact (x_bw_in (x_t6 (i := 126) rfl) rfl)
  | 2, _ => exact (x_bw_in (x_t6 (i := 128) rfl) rfl)
  | 3, _ => exact (x_bw_in (x_t6 (i := 130) rfl) rfl)
  | 4, _ => exact (x_bw_in (x_t6 (i := 132) rfl) rfl)
  | 5, _ => exact (x_bw_in (x_t6 (i := 134) rfl) rfl)
  | 6, _ => exact (x_bw_in (x_t6 (i := 136) rfl) rfl)
  | 7, _ => exact (x_bw_in (x_t6 (i := 138) rfl) rfl)
  | 8, _ => exact (x_bw_in (x_t6 (i := 140) rfl) rfl)
  | 9, _ => exact (x_bw_in (x_t6 (i := 142) rfl) rfl)
  | 10, _ => exact (x_bw_in (x_t6 (i := 144) rfl) rfl)
  | 11, _ => exact (x_bw_in (x_t6 (i := 146) rfl) rfl)
  | 12, _ => exact (x_bw_in (x_t6 (i := 148) rfl) rfl)
  | 13, _ => exact (x_bw_in (x_t6 (i := 150) rfl) rfl)
  | 14, _ => exact (x_bw_in (x_t6 (i := 152) rfl) rfl)
  | 15, _ => exact (x_bw_in (x_t6 (i := 154) rfl) rfl)
  | 16, _ => exact (x_bw_in (x_t6 (i := 156) rfl) rfl)
  | 17, _ => exact (x_bw_in (x_t6 (i := 158) rfl) rfl)
  | 18, _ => exact (x_bw_in (x_t6 (i := 160) rfl) rfl)
  | 19, _ => exact (x_bw_in (x_t6 (i := 162) rfl) rfl)
  | 20, _ => exact (x_bw_in (x_t6 (i := 164) rfl) rfl)
  | 21, _ => exact (x_bw_in (x_t6 (i := 166) rfl) rfl)
  | 22, _ => exact (x_bw_in (x_t6 (i := 168) rfl) rfl)
  | 23, _ => exact (x_bw_in (x_t6 (i := 170) rfl) rfl)
  | 24, _ => exact (x_bw_in (x_t6 (i := 172) rfl) rfl)
  | 25, _ => exact (x_bw_in (x_t6 (i := 174) rfl) rfl)
  | 26, _ => exact (x_bw_in (x_t6 (i := 176) rfl) rfl)
  | 27, _ => exact (x_bw_in (x_t6 (i := 178) rfl) rfl)
  | 28, _ => exact (x_bw_in (x_t6 (i := 180) rfl) rfl)
  | 29, _ => exact (x_bw_in (x_t6 (i := 182) rfl) rfl)
  | 30, _ => exact (x_bw_in (x_t6 (i := 184) rfl) rfl)
  | 31, _ => exact (x_bw_in (x_t6 (i := 186) rfl) rfl)
  | 32, _ => exact (x_bw_in (x_t6 (i := 188) rfl) rfl)
  | 33, _ => exact (x_bw_in (x_t6 (i := 190) rfl) rfl)
  | 34, _ => exact (x_bw_in (x_t6 (i := 192) rfl) rfl)
  | 35, _ => exact (x_bw_in (x_t6 (i := 194) rfl) rfl)
  | 36, _ => exact (x_bw_in (x_t6 (i := 196) rfl) rfl)
  | 37, _ => exact (x_bw_in (x_t6 (i := 198) rfl) rfl)
  | 38, _ => exact (x_bw_in (x_t6 (i := 200) rfl) rfl)
  | 39, _ => exact (x_bw_in (x_t6 (i := 202) rfl) rfl)
  | 40, _ => exact (x_bw_in (x_t6 (i := 204) rfl) rfl)
  | 41, _ => exact (x_bw_in (x_t6 (i := 206) rfl) rfl)
  | 42, _ => exact (x_bw_in (x_t6 (i := 208) rfl) rfl)
  | 43, _ => exact (x_bw_in (x_t6 (i := 210) rfl) rfl)
  | 44, _ => exact (x_bw_in (x_t6 (i := 212) rfl) rfl)
  | 45, _ => exact (x_bw_in (x_t6 (i := 214) rfl) rfl)
  | 46, _ => exact (x_bw_in (x_t6 (i := 216) rfl) rfl)
  | k + 47, h => exact absurd h (by omega)
theorem x_okC_ok : x_okC := by
  intro ci C T N h
  match ci, h with
  | 0, h => cases h; exact ⟨x_C0.1, tyX0_ok, nmX0, x_C0.2.1, x_C0.2.2⟩
  | 1, h => cases h; exact ⟨x_C1.1, tyX1_ok, nmX1, x_C1.2.1, x_C1.2.2⟩
  | 2, h => cases h; exact ⟨x_C2.1, tyX2_ok, nmX2, x_C2.2.1, x_C2.2.2⟩
  | 3, h => cases h; exact ⟨x_C3.1, tyX3_ok, nmX3, x_C3.2.1, x_C3.2.2⟩
  | 4, h => cases h; exact ⟨x_C4.1, tyX4_ok, nmX4, x_C4.2.1, x_C4.2.2⟩
  | 5, h => cases h; exact ⟨x_C5.1, tyX5_ok, nmX5, x_C5.2.1, x_C5.2.2⟩
  | 6, h => cases h; exact ⟨x_C6.1, tyX6_ok, nmX6, x_C6.2.1, x_C6.2.2⟩
  | 7, h => cases h; exact ⟨x_C7.1, tyX7_ok, nmX7, x_C7.2.1, x_C7.2.2⟩
  | 8, h => cases h; exact ⟨x_C8.1, tyX8_ok, nmX8, x_C8.2.1, x_C8.2.2⟩
  | 9, h => cases h; exact ⟨x_C9.1, tyX9_ok, nmX9, x_C9.2.1, x_C9.2.2⟩
  | 10, h => cases h; exact ⟨x_C10.1, tyX10_ok, nmX10, x_C10.2.1, x_C10.2.2⟩
  | 11, h => cases h; exact ⟨x_C11.1, tyX11_ok, nmX11, x_C11.2.1, x_C11.2.2⟩
  | 12, h => cases h; exact ⟨x_C12.1, tyX12_ok, nmX12, x_C12.2.1, x_C12.2.2⟩
  | k + 13, h => exact absurd h (by simp [vwCl])
