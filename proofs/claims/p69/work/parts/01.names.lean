-- ===== PART A: goes FIRST, ahead of the names: the tables' words, and 'selects' of the private methods out of them =====
/-- a private method of a class that the tables say can be made, by its rows of tables_1 -/
def lw_okq (q : MethodName × Nat) : Prop := (q.1.cls ≠ "java/lang/invoke/MethodHandle" ∧ q.1.cls ≠ "java/lang/invoke/VarHandle") ∧ Cond.instantiable q.1.cls q.2 ∈ tables_1 ∧ Cond.privateMethod q.1 ∈ tables_1 ∧ Cond.instanceMethod q.1 ∈ tables_1
theorem lw_p0 : lw_okq (⟨"MoleBoard$Reader", "step", "()V"⟩, 9) := ⟨⟨by decide +kernel, by decide +kernel⟩, List.mem_of_getElem? (i := 140) (by decide +kernel), List.mem_of_getElem? (i := 439) (by decide +kernel), List.mem_of_getElem? (i := 440) (by decide +kernel)⟩
theorem lw_p1 : lw_okq (⟨"MoleBoard$Reader", "readLine", "()V"⟩, 9) := ⟨⟨by decide +kernel, by decide +kernel⟩, List.mem_of_getElem? (i := 140) (by decide +kernel), List.mem_of_getElem? (i := 460) (by decide +kernel), List.mem_of_getElem? (i := 461) (by decide +kernel)⟩
theorem lw_p2 : lw_okq (⟨"MoleBoard$Reader", "kindOfLine", "()I"⟩, 9) := ⟨⟨by decide +kernel, by decide +kernel⟩, List.mem_of_getElem? (i := 140) (by decide +kernel), List.mem_of_getElem? (i := 464) (by decide +kernel), List.mem_of_getElem? (i := 465) (by decide +kernel)⟩
theorem lw_p3 : lw_okq (⟨"MoleBoard$Reader", "standsAt", "(Ljava/lang/String;I)Z"⟩, 9) := ⟨⟨by decide +kernel, by decide +kernel⟩, List.mem_of_getElem? (i := 140) (by decide +kernel), List.mem_of_getElem? (i := 479) (by decide +kernel), List.mem_of_getElem? (i := 480) (by decide +kernel)⟩
theorem lw_p4 : lw_okq (⟨"MoleBoard$Reader", "isSpelled", "(Ljava/lang/String;I)Z"⟩, 9) := ⟨⟨by decide +kernel, by decide +kernel⟩, List.mem_of_getElem? (i := 140) (by decide +kernel), List.mem_of_getElem? (i := 531) (by decide +kernel), List.mem_of_getElem? (i := 532) (by decide +kernel)⟩
theorem lw_p5 : lw_okq (⟨"MoleBoard$Reader", "blame", "(I)V"⟩, 9) := ⟨⟨by decide +kernel, by decide +kernel⟩, List.mem_of_getElem? (i := 140) (by decide +kernel), List.mem_of_getElem? (i := 535) (by decide +kernel), List.mem_of_getElem? (i := 536) (by decide +kernel)⟩
theorem lw_p6 : lw_okq (⟨"MoleBoard$Reader", "isFull", "(I)Z"⟩, 9) := ⟨⟨by decide +kernel, by decide +kernel⟩, List.mem_of_getElem? (i := 140) (by decide +kernel), List.mem_of_getElem? (i := 539) (by decide +kernel), List.mem_of_getElem? (i := 540) (by decide +kernel)⟩
theorem lw_p7 : lw_okq (⟨"MoleBoard$Reader", "judge", "(II)I"⟩, 9) := ⟨⟨by decide +kernel, by decide +kernel⟩, List.mem_of_getElem? (i := 140) (by decide +kernel), List.mem_of_getElem? (i := 546) (by decide +kernel), List.mem_of_getElem? (i := 547) (by decide +kernel)⟩
theorem lw_p8 : lw_okq (⟨"MoleBoard$Reader", "fitsBoard", "(I)Z"⟩, 9) := ⟨⟨by decide +kernel, by decide +kernel⟩, List.mem_of_getElem? (i := 140) (by decide +kernel), List.mem_of_getElem? (i := 550) (by decide +kernel), List.mem_of_getElem? (i := 551) (by decide +kernel)⟩
theorem lw_p9 : lw_okq (⟨"MoleBoard$Reader", "within", "(II)I"⟩, 9) := ⟨⟨by decide +kernel, by decide +kernel⟩, List.mem_of_getElem? (i := 140) (by decide +kernel), List.mem_of_getElem? (i := 554) (by decide +kernel), List.mem_of_getElem? (i := 555) (by decide +kernel)⟩
theorem lw_p10 : lw_okq (⟨"MoleBoard$Reader", "judgeFrom", "()I"⟩, 9) := ⟨⟨by decide +kernel, by decide +kernel⟩, List.mem_of_getElem? (i := 140) (by decide +kernel), List.mem_of_getElem? (i := 558) (by decide +kernel), List.mem_of_getElem? (i := 559) (by decide +kernel)⟩
theorem lw_p11 : lw_okq (⟨"MoleBoard$Reader", "isOpen", "()Z"⟩, 9) := ⟨⟨by decide +kernel, by decide +kernel⟩, List.mem_of_getElem? (i := 140) (by decide +kernel), List.mem_of_getElem? (i := 570) (by decide +kernel), List.mem_of_getElem? (i := 571) (by decide +kernel)⟩
theorem lw_p12 : lw_okq (⟨"MoleBoard$Reader", "apply", "(I)V"⟩, 9) := ⟨⟨by decide +kernel, by decide +kernel⟩, List.mem_of_getElem? (i := 140) (by decide +kernel), List.mem_of_getElem? (i := 595) (by decide +kernel), List.mem_of_getElem? (i := 596) (by decide +kernel)⟩
theorem lw_p13 : lw_okq (⟨"MoleBoard$Reader", "addPlayer", "()V"⟩, 9) := ⟨⟨by decide +kernel, by decide +kernel⟩, List.mem_of_getElem? (i := 140) (by decide +kernel), List.mem_of_getElem? (i := 607) (by decide +kernel), List.mem_of_getElem? (i := 608) (by decide +kernel)⟩
theorem lw_p14 : lw_okq (⟨"MoleBoard", "rowsKept", "()I"⟩, 11) := ⟨⟨by decide +kernel, by decide +kernel⟩, List.mem_of_getElem? (i := 22) (by decide +kernel), List.mem_of_getElem? (i := 664) (by decide +kernel), List.mem_of_getElem? (i := 665) (by decide +kernel)⟩
theorem lw_p15 : lw_okq (⟨"MoleBoard$Game", "begin", "()V"⟩, 7) := ⟨⟨by decide +kernel, by decide +kernel⟩, List.mem_of_getElem? (i := 196) (by decide +kernel), List.mem_of_getElem? (i := 684) (by decide +kernel), List.mem_of_getElem? (i := 685) (by decide +kernel)⟩
def lw_privs_1 : List (MethodName × Nat) := [(⟨"MoleBoard$Reader", "step", "()V"⟩, 9), (⟨"MoleBoard$Reader", "readLine", "()V"⟩, 9), (⟨"MoleBoard$Reader", "kindOfLine", "()I"⟩, 9), (⟨"MoleBoard$Reader", "standsAt", "(Ljava/lang/String;I)Z"⟩, 9), (⟨"MoleBoard$Reader", "isSpelled", "(Ljava/lang/String;I)Z"⟩, 9), (⟨"MoleBoard$Reader", "blame", "(I)V"⟩, 9), (⟨"MoleBoard$Reader", "isFull", "(I)Z"⟩, 9), (⟨"MoleBoard$Reader", "judge", "(II)I"⟩, 9), (⟨"MoleBoard$Reader", "fitsBoard", "(I)Z"⟩, 9), (⟨"MoleBoard$Reader", "within", "(II)I"⟩, 9), (⟨"MoleBoard$Reader", "judgeFrom", "()I"⟩, 9), (⟨"MoleBoard$Reader", "isOpen", "()Z"⟩, 9), (⟨"MoleBoard$Reader", "apply", "(I)V"⟩, 9), (⟨"MoleBoard$Reader", "addPlayer", "()V"⟩, 9), (⟨"MoleBoard", "rowsKept", "()I"⟩, 11), (⟨"MoleBoard$Game", "begin", "()V"⟩, 7)]
theorem lw_r1 : ∀ q ∈ lw_privs_1, lw_okq q := List.forall_mem_cons.mpr ⟨lw_p0, List.forall_mem_cons.mpr ⟨lw_p1, List.forall_mem_cons.mpr ⟨lw_p2, List.forall_mem_cons.mpr ⟨lw_p3, List.forall_mem_cons.mpr ⟨lw_p4, List.forall_mem_cons.mpr ⟨lw_p5, List.forall_mem_cons.mpr ⟨lw_p6, List.forall_mem_cons.mpr ⟨lw_p7, List.forall_mem_cons.mpr ⟨lw_p8, List.forall_mem_cons.mpr ⟨lw_p9, List.forall_mem_cons.mpr ⟨lw_p10, List.forall_mem_cons.mpr ⟨lw_p11, List.forall_mem_cons.mpr ⟨lw_p12, List.forall_mem_cons.mpr ⟨lw_p13, List.forall_mem_cons.mpr ⟨lw_p14, List.forall_mem_cons.mpr ⟨lw_p15, fun _ h => absurd h List.not_mem_nil⟩⟩⟩⟩⟩⟩⟩⟩⟩⟩⟩⟩⟩⟩⟩⟩
theorem lw_p16 : lw_okq (⟨"MoleBoard$Game", "hasRoom", "(LMoleBoard$Board;)Z"⟩, 7) := ⟨⟨by decide +kernel, by decide +kernel⟩, List.mem_of_getElem? (i := 196) (by decide +kernel), List.mem_of_getElem? (i := 689) (by decide +kernel), List.mem_of_getElem? (i := 690) (by decide +kernel)⟩
theorem lw_p17 : lw_okq (⟨"MoleBoard$Game", "add", "(LMoleBoard$Board;III)V"⟩, 7) := ⟨⟨by decide +kernel, by decide +kernel⟩, List.mem_of_getElem? (i := 196) (by decide +kernel), List.mem_of_getElem? (i := 695) (by decide +kernel), List.mem_of_getElem? (i := 696) (by decide +kernel)⟩
theorem lw_p18 : lw_okq (⟨"MoleBoard", "makeReady", "(I)Z"⟩, 11) := ⟨⟨by decide +kernel, by decide +kernel⟩, List.mem_of_getElem? (i := 22) (by decide +kernel), List.mem_of_getElem? (i := 753) (by decide +kernel), List.mem_of_getElem? (i := 754) (by decide +kernel)⟩
theorem lw_p19 : lw_okq (⟨"MoleBoard", "runOf", "(I)Z"⟩, 11) := ⟨⟨by decide +kernel, by decide +kernel⟩, List.mem_of_getElem? (i := 22) (by decide +kernel), List.mem_of_getElem? (i := 767) (by decide +kernel), List.mem_of_getElem? (i := 768) (by decide +kernel)⟩
theorem lw_p20 : lw_okq (⟨"MoleBoard$Run", "begin", "(LMoleBoard$Game;LMoleBoard$Player;)V"⟩, 9) := ⟨⟨by decide +kernel, by decide +kernel⟩, List.mem_of_getElem? (i := 269) (by decide +kernel), List.mem_of_getElem? (i := 775) (by decide +kernel), List.mem_of_getElem? (i := 776) (by decide +kernel)⟩
theorem lw_p21 : lw_okq (⟨"MoleBoard$Run", "goFor", "(LMoleBoard$Board;LMoleBoard$Game;LMoleBoard$Player;II)V"⟩, 9) := ⟨⟨by decide +kernel, by decide +kernel⟩, List.mem_of_getElem? (i := 269) (by decide +kernel), List.mem_of_getElem? (i := 779) (by decide +kernel), List.mem_of_getElem? (i := 780) (by decide +kernel)⟩
theorem lw_p22 : lw_okq (⟨"MoleBoard$Run", "strike", "(LMoleBoard$Board;LMoleBoard$Game;LMoleBoard$Player;II)Z"⟩, 9) := ⟨⟨by decide +kernel, by decide +kernel⟩, List.mem_of_getElem? (i := 269) (by decide +kernel), List.mem_of_getElem? (i := 787) (by decide +kernel), List.mem_of_getElem? (i := 788) (by decide +kernel)⟩
theorem lw_p23 : lw_okq (⟨"MoleBoard$Best", "keep", "(III)V"⟩, 1) := ⟨⟨by decide +kernel, by decide +kernel⟩, List.mem_of_getElem? (i := 307) (by decide +kernel), List.mem_of_getElem? (i := 854) (by decide +kernel), List.mem_of_getElem? (i := 855) (by decide +kernel)⟩
theorem lw_p24 : lw_okq (⟨"MoleBoard$Best", "goOn", "(LMoleBoard$Board;LMoleBoard$Game;LMoleBoard$Player;II)I"⟩, 1) := ⟨⟨by decide +kernel, by decide +kernel⟩, List.mem_of_getElem? (i := 307) (by decide +kernel), List.mem_of_getElem? (i := 858) (by decide +kernel), List.mem_of_getElem? (i := 859) (by decide +kernel)⟩
theorem lw_p25 : lw_okq (⟨"MoleBoard$Best", "freeAt", "(II)I"⟩, 1) := ⟨⟨by decide +kernel, by decide +kernel⟩, List.mem_of_getElem? (i := 307) (by decide +kernel), List.mem_of_getElem? (i := 863) (by decide +kernel), List.mem_of_getElem? (i := 864) (by decide +kernel)⟩
theorem lw_p26 : lw_okq (⟨"MoleBoard", "hitsKnowing", "(I)I"⟩, 11) := ⟨⟨by decide +kernel, by decide +kernel⟩, List.mem_of_getElem? (i := 22) (by decide +kernel), List.mem_of_getElem? (i := 875) (by decide +kernel), List.mem_of_getElem? (i := 876) (by decide +kernel)⟩
theorem lw_p27 : lw_okq (⟨"MoleBoard", "hitsLagging", "(I)I"⟩, 11) := ⟨⟨by decide +kernel, by decide +kernel⟩, List.mem_of_getElem? (i := 22) (by decide +kernel), List.mem_of_getElem? (i := 892) (by decide +kernel), List.mem_of_getElem? (i := 893) (by decide +kernel)⟩
theorem lw_p28 : lw_okq (⟨"MoleBoard", "countLots", "(II)Z"⟩, 11) := ⟨⟨by decide +kernel, by decide +kernel⟩, List.mem_of_getElem? (i := 22) (by decide +kernel), List.mem_of_getElem? (i := 940) (by decide +kernel), List.mem_of_getElem? (i := 941) (by decide +kernel)⟩
theorem lw_p29 : lw_okq (⟨"MoleBoard$Lots", "waysTo", "(II)J"⟩, 2) := ⟨⟨by decide +kernel, by decide +kernel⟩, List.mem_of_getElem? (i := 317) (by decide +kernel), List.mem_of_getElem? (i := 963) (by decide +kernel), List.mem_of_getElem? (i := 964) (by decide +kernel)⟩
theorem lw_p30 : lw_okq (⟨"MoleBoard$Lots", "growFrom", "(LMoleBoard$Board;III)V"⟩, 2) := ⟨⟨by decide +kernel, by decide +kernel⟩, List.mem_of_getElem? (i := 317) (by decide +kernel), List.mem_of_getElem? (i := 967) (by decide +kernel), List.mem_of_getElem? (i := 968) (by decide +kernel)⟩
theorem lw_p31 : lw_okq (⟨"MoleBoard", "whyUnheard", "(I)I"⟩, 11) := ⟨⟨by decide +kernel, by decide +kernel⟩, List.mem_of_getElem? (i := 22) (by decide +kernel), List.mem_of_getElem? (i := 1015) (by decide +kernel), List.mem_of_getElem? (i := 1016) (by decide +kernel)⟩
def lw_privs_2 : List (MethodName × Nat) := [(⟨"MoleBoard$Game", "hasRoom", "(LMoleBoard$Board;)Z"⟩, 7), (⟨"MoleBoard$Game", "add", "(LMoleBoard$Board;III)V"⟩, 7), (⟨"MoleBoard", "makeReady", "(I)Z"⟩, 11), (⟨"MoleBoard", "runOf", "(I)Z"⟩, 11), (⟨"MoleBoard$Run", "begin", "(LMoleBoard$Game;LMoleBoard$Player;)V"⟩, 9), (⟨"MoleBoard$Run", "goFor", "(LMoleBoard$Board;LMoleBoard$Game;LMoleBoard$Player;II)V"⟩, 9), (⟨"MoleBoard$Run", "strike", "(LMoleBoard$Board;LMoleBoard$Game;LMoleBoard$Player;II)Z"⟩, 9), (⟨"MoleBoard$Best", "keep", "(III)V"⟩, 1), (⟨"MoleBoard$Best", "goOn", "(LMoleBoard$Board;LMoleBoard$Game;LMoleBoard$Player;II)I"⟩, 1), (⟨"MoleBoard$Best", "freeAt", "(II)I"⟩, 1), (⟨"MoleBoard", "hitsKnowing", "(I)I"⟩, 11), (⟨"MoleBoard", "hitsLagging", "(I)I"⟩, 11), (⟨"MoleBoard", "countLots", "(II)Z"⟩, 11), (⟨"MoleBoard$Lots", "waysTo", "(II)J"⟩, 2), (⟨"MoleBoard$Lots", "growFrom", "(LMoleBoard$Board;III)V"⟩, 2), (⟨"MoleBoard", "whyUnheard", "(I)I"⟩, 11)]
theorem lw_r2 : ∀ q ∈ lw_privs_2, lw_okq q := List.forall_mem_cons.mpr ⟨lw_p16, List.forall_mem_cons.mpr ⟨lw_p17, List.forall_mem_cons.mpr ⟨lw_p18, List.forall_mem_cons.mpr ⟨lw_p19, List.forall_mem_cons.mpr ⟨lw_p20, List.forall_mem_cons.mpr ⟨lw_p21, List.forall_mem_cons.mpr ⟨lw_p22, List.forall_mem_cons.mpr ⟨lw_p23, List.forall_mem_cons.mpr ⟨lw_p24, List.forall_mem_cons.mpr ⟨lw_p25, List.forall_mem_cons.mpr ⟨lw_p26, List.forall_mem_cons.mpr ⟨lw_p27, List.forall_mem_cons.mpr ⟨lw_p28, List.forall_mem_cons.mpr ⟨lw_p29, List.forall_mem_cons.mpr ⟨lw_p30, List.forall_mem_cons.mpr ⟨lw_p31, fun _ h => absurd h List.not_mem_nil⟩⟩⟩⟩⟩⟩⟩⟩⟩⟩⟩⟩⟩⟩⟩⟩
theorem lw_p32 : lw_okq (⟨"MoleBoard$Row", "isPeriod", "(I)Z"⟩, 3) := ⟨⟨by decide +kernel, by decide +kernel⟩, List.mem_of_getElem? (i := 354) (by decide +kernel), List.mem_of_getElem? (i := 1030) (by decide +kernel), List.mem_of_getElem? (i := 1031) (by decide +kernel)⟩
theorem lw_p33 : lw_okq (⟨"MoleBoard$Drum", "alike", "(II)I"⟩, 5) := ⟨⟨by decide +kernel, by decide +kernel⟩, List.mem_of_getElem? (i := 36) (by decide +kernel), List.mem_of_getElem? (i := 1072) (by decide +kernel), List.mem_of_getElem? (i := 1073) (by decide +kernel)⟩
theorem lw_p34 : lw_okq (⟨"MoleBoard", "lookPoints", "(I)I"⟩, 11) := ⟨⟨by decide +kernel, by decide +kernel⟩, List.mem_of_getElem? (i := 22) (by decide +kernel), List.mem_of_getElem? (i := 1094) (by decide +kernel), List.mem_of_getElem? (i := 1095) (by decide +kernel)⟩
theorem lw_p35 : lw_okq (⟨"MoleBoard", "ticketsOfRun", "()I"⟩, 11) := ⟨⟨by decide +kernel, by decide +kernel⟩, List.mem_of_getElem? (i := 22) (by decide +kernel), List.mem_of_getElem? (i := 1120) (by decide +kernel), List.mem_of_getElem? (i := 1121) (by decide +kernel)⟩
theorem lw_p36 : lw_okq (⟨"MoleBoard", "whyNoBlows", "(I)I"⟩, 11) := ⟨⟨by decide +kernel, by decide +kernel⟩, List.mem_of_getElem? (i := 22) (by decide +kernel), List.mem_of_getElem? (i := 1132) (by decide +kernel), List.mem_of_getElem? (i := 1133) (by decide +kernel)⟩
theorem lw_p37 : lw_okq (⟨"MoleBoard$Blows", "judgeOne", "(LMoleBoard$Game;III)V"⟩, 4) := ⟨⟨by decide +kernel, by decide +kernel⟩, List.mem_of_getElem? (i := 331) (by decide +kernel), List.mem_of_getElem? (i := 1140) (by decide +kernel), List.mem_of_getElem? (i := 1141) (by decide +kernel)⟩
theorem lw_p38 : lw_okq (⟨"MoleBoardModel", "advance", "()V"⟩, 47) := ⟨⟨by decide +kernel, by decide +kernel⟩, List.mem_of_getElem? (i := 1273) (by decide +kernel), List.mem_of_getElem? (i := 1449) (by decide +kernel), List.mem_of_getElem? (i := 1450) (by decide +kernel)⟩
theorem lw_p39 : lw_okq (⟨"MoleBoardModel", "see", "(I)I"⟩, 47) := ⟨⟨by decide +kernel, by decide +kernel⟩, List.mem_of_getElem? (i := 1273) (by decide +kernel), List.mem_of_getElem? (i := 1453) (by decide +kernel), List.mem_of_getElem? (i := 1454) (by decide +kernel)⟩
theorem lw_p40 : lw_okq (⟨"MoleBoardModel", "good", "()Z"⟩, 47) := ⟨⟨by decide +kernel, by decide +kernel⟩, List.mem_of_getElem? (i := 1273) (by decide +kernel), List.mem_of_getElem? (i := 1463) (by decide +kernel), List.mem_of_getElem? (i := 1464) (by decide +kernel)⟩
theorem lw_p41 : lw_okq (⟨"MoleBoardModel", "readLine", "()V"⟩, 47) := ⟨⟨by decide +kernel, by decide +kernel⟩, List.mem_of_getElem? (i := 1273) (by decide +kernel), List.mem_of_getElem? (i := 1467) (by decide +kernel), List.mem_of_getElem? (i := 1468) (by decide +kernel)⟩
theorem lw_p42 : lw_okq (⟨"MoleBoardModel", "readFirst", "()V"⟩, 47) := ⟨⟨by decide +kernel, by decide +kernel⟩, List.mem_of_getElem? (i := 1273) (by decide +kernel), List.mem_of_getElem? (i := 1471) (by decide +kernel), List.mem_of_getElem? (i := 1472) (by decide +kernel)⟩
theorem lw_p43 : lw_okq (⟨"MoleBoardModel", "needs", "(Ljava/lang/String;)V"⟩, 47) := ⟨⟨by decide +kernel, by decide +kernel⟩, List.mem_of_getElem? (i := 1273) (by decide +kernel), List.mem_of_getElem? (i := 1476) (by decide +kernel), List.mem_of_getElem? (i := 1477) (by decide +kernel)⟩
theorem lw_p44 : lw_okq (⟨"MoleBoardModel", "takes", "(Ljava/lang/String;)Z"⟩, 47) := ⟨⟨by decide +kernel, by decide +kernel⟩, List.mem_of_getElem? (i := 1273) (by decide +kernel), List.mem_of_getElem? (i := 1480) (by decide +kernel), List.mem_of_getElem? (i := 1481) (by decide +kernel)⟩
theorem lw_p45 : lw_okq (⟨"MoleBoardModel", "is", "(Ljava/lang/String;)Z"⟩, 47) := ⟨⟨by decide +kernel, by decide +kernel⟩, List.mem_of_getElem? (i := 1273) (by decide +kernel), List.mem_of_getElem? (i := 1484) (by decide +kernel), List.mem_of_getElem? (i := 1485) (by decide +kernel)⟩
theorem lw_p46 : lw_okq (⟨"MoleBoardModel", "errs", "(I)V"⟩, 47) := ⟨⟨by decide +kernel, by decide +kernel⟩, List.mem_of_getElem? (i := 1273) (by decide +kernel), List.mem_of_getElem? (i := 1490) (by decide +kernel), List.mem_of_getElem? (i := 1491) (by decide +kernel)⟩
theorem lw_p47 : lw_okq (⟨"MoleBoardModel", "told", "(Ljava/lang/String;II)I"⟩, 47) := ⟨⟨by decide +kernel, by decide +kernel⟩, List.mem_of_getElem? (i := 1273) (by decide +kernel), List.mem_of_getElem? (i := 1495) (by decide +kernel), List.mem_of_getElem? (i := 1496) (by decide +kernel)⟩
def lw_privs_3 : List (MethodName × Nat) := [(⟨"MoleBoard$Row", "isPeriod", "(I)Z"⟩, 3), (⟨"MoleBoard$Drum", "alike", "(II)I"⟩, 5), (⟨"MoleBoard", "lookPoints", "(I)I"⟩, 11), (⟨"MoleBoard", "ticketsOfRun", "()I"⟩, 11), (⟨"MoleBoard", "whyNoBlows", "(I)I"⟩, 11), (⟨"MoleBoard$Blows", "judgeOne", "(LMoleBoard$Game;III)V"⟩, 4), (⟨"MoleBoardModel", "advance", "()V"⟩, 47), (⟨"MoleBoardModel", "see", "(I)I"⟩, 47), (⟨"MoleBoardModel", "good", "()Z"⟩, 47), (⟨"MoleBoardModel", "readLine", "()V"⟩, 47), (⟨"MoleBoardModel", "readFirst", "()V"⟩, 47), (⟨"MoleBoardModel", "needs", "(Ljava/lang/String;)V"⟩, 47), (⟨"MoleBoardModel", "takes", "(Ljava/lang/String;)Z"⟩, 47), (⟨"MoleBoardModel", "is", "(Ljava/lang/String;)Z"⟩, 47), (⟨"MoleBoardModel", "errs", "(I)V"⟩, 47), (⟨"MoleBoardModel", "told", "(Ljava/lang/String;II)I"⟩, 47)]
theorem lw_r3 : ∀ q ∈ lw_privs_3, lw_okq q := List.forall_mem_cons.mpr ⟨lw_p32, List.forall_mem_cons.mpr ⟨lw_p33, List.forall_mem_cons.mpr ⟨lw_p34, List.forall_mem_cons.mpr ⟨lw_p35, List.forall_mem_cons.mpr ⟨lw_p36, List.forall_mem_cons.mpr ⟨lw_p37, List.forall_mem_cons.mpr ⟨lw_p38, List.forall_mem_cons.mpr ⟨lw_p39, List.forall_mem_cons.mpr ⟨lw_p40, List.forall_mem_cons.mpr ⟨lw_p41, List.forall_mem_cons.mpr ⟨lw_p42, List.forall_mem_cons.mpr ⟨lw_p43, List.forall_mem_cons.mpr ⟨lw_p44, List.forall_mem_cons.mpr ⟨lw_p45, List.forall_mem_cons.mpr ⟨lw_p46, List.forall_mem_cons.mpr ⟨lw_p47, fun _ h => absurd h List.not_mem_nil⟩⟩⟩⟩⟩⟩⟩⟩⟩⟩⟩⟩⟩⟩⟩⟩
theorem lw_p48 : lw_okq (⟨"MoleBoardModel", "number", "(II)I"⟩, 47) := ⟨⟨by decide +kernel, by decide +kernel⟩, List.mem_of_getElem? (i := 1273) (by decide +kernel), List.mem_of_getElem? (i := 1499) (by decide +kernel), List.mem_of_getElem? (i := 1500) (by decide +kernel)⟩
theorem lw_p49 : lw_okq (⟨"MoleBoardModel", "readNext", "()V"⟩, 47) := ⟨⟨by decide +kernel, by decide +kernel⟩, List.mem_of_getElem? (i := 1273) (by decide +kernel), List.mem_of_getElem? (i := 1506) (by decide +kernel), List.mem_of_getElem? (i := 1507) (by decide +kernel)⟩
theorem lw_p50 : lw_okq (⟨"MoleBoardModel", "readStay", "()V"⟩, 47) := ⟨⟨by decide +kernel, by decide +kernel⟩, List.mem_of_getElem? (i := 1273) (by decide +kernel), List.mem_of_getElem? (i := 1517) (by decide +kernel), List.mem_of_getElem? (i := 1518) (by decide +kernel)⟩
theorem lw_p51 : lw_okq (⟨"MoleBoardModel", "freshStay", "(I)I"⟩, 47) := ⟨⟨by decide +kernel, by decide +kernel⟩, List.mem_of_getElem? (i := 1273) (by decide +kernel), List.mem_of_getElem? (i := 1522) (by decide +kernel), List.mem_of_getElem? (i := 1523) (by decide +kernel)⟩
theorem lw_p52 : lw_okq (⟨"MoleBoardModel", "readShut", "()V"⟩, 47) := ⟨⟨by decide +kernel, by decide +kernel⟩, List.mem_of_getElem? (i := 1273) (by decide +kernel), List.mem_of_getElem? (i := 1526) (by decide +kernel), List.mem_of_getElem? (i := 1527) (by decide +kernel)⟩
theorem lw_p53 : lw_okq (⟨"MoleBoardModel", "isNextHole", "()Z"⟩, 47) := ⟨⟨by decide +kernel, by decide +kernel⟩, List.mem_of_getElem? (i := 1273) (by decide +kernel), List.mem_of_getElem? (i := 1530) (by decide +kernel), List.mem_of_getElem? (i := 1531) (by decide +kernel)⟩
theorem lw_p54 : lw_okq (⟨"MoleBoardModel", "freshHoles", "()I"⟩, 47) := ⟨⟨by decide +kernel, by decide +kernel⟩, List.mem_of_getElem? (i := 1273) (by decide +kernel), List.mem_of_getElem? (i := 1534) (by decide +kernel), List.mem_of_getElem? (i := 1535) (by decide +kernel)⟩
theorem lw_p55 : lw_okq (⟨"MoleBoardModel", "isFreshComing", "(I)Z"⟩, 47) := ⟨⟨by decide +kernel, by decide +kernel⟩, List.mem_of_getElem? (i := 1273) (by decide +kernel), List.mem_of_getElem? (i := 1538) (by decide +kernel), List.mem_of_getElem? (i := 1539) (by decide +kernel)⟩
theorem lw_p56 : lw_okq (⟨"MoleBoardModel", "readComing", "(ZZ)V"⟩, 47) := ⟨⟨by decide +kernel, by decide +kernel⟩, List.mem_of_getElem? (i := 1273) (by decide +kernel), List.mem_of_getElem? (i := 1542) (by decide +kernel), List.mem_of_getElem? (i := 1543) (by decide +kernel)⟩
theorem lw_p57 : lw_okq (⟨"MoleBoardModel", "readHole", "(I)I"⟩, 47) := ⟨⟨by decide +kernel, by decide +kernel⟩, List.mem_of_getElem? (i := 1273) (by decide +kernel), List.mem_of_getElem? (i := 1546) (by decide +kernel), List.mem_of_getElem? (i := 1547) (by decide +kernel)⟩
theorem lw_p58 : lw_okq (⟨"MoleBoardModel", "readPlayer", "()V"⟩, 47) := ⟨⟨by decide +kernel, by decide +kernel⟩, List.mem_of_getElem? (i := 1273) (by decide +kernel), List.mem_of_getElem? (i := 1550) (by decide +kernel), List.mem_of_getElem? (i := 1551) (by decide +kernel)⟩
theorem lw_p59 : lw_okq (⟨"MoleBoardModel", "isComing", "(I)Z"⟩, 47) := ⟨⟨by decide +kernel, by decide +kernel⟩, List.mem_of_getElem? (i := 1273) (by decide +kernel), List.mem_of_getElem? (i := 1564) (by decide +kernel), List.mem_of_getElem? (i := 1565) (by decide +kernel)⟩
theorem lw_p60 : lw_okq (⟨"MoleBoardModel", "ofComing", "(II)I"⟩, 47) := ⟨⟨by decide +kernel, by decide +kernel⟩, List.mem_of_getElem? (i := 1273) (by decide +kernel), List.mem_of_getElem? (i := 1568) (by decide +kernel), List.mem_of_getElem? (i := 1569) (by decide +kernel)⟩
theorem lw_p61 : lw_okq (⟨"MoleBoardModel", "isPlayer", "(I)Z"⟩, 47) := ⟨⟨by decide +kernel, by decide +kernel⟩, List.mem_of_getElem? (i := 1273) (by decide +kernel), List.mem_of_getElem? (i := 1576) (by decide +kernel), List.mem_of_getElem? (i := 1577) (by decide +kernel)⟩
theorem lw_p62 : lw_okq (⟨"MoleBoardModel", "of", "(II)I"⟩, 47) := ⟨⟨by decide +kernel, by decide +kernel⟩, List.mem_of_getElem? (i := 1273) (by decide +kernel), List.mem_of_getElem? (i := 1581) (by decide +kernel), List.mem_of_getElem? (i := 1582) (by decide +kernel)⟩
theorem lw_p63 : lw_okq (⟨"MoleBoardModel", "isTick", "(J)Z"⟩, 47) := ⟨⟨by decide +kernel, by decide +kernel⟩, List.mem_of_getElem? (i := 1273) (by decide +kernel), List.mem_of_getElem? (i := 1589) (by decide +kernel), List.mem_of_getElem? (i := 1590) (by decide +kernel)⟩
def lw_privs_4 : List (MethodName × Nat) := [(⟨"MoleBoardModel", "number", "(II)I"⟩, 47), (⟨"MoleBoardModel", "readNext", "()V"⟩, 47), (⟨"MoleBoardModel", "readStay", "()V"⟩, 47), (⟨"MoleBoardModel", "freshStay", "(I)I"⟩, 47), (⟨"MoleBoardModel", "readShut", "()V"⟩, 47), (⟨"MoleBoardModel", "isNextHole", "()Z"⟩, 47), (⟨"MoleBoardModel", "freshHoles", "()I"⟩, 47), (⟨"MoleBoardModel", "isFreshComing", "(I)Z"⟩, 47), (⟨"MoleBoardModel", "readComing", "(ZZ)V"⟩, 47), (⟨"MoleBoardModel", "readHole", "(I)I"⟩, 47), (⟨"MoleBoardModel", "readPlayer", "()V"⟩, 47), (⟨"MoleBoardModel", "isComing", "(I)Z"⟩, 47), (⟨"MoleBoardModel", "ofComing", "(II)I"⟩, 47), (⟨"MoleBoardModel", "isPlayer", "(I)Z"⟩, 47), (⟨"MoleBoardModel", "of", "(II)I"⟩, 47), (⟨"MoleBoardModel", "isTick", "(J)Z"⟩, 47)]
theorem lw_r4 : ∀ q ∈ lw_privs_4, lw_okq q := List.forall_mem_cons.mpr ⟨lw_p48, List.forall_mem_cons.mpr ⟨lw_p49, List.forall_mem_cons.mpr ⟨lw_p50, List.forall_mem_cons.mpr ⟨lw_p51, List.forall_mem_cons.mpr ⟨lw_p52, List.forall_mem_cons.mpr ⟨lw_p53, List.forall_mem_cons.mpr ⟨lw_p54, List.forall_mem_cons.mpr ⟨lw_p55, List.forall_mem_cons.mpr ⟨lw_p56, List.forall_mem_cons.mpr ⟨lw_p57, List.forall_mem_cons.mpr ⟨lw_p58, List.forall_mem_cons.mpr ⟨lw_p59, List.forall_mem_cons.mpr ⟨lw_p60, List.forall_mem_cons.mpr ⟨lw_p61, List.forall_mem_cons.mpr ⟨lw_p62, List.forall_mem_cons.mpr ⟨lw_p63, fun _ h => absurd h List.not_mem_nil⟩⟩⟩⟩⟩⟩⟩⟩⟩⟩⟩⟩⟩⟩⟩⟩
theorem lw_p64 : lw_okq (⟨"MoleBoardModel", "stayIn", "(I)I"⟩, 47) := ⟨⟨by decide +kernel, by decide +kernel⟩, List.mem_of_getElem? (i := 1273) (by decide +kernel), List.mem_of_getElem? (i := 1593) (by decide +kernel), List.mem_of_getElem? (i := 1594) (by decide +kernel)⟩
theorem lw_p65 : lw_okq (⟨"MoleBoardModel", "isBoard", "()Z"⟩, 47) := ⟨⟨by decide +kernel, by decide +kernel⟩, List.mem_of_getElem? (i := 1273) (by decide +kernel), List.mem_of_getElem? (i := 1601) (by decide +kernel), List.mem_of_getElem? (i := 1602) (by decide +kernel)⟩
theorem lw_p66 : lw_okq (⟨"MoleBoardModel", "lay", "()V"⟩, 47) := ⟨⟨by decide +kernel, by decide +kernel⟩, List.mem_of_getElem? (i := 1273) (by decide +kernel), List.mem_of_getElem? (i := 1605) (by decide +kernel), List.mem_of_getElem? (i := 1606) (by decide +kernel)⟩
theorem lw_p67 : lw_okq (⟨"MoleBoardModel", "mayCome", "()Z"⟩, 47) := ⟨⟨by decide +kernel, by decide +kernel⟩, List.mem_of_getElem? (i := 1273) (by decide +kernel), List.mem_of_getElem? (i := 1609) (by decide +kernel), List.mem_of_getElem? (i := 1610) (by decide +kernel)⟩
theorem lw_p68 : lw_okq (⟨"MoleBoardModel", "nextTick", "()I"⟩, 47) := ⟨⟨by decide +kernel, by decide +kernel⟩, List.mem_of_getElem? (i := 1273) (by decide +kernel), List.mem_of_getElem? (i := 1613) (by decide +kernel), List.mem_of_getElem? (i := 1614) (by decide +kernel)⟩
theorem lw_p69 : lw_okq (⟨"MoleBoardModel", "come", "(III)V"⟩, 47) := ⟨⟨by decide +kernel, by decide +kernel⟩, List.mem_of_getElem? (i := 1273) (by decide +kernel), List.mem_of_getElem? (i := 1617) (by decide +kernel), List.mem_of_getElem? (i := 1618) (by decide +kernel)⟩
theorem lw_p70 : lw_okq (⟨"MoleBoardModel", "isInGame", "(I)Z"⟩, 47) := ⟨⟨by decide +kernel, by decide +kernel⟩, List.mem_of_getElem? (i := 1273) (by decide +kernel), List.mem_of_getElem? (i := 1625) (by decide +kernel), List.mem_of_getElem? (i := 1626) (by decide +kernel)⟩
theorem lw_p71 : lw_okq (⟨"MoleBoardModel", "inGame", "(II)I"⟩, 47) := ⟨⟨by decide +kernel, by decide +kernel⟩, List.mem_of_getElem? (i := 1273) (by decide +kernel), List.mem_of_getElem? (i := 1629) (by decide +kernel), List.mem_of_getElem? (i := 1630) (by decide +kernel)⟩
theorem lw_p72 : lw_okq (⟨"MoleBoardModel", "upIn", "(I)I"⟩, 47) := ⟨⟨by decide +kernel, by decide +kernel⟩, List.mem_of_getElem? (i := 1273) (by decide +kernel), List.mem_of_getElem? (i := 1637) (by decide +kernel), List.mem_of_getElem? (i := 1638) (by decide +kernel)⟩
theorem lw_p73 : lw_okq (⟨"MoleBoardModel", "isHole", "(J)Z"⟩, 47) := ⟨⟨by decide +kernel, by decide +kernel⟩, List.mem_of_getElem? (i := 1273) (by decide +kernel), List.mem_of_getElem? (i := 1649) (by decide +kernel), List.mem_of_getElem? (i := 1650) (by decide +kernel)⟩
theorem lw_p74 : lw_okq (⟨"MoleBoardModel", "holes", "()I"⟩, 47) := ⟨⟨by decide +kernel, by decide +kernel⟩, List.mem_of_getElem? (i := 1273) (by decide +kernel), List.mem_of_getElem? (i := 1653) (by decide +kernel), List.mem_of_getElem? (i := 1654) (by decide +kernel)⟩
theorem lw_p75 : lw_okq (⟨"MoleBoardModel", "stepsOf", "(II)I"⟩, 47) := ⟨⟨by decide +kernel, by decide +kernel⟩, List.mem_of_getElem? (i := 1273) (by decide +kernel), List.mem_of_getElem? (i := 1657) (by decide +kernel), List.mem_of_getElem? (i := 1658) (by decide +kernel)⟩
theorem lw_p76 : lw_okq (⟨"MoleBoardModel", "paceIn", "(II)I"⟩, 47) := ⟨⟨by decide +kernel, by decide +kernel⟩, List.mem_of_getElem? (i := 1273) (by decide +kernel), List.mem_of_getElem? (i := 1666) (by decide +kernel), List.mem_of_getElem? (i := 1667) (by decide +kernel)⟩
theorem lw_p77 : lw_okq (⟨"MoleBoardModel", "asTold", "(I)V"⟩, 47) := ⟨⟨by decide +kernel, by decide +kernel⟩, List.mem_of_getElem? (i := 1273) (by decide +kernel), List.mem_of_getElem? (i := 1674) (by decide +kernel), List.mem_of_getElem? (i := 1675) (by decide +kernel)⟩
theorem lw_p78 : lw_okq (⟨"MoleBoardModel", "awareOf", "(I)I"⟩, 47) := ⟨⟨by decide +kernel, by decide +kernel⟩, List.mem_of_getElem? (i := 1273) (by decide +kernel), List.mem_of_getElem? (i := 1678) (by decide +kernel), List.mem_of_getElem? (i := 1679) (by decide +kernel)⟩
theorem lw_p79 : lw_okq (⟨"MoleBoardModel", "runAsTold", "(I)V"⟩, 47) := ⟨⟨by decide +kernel, by decide +kernel⟩, List.mem_of_getElem? (i := 1273) (by decide +kernel), List.mem_of_getElem? (i := 1686) (by decide +kernel), List.mem_of_getElem? (i := 1687) (by decide +kernel)⟩
def lw_privs_5 : List (MethodName × Nat) := [(⟨"MoleBoardModel", "stayIn", "(I)I"⟩, 47), (⟨"MoleBoardModel", "isBoard", "()Z"⟩, 47), (⟨"MoleBoardModel", "lay", "()V"⟩, 47), (⟨"MoleBoardModel", "mayCome", "()Z"⟩, 47), (⟨"MoleBoardModel", "nextTick", "()I"⟩, 47), (⟨"MoleBoardModel", "come", "(III)V"⟩, 47), (⟨"MoleBoardModel", "isInGame", "(I)Z"⟩, 47), (⟨"MoleBoardModel", "inGame", "(II)I"⟩, 47), (⟨"MoleBoardModel", "upIn", "(I)I"⟩, 47), (⟨"MoleBoardModel", "isHole", "(J)Z"⟩, 47), (⟨"MoleBoardModel", "holes", "()I"⟩, 47), (⟨"MoleBoardModel", "stepsOf", "(II)I"⟩, 47), (⟨"MoleBoardModel", "paceIn", "(II)I"⟩, 47), (⟨"MoleBoardModel", "asTold", "(I)V"⟩, 47), (⟨"MoleBoardModel", "awareOf", "(I)I"⟩, 47), (⟨"MoleBoardModel", "runAsTold", "(I)V"⟩, 47)]
theorem lw_r5 : ∀ q ∈ lw_privs_5, lw_okq q := List.forall_mem_cons.mpr ⟨lw_p64, List.forall_mem_cons.mpr ⟨lw_p65, List.forall_mem_cons.mpr ⟨lw_p66, List.forall_mem_cons.mpr ⟨lw_p67, List.forall_mem_cons.mpr ⟨lw_p68, List.forall_mem_cons.mpr ⟨lw_p69, List.forall_mem_cons.mpr ⟨lw_p70, List.forall_mem_cons.mpr ⟨lw_p71, List.forall_mem_cons.mpr ⟨lw_p72, List.forall_mem_cons.mpr ⟨lw_p73, List.forall_mem_cons.mpr ⟨lw_p74, List.forall_mem_cons.mpr ⟨lw_p75, List.forall_mem_cons.mpr ⟨lw_p76, List.forall_mem_cons.mpr ⟨lw_p77, List.forall_mem_cons.mpr ⟨lw_p78, List.forall_mem_cons.mpr ⟨lw_p79, fun _ h => absurd h List.not_mem_nil⟩⟩⟩⟩⟩⟩⟩⟩⟩⟩⟩⟩⟩⟩⟩⟩
theorem lw_p80 : lw_okq (⟨"MoleBoardModel", "run", "()V"⟩, 47) := ⟨⟨by decide +kernel, by decide +kernel⟩, List.mem_of_getElem? (i := 1273) (by decide +kernel), List.mem_of_getElem? (i := 1690) (by decide +kernel), List.mem_of_getElem? (i := 1691) (by decide +kernel)⟩
theorem lw_p81 : lw_okq (⟨"MoleBoardModel", "goesFor", "(I)V"⟩, 47) := ⟨⟨by decide +kernel, by decide +kernel⟩, List.mem_of_getElem? (i := 1273) (by decide +kernel), List.mem_of_getElem? (i := 1694) (by decide +kernel), List.mem_of_getElem? (i := 1695) (by decide +kernel)⟩
theorem lw_p82 : lw_okq (⟨"MoleBoardModel", "isHis", "(I)Z"⟩, 47) := ⟨⟨by decide +kernel, by decide +kernel⟩, List.mem_of_getElem? (i := 1273) (by decide +kernel), List.mem_of_getElem? (i := 1698) (by decide +kernel), List.mem_of_getElem? (i := 1699) (by decide +kernel)⟩
theorem lw_p83 : lw_okq (⟨"MoleBoardModel", "goes", "(II)Z"⟩, 47) := ⟨⟨by decide +kernel, by decide +kernel⟩, List.mem_of_getElem? (i := 1273) (by decide +kernel), List.mem_of_getElem? (i := 1702) (by decide +kernel), List.mem_of_getElem? (i := 1703) (by decide +kernel)⟩
theorem lw_p84 : lw_okq (⟨"MoleBoardModel", "bestOf", "(II)I"⟩, 47) := ⟨⟨by decide +kernel, by decide +kernel⟩, List.mem_of_getElem? (i := 1273) (by decide +kernel), List.mem_of_getElem? (i := 1731) (by decide +kernel), List.mem_of_getElem? (i := 1732) (by decide +kernel)⟩
theorem lw_p85 : lw_okq (⟨"MoleBoardModel", "mayHit", "(III)V"⟩, 47) := ⟨⟨by decide +kernel, by decide +kernel⟩, List.mem_of_getElem? (i := 1273) (by decide +kernel), List.mem_of_getElem? (i := 1739) (by decide +kernel), List.mem_of_getElem? (i := 1740) (by decide +kernel)⟩
theorem lw_p86 : lw_okq (⟨"MoleBoardModel", "behind", "(IIII)I"⟩, 47) := ⟨⟨by decide +kernel, by decide +kernel⟩, List.mem_of_getElem? (i := 1273) (by decide +kernel), List.mem_of_getElem? (i := 1743) (by decide +kernel), List.mem_of_getElem? (i := 1744) (by decide +kernel)⟩
theorem lw_p87 : lw_okq (⟨"MoleBoardModel", "sooner", "(III)V"⟩, 47) := ⟨⟨by decide +kernel, by decide +kernel⟩, List.mem_of_getElem? (i := 1273) (by decide +kernel), List.mem_of_getElem? (i := 1747) (by decide +kernel), List.mem_of_getElem? (i := 1748) (by decide +kernel)⟩
theorem lw_p88 : lw_okq (⟨"MoleBoardModel", "learnsBy", "(II)I"⟩, 47) := ⟨⟨by decide +kernel, by decide +kernel⟩, List.mem_of_getElem? (i := 1273) (by decide +kernel), List.mem_of_getElem? (i := 1761) (by decide +kernel), List.mem_of_getElem? (i := 1762) (by decide +kernel)⟩
theorem lw_p89 : lw_okq (⟨"MoleBoardModel", "waitingAt", "(II)I"⟩, 47) := ⟨⟨by decide +kernel, by decide +kernel⟩, List.mem_of_getElem? (i := 1273) (by decide +kernel), List.mem_of_getElem? (i := 1773) (by decide +kernel), List.mem_of_getElem? (i := 1774) (by decide +kernel)⟩
theorem lw_p90 : lw_okq (⟨"MoleBoardModel", "openHoles", "()I"⟩, 47) := ⟨⟨by decide +kernel, by decide +kernel⟩, List.mem_of_getElem? (i := 1273) (by decide +kernel), List.mem_of_getElem? (i := 1781) (by decide +kernel), List.mem_of_getElem? (i := 1782) (by decide +kernel)⟩
theorem lw_p91 : lw_okq (⟨"MoleBoardModel", "isShut", "(I)Z"⟩, 47) := ⟨⟨by decide +kernel, by decide +kernel⟩, List.mem_of_getElem? (i := 1273) (by decide +kernel), List.mem_of_getElem? (i := 1785) (by decide +kernel), List.mem_of_getElem? (i := 1786) (by decide +kernel)⟩
theorem lw_p92 : lw_okq (⟨"MoleBoardModel", "stepsToAll", "(I)I"⟩, 47) := ⟨⟨by decide +kernel, by decide +kernel⟩, List.mem_of_getElem? (i := 1273) (by decide +kernel), List.mem_of_getElem? (i := 1789) (by decide +kernel), List.mem_of_getElem? (i := 1790) (by decide +kernel)⟩
theorem lw_p93 : lw_okq (⟨"MoleBoardModel", "reachOf", "(II)I"⟩, 47) := ⟨⟨by decide +kernel, by decide +kernel⟩, List.mem_of_getElem? (i := 1273) (by decide +kernel), List.mem_of_getElem? (i := 1804) (by decide +kernel), List.mem_of_getElem? (i := 1805) (by decide +kernel)⟩
theorem lw_p94 : lw_okq (⟨"MoleBoardModel", "lagging", "(II)I"⟩, 47) := ⟨⟨by decide +kernel, by decide +kernel⟩, List.mem_of_getElem? (i := 1273) (by decide +kernel), List.mem_of_getElem? (i := 1819) (by decide +kernel), List.mem_of_getElem? (i := 1820) (by decide +kernel)⟩
theorem lw_p95 : lw_okq (⟨"MoleBoardModel", "fillRows", "(II)V"⟩, 47) := ⟨⟨by decide +kernel, by decide +kernel⟩, List.mem_of_getElem? (i := 1273) (by decide +kernel), List.mem_of_getElem? (i := 1833) (by decide +kernel), List.mem_of_getElem? (i := 1834) (by decide +kernel)⟩
def lw_privs_6 : List (MethodName × Nat) := [(⟨"MoleBoardModel", "run", "()V"⟩, 47), (⟨"MoleBoardModel", "goesFor", "(I)V"⟩, 47), (⟨"MoleBoardModel", "isHis", "(I)Z"⟩, 47), (⟨"MoleBoardModel", "goes", "(II)Z"⟩, 47), (⟨"MoleBoardModel", "bestOf", "(II)I"⟩, 47), (⟨"MoleBoardModel", "mayHit", "(III)V"⟩, 47), (⟨"MoleBoardModel", "behind", "(IIII)I"⟩, 47), (⟨"MoleBoardModel", "sooner", "(III)V"⟩, 47), (⟨"MoleBoardModel", "learnsBy", "(II)I"⟩, 47), (⟨"MoleBoardModel", "waitingAt", "(II)I"⟩, 47), (⟨"MoleBoardModel", "openHoles", "()I"⟩, 47), (⟨"MoleBoardModel", "isShut", "(I)Z"⟩, 47), (⟨"MoleBoardModel", "stepsToAll", "(I)I"⟩, 47), (⟨"MoleBoardModel", "reachOf", "(II)I"⟩, 47), (⟨"MoleBoardModel", "lagging", "(II)I"⟩, 47), (⟨"MoleBoardModel", "fillRows", "(II)V"⟩, 47)]
theorem lw_r6 : ∀ q ∈ lw_privs_6, lw_okq q := List.forall_mem_cons.mpr ⟨lw_p80, List.forall_mem_cons.mpr ⟨lw_p81, List.forall_mem_cons.mpr ⟨lw_p82, List.forall_mem_cons.mpr ⟨lw_p83, List.forall_mem_cons.mpr ⟨lw_p84, List.forall_mem_cons.mpr ⟨lw_p85, List.forall_mem_cons.mpr ⟨lw_p86, List.forall_mem_cons.mpr ⟨lw_p87, List.forall_mem_cons.mpr ⟨lw_p88, List.forall_mem_cons.mpr ⟨lw_p89, List.forall_mem_cons.mpr ⟨lw_p90, List.forall_mem_cons.mpr ⟨lw_p91, List.forall_mem_cons.mpr ⟨lw_p92, List.forall_mem_cons.mpr ⟨lw_p93, List.forall_mem_cons.mpr ⟨lw_p94, List.forall_mem_cons.mpr ⟨lw_p95, fun _ h => absurd h List.not_mem_nil⟩⟩⟩⟩⟩⟩⟩⟩⟩⟩⟩⟩⟩⟩⟩⟩
theorem lw_p96 : lw_okq (⟨"MoleBoardModel", "lets", "(IIII)Z"⟩, 47) := ⟨⟨by decide +kernel, by decide +kernel⟩, List.mem_of_getElem? (i := 1273) (by decide +kernel), List.mem_of_getElem? (i := 1837) (by decide +kernel), List.mem_of_getElem? (i := 1838) (by decide +kernel)⟩
theorem lw_p97 : lw_okq (⟨"MoleBoardModel", "endingIn", "(I)J"⟩, 47) := ⟨⟨by decide +kernel, by decide +kernel⟩, List.mem_of_getElem? (i := 1273) (by decide +kernel), List.mem_of_getElem? (i := 1841) (by decide +kernel), List.mem_of_getElem? (i := 1842) (by decide +kernel)⟩
theorem lw_p98 : lw_okq (⟨"MoleBoardModel", "holeAt", "(I)I"⟩, 47) := ⟨⟨by decide +kernel, by decide +kernel⟩, List.mem_of_getElem? (i := 1273) (by decide +kernel), List.mem_of_getElem? (i := 1857) (by decide +kernel), List.mem_of_getElem? (i := 1858) (by decide +kernel)⟩
theorem lw_p99 : lw_okq (⟨"MoleBoardModel", "asksHeard", "(I)I"⟩, 47) := ⟨⟨by decide +kernel, by decide +kernel⟩, List.mem_of_getElem? (i := 1273) (by decide +kernel), List.mem_of_getElem? (i := 1866) (by decide +kernel), List.mem_of_getElem? (i := 1867) (by decide +kernel)⟩
theorem lw_p100 : lw_okq (⟨"MoleBoardModel", "numberAt", "(II)J"⟩, 47) := ⟨⟨by decide +kernel, by decide +kernel⟩, List.mem_of_getElem? (i := 1273) (by decide +kernel), List.mem_of_getElem? (i := 1873) (by decide +kernel), List.mem_of_getElem? (i := 1874) (by decide +kernel)⟩
theorem lw_p101 : lw_okq (⟨"MoleBoardModel", "leastPeriod", "(I)I"⟩, 47) := ⟨⟨by decide +kernel, by decide +kernel⟩, List.mem_of_getElem? (i := 1273) (by decide +kernel), List.mem_of_getElem? (i := 1877) (by decide +kernel), List.mem_of_getElem? (i := 1878) (by decide +kernel)⟩
theorem lw_p102 : lw_okq (⟨"MoleBoardModel", "isPeriod", "(II)Z"⟩, 47) := ⟨⟨by decide +kernel, by decide +kernel⟩, List.mem_of_getElem? (i := 1273) (by decide +kernel), List.mem_of_getElem? (i := 1881) (by decide +kernel), List.mem_of_getElem? (i := 1882) (by decide +kernel)⟩
theorem lw_p103 : lw_okq (⟨"MoleBoardModel", "fitsFrom", "(II)Z"⟩, 47) := ⟨⟨by decide +kernel, by decide +kernel⟩, List.mem_of_getElem? (i := 1273) (by decide +kernel), List.mem_of_getElem? (i := 1898) (by decide +kernel), List.mem_of_getElem? (i := 1899) (by decide +kernel)⟩
theorem lw_p104 : lw_okq (⟨"MoleBoardModel", "neededFrom", "(I)I"⟩, 47) := ⟨⟨by decide +kernel, by decide +kernel⟩, List.mem_of_getElem? (i := 1273) (by decide +kernel), List.mem_of_getElem? (i := 1914) (by decide +kernel), List.mem_of_getElem? (i := 1915) (by decide +kernel)⟩
theorem lw_p105 : lw_okq (⟨"MoleBoardModel", "goesAlike", "(III)Z"⟩, 47) := ⟨⟨by decide +kernel, by decide +kernel⟩, List.mem_of_getElem? (i := 1273) (by decide +kernel), List.mem_of_getElem? (i := 1918) (by decide +kernel), List.mem_of_getElem? (i := 1919) (by decide +kernel)⟩
theorem lw_p106 : lw_okq (⟨"MoleBoardModel", "rashOf", "(I)I"⟩, 47) := ⟨⟨by decide +kernel, by decide +kernel⟩, List.mem_of_getElem? (i := 1273) (by decide +kernel), List.mem_of_getElem? (i := 1930) (by decide +kernel), List.mem_of_getElem? (i := 1931) (by decide +kernel)⟩
theorem lw_p107 : lw_okq (⟨"MoleBoardModel", "lookOf", "(II)I"⟩, 47) := ⟨⟨by decide +kernel, by decide +kernel⟩, List.mem_of_getElem? (i := 1273) (by decide +kernel), List.mem_of_getElem? (i := 1939) (by decide +kernel), List.mem_of_getElem? (i := 1940) (by decide +kernel)⟩
theorem lw_p108 : lw_okq (⟨"MoleBoardModel", "hitsOn", "(II)I"⟩, 47) := ⟨⟨by decide +kernel, by decide +kernel⟩, List.mem_of_getElem? (i := 1273) (by decide +kernel), List.mem_of_getElem? (i := 1951) (by decide +kernel), List.mem_of_getElem? (i := 1952) (by decide +kernel)⟩
theorem lw_p109 : lw_okq (⟨"MoleBoardModel", "ticketsOf", "(I)I"⟩, 47) := ⟨⟨by decide +kernel, by decide +kernel⟩, List.mem_of_getElem? (i := 1273) (by decide +kernel), List.mem_of_getElem? (i := 1959) (by decide +kernel), List.mem_of_getElem? (i := 1960) (by decide +kernel)⟩
theorem lw_p110 : lw_okq (⟨"MoleBoardModel", "asksBlows", "(I)I"⟩, 47) := ⟨⟨by decide +kernel, by decide +kernel⟩, List.mem_of_getElem? (i := 1273) (by decide +kernel), List.mem_of_getElem? (i := 1971) (by decide +kernel), List.mem_of_getElem? (i := 1972) (by decide +kernel)⟩
theorem lw_p111 : lw_okq (⟨"MoleBoardModel", "layBlows", "(II)V"⟩, 47) := ⟨⟨by decide +kernel, by decide +kernel⟩, List.mem_of_getElem? (i := 1273) (by decide +kernel), List.mem_of_getElem? (i := 1975) (by decide +kernel), List.mem_of_getElem? (i := 1976) (by decide +kernel)⟩
def lw_privs_7 : List (MethodName × Nat) := [(⟨"MoleBoardModel", "lets", "(IIII)Z"⟩, 47), (⟨"MoleBoardModel", "endingIn", "(I)J"⟩, 47), (⟨"MoleBoardModel", "holeAt", "(I)I"⟩, 47), (⟨"MoleBoardModel", "asksHeard", "(I)I"⟩, 47), (⟨"MoleBoardModel", "numberAt", "(II)J"⟩, 47), (⟨"MoleBoardModel", "leastPeriod", "(I)I"⟩, 47), (⟨"MoleBoardModel", "isPeriod", "(II)Z"⟩, 47), (⟨"MoleBoardModel", "fitsFrom", "(II)Z"⟩, 47), (⟨"MoleBoardModel", "neededFrom", "(I)I"⟩, 47), (⟨"MoleBoardModel", "goesAlike", "(III)Z"⟩, 47), (⟨"MoleBoardModel", "rashOf", "(I)I"⟩, 47), (⟨"MoleBoardModel", "lookOf", "(II)I"⟩, 47), (⟨"MoleBoardModel", "hitsOn", "(II)I"⟩, 47), (⟨"MoleBoardModel", "ticketsOf", "(I)I"⟩, 47), (⟨"MoleBoardModel", "asksBlows", "(I)I"⟩, 47), (⟨"MoleBoardModel", "layBlows", "(II)V"⟩, 47)]
theorem lw_r7 : ∀ q ∈ lw_privs_7, lw_okq q := List.forall_mem_cons.mpr ⟨lw_p96, List.forall_mem_cons.mpr ⟨lw_p97, List.forall_mem_cons.mpr ⟨lw_p98, List.forall_mem_cons.mpr ⟨lw_p99, List.forall_mem_cons.mpr ⟨lw_p100, List.forall_mem_cons.mpr ⟨lw_p101, List.forall_mem_cons.mpr ⟨lw_p102, List.forall_mem_cons.mpr ⟨lw_p103, List.forall_mem_cons.mpr ⟨lw_p104, List.forall_mem_cons.mpr ⟨lw_p105, List.forall_mem_cons.mpr ⟨lw_p106, List.forall_mem_cons.mpr ⟨lw_p107, List.forall_mem_cons.mpr ⟨lw_p108, List.forall_mem_cons.mpr ⟨lw_p109, List.forall_mem_cons.mpr ⟨lw_p110, List.forall_mem_cons.mpr ⟨lw_p111, fun _ h => absurd h List.not_mem_nil⟩⟩⟩⟩⟩⟩⟩⟩⟩⟩⟩⟩⟩⟩⟩⟩
theorem lw_p112 : lw_okq (⟨"MoleBoardModel", "strike", "(III)V"⟩, 47) := ⟨⟨by decide +kernel, by decide +kernel⟩, List.mem_of_getElem? (i := 1273) (by decide +kernel), List.mem_of_getElem? (i := 1979) (by decide +kernel), List.mem_of_getElem? (i := 1980) (by decide +kernel)⟩
theorem lw_p113 : lw_okq (⟨"MoleBoardModel", "oftenOf", "(I)I"⟩, 47) := ⟨⟨by decide +kernel, by decide +kernel⟩, List.mem_of_getElem? (i := 1273) (by decide +kernel), List.mem_of_getElem? (i := 1995) (by decide +kernel), List.mem_of_getElem? (i := 1996) (by decide +kernel)⟩
theorem lw_p114 : lw_okq (⟨"MoleBoardModel", "pathOf", "()I"⟩, 47) := ⟨⟨by decide +kernel, by decide +kernel⟩, List.mem_of_getElem? (i := 1273) (by decide +kernel), List.mem_of_getElem? (i := 2007) (by decide +kernel), List.mem_of_getElem? (i := 2008) (by decide +kernel)⟩
theorem lw_p115 : lw_okq (⟨"MoleBoardModel", "trade", "(II)V"⟩, 47) := ⟨⟨by decide +kernel, by decide +kernel⟩, List.mem_of_getElem? (i := 1273) (by decide +kernel), List.mem_of_getElem? (i := 2015) (by decide +kernel), List.mem_of_getElem? (i := 2016) (by decide +kernel)⟩
theorem lw_p116 : lw_okq (⟨"MoleBoardModel", "layNight", "(JI)V"⟩, 47) := ⟨⟨by decide +kernel, by decide +kernel⟩, List.mem_of_getElem? (i := 1273) (by decide +kernel), List.mem_of_getElem? (i := 2052) (by decide +kernel), List.mem_of_getElem? (i := 2053) (by decide +kernel)⟩
theorem lw_p117 : lw_okq (⟨"MoleBoardModel", "holeByLot", "(I)I"⟩, 47) := ⟨⟨by decide +kernel, by decide +kernel⟩, List.mem_of_getElem? (i := 1273) (by decide +kernel), List.mem_of_getElem? (i := 2056) (by decide +kernel), List.mem_of_getElem? (i := 2057) (by decide +kernel)⟩
theorem lw_p118 : lw_okq (⟨"MoleBoardModel", "draw", "(I)I"⟩, 47) := ⟨⟨by decide +kernel, by decide +kernel⟩, List.mem_of_getElem? (i := 1273) (by decide +kernel), List.mem_of_getElem? (i := 2060) (by decide +kernel), List.mem_of_getElem? (i := 2061) (by decide +kernel)⟩
theorem lw_p119 : lw_okq (⟨"MoleBoardModel", "nightOf", "(JII)I"⟩, 47) := ⟨⟨by decide +kernel, by decide +kernel⟩, List.mem_of_getElem? (i := 1273) (by decide +kernel), List.mem_of_getElem? (i := 2072) (by decide +kernel), List.mem_of_getElem? (i := 2073) (by decide +kernel)⟩
def lw_privs_8 : List (MethodName × Nat) := [(⟨"MoleBoardModel", "strike", "(III)V"⟩, 47), (⟨"MoleBoardModel", "oftenOf", "(I)I"⟩, 47), (⟨"MoleBoardModel", "pathOf", "()I"⟩, 47), (⟨"MoleBoardModel", "trade", "(II)V"⟩, 47), (⟨"MoleBoardModel", "layNight", "(JI)V"⟩, 47), (⟨"MoleBoardModel", "holeByLot", "(I)I"⟩, 47), (⟨"MoleBoardModel", "draw", "(I)I"⟩, 47), (⟨"MoleBoardModel", "nightOf", "(JII)I"⟩, 47)]
theorem lw_r8 : ∀ q ∈ lw_privs_8, lw_okq q := List.forall_mem_cons.mpr ⟨lw_p112, List.forall_mem_cons.mpr ⟨lw_p113, List.forall_mem_cons.mpr ⟨lw_p114, List.forall_mem_cons.mpr ⟨lw_p115, List.forall_mem_cons.mpr ⟨lw_p116, List.forall_mem_cons.mpr ⟨lw_p117, List.forall_mem_cons.mpr ⟨lw_p118, List.forall_mem_cons.mpr ⟨lw_p119, fun _ h => absurd h List.not_mem_nil⟩⟩⟩⟩⟩⟩⟩⟩
def lw_privs : List (MethodName × Nat) := lw_privs_1 ++ (lw_privs_2 ++ (lw_privs_3 ++ (lw_privs_4 ++ (lw_privs_5 ++ (lw_privs_6 ++ (lw_privs_7 ++ (lw_privs_8)))))))
def lw_tbl : List Cond := k2_sels lw_privs ++ tables_1
theorem lw_privs_ok : ∀ q ∈ lw_privs, lw_okq q := by
  show ∀ q ∈ lw_privs_1 ++ (lw_privs_2 ++ (lw_privs_3 ++ (lw_privs_4 ++ (lw_privs_5 ++ (lw_privs_6 ++ (lw_privs_7 ++ (lw_privs_8))))))), lw_okq q
  exact List.forall_mem_append.mpr ⟨lw_r1, List.forall_mem_append.mpr ⟨lw_r2, List.forall_mem_append.mpr ⟨lw_r3, List.forall_mem_append.mpr ⟨lw_r4, List.forall_mem_append.mpr ⟨lw_r5, List.forall_mem_append.mpr ⟨lw_r6, List.forall_mem_append.mpr ⟨lw_r7, lw_r8⟩⟩⟩⟩⟩⟩⟩
-- ===== names, printed by program out of the claim's own names =====
def RX0 : String := "MoleBoard$Best"
def TX0 : u_T := fun k => match k with
  | _ => ("MoleBoard$Best", "free", "[I", true)
def tyX0 : Nat → FieldType := fun k => match k with
  | _ => .array .int
abbrev wsX00 : List Cond := u_ws RX0 TX0 1
theorem nmX0 : ∀ a, a < 1 → ∀ b, b < 1 → a ≠ b → (TX0 a).2.1 ≠ (TX0 b).2.1 := by decide +kernel
theorem tyX0_ok : ∀ k, k < 1 → parseFieldDescriptor (TX0 k).2.2.1 = some (tyX0 k) := by decide +kernel
abbrev cX0_init : ByteArray := prog_2_method_1_code
def yX0_init : MethodName := ⟨RX0, "<init>", "()V"⟩
abbrev cX0_most : ByteArray := prog_2_method_2_code
def yX0_most : MethodName := ⟨RX0, "most", "(LMoleBoard$Board;LMoleBoard$Game;LMoleBoard$Player;I)I"⟩
abbrev cX0_goOn : ByteArray := prog_2_method_3_code
def yX0_goOn : MethodName := ⟨RX0, "goOn", "(LMoleBoard$Board;LMoleBoard$Game;LMoleBoard$Player;II)I"⟩
abbrev cX0_freeAt : ByteArray := prog_2_method_4_code
def yX0_freeAt : MethodName := ⟨RX0, "freeAt", "(II)I"⟩
abbrev cX0_keep : ByteArray := prog_2_method_5_code
def yX0_keep : MethodName := ⟨RX0, "keep", "(III)V"⟩
def RX1 : String := "MoleBoard$Blows"
def TX1 : u_T := fun k => match k with
  | 0 => ("MoleBoard$Blows", "good", "I", false)
  | 1 => ("MoleBoard$Blows", "bad", "I", false)
  | 2 => ("MoleBoard$Blows", "soon", "I", false)
  | _ => ("MoleBoard$Blows", "taken", "[I", true)
def tyX1 : Nat → FieldType := fun k => match k with
  | 0 => .int
  | 1 => .int
  | 2 => .int
  | _ => .array .int
abbrev wsX10 : List Cond := u_ws RX1 TX1 4
theorem nmX1 : ∀ a, a < 4 → ∀ b, b < 4 → a ≠ b → (TX1 a).2.1 ≠ (TX1 b).2.1 := by decide +kernel
theorem tyX1_ok : ∀ k, k < 4 → parseFieldDescriptor (TX1 k).2.2.1 = some (tyX1 k) := by decide +kernel
abbrev cX1_init : ByteArray := prog_3_method_1_code
def yX1_init : MethodName := ⟨RX1, "<init>", "()V"⟩
abbrev cX1_judge : ByteArray := prog_3_method_2_code
def yX1_judge : MethodName := ⟨RX1, "judge", "(LMoleBoard$Game;LMoleBoard$Row;I)V"⟩
abbrev cX1_judgeOne : ByteArray := prog_3_method_3_code
def yX1_judgeOne : MethodName := ⟨RX1, "judgeOne", "(LMoleBoard$Game;III)V"⟩
def RX2 : String := "MoleBoard$Board"
def TX2 : u_T := fun k => match k with
  | 0 => ("MoleBoard$Board", "kept", "Z", false)
  | 1 => ("MoleBoard$Board", "lines", "I", false)
  | 2 => ("MoleBoard$Board", "wide", "I", false)
  | 3 => ("MoleBoard$Board", "high", "I", false)
  | 4 => ("MoleBoard$Board", "ticks", "I", false)
  | 5 => ("MoleBoard$Board", "pause", "I", false)
  | 6 => ("MoleBoard$Board", "shutHoles", "I", false)
  | 7 => ("MoleBoard$Board", "players", "I", false)
  | 8 => ("MoleBoard$Board", "prizeTickets", "I", false)
  | 9 => ("MoleBoard$Board", "ticketPoints", "I", false)
  | 10 => ("MoleBoard$Board", "stays", "I", false)
  | 11 => ("MoleBoard$Board", "stayFrom", "[I", true)
  | 12 => ("MoleBoard$Board", "stayLong", "[I", true)
  | 13 => ("MoleBoard$Board", "traits", "[I", true)
  | _ => ("MoleBoard$Board", "drum", "LMoleBoard$Drum;", true)
def tyX2 : Nat → FieldType := fun k => match k with
  | 0 => .boolean
  | 1 => .int
  | 2 => .int
  | 3 => .int
  | 4 => .int
  | 5 => .int
  | 6 => .int
  | 7 => .int
  | 8 => .int
  | 9 => .int
  | 10 => .int
  | 11 => .array .int
  | 12 => .array .int
  | 13 => .array .int
  | _ => .object "MoleBoard$Drum"
abbrev wsX20 : List Cond := u_ws RX2 TX2 15
theorem nmX2 : ∀ a, a < 15 → ∀ b, b < 15 → a ≠ b → (TX2 a).2.1 ≠ (TX2 b).2.1 := by decide +kernel
theorem tyX2_ok : ∀ k, k < 15 → parseFieldDescriptor (TX2 k).2.2.1 = some (tyX2 k) := by decide +kernel
abbrev cX2_init : ByteArray := prog_4_method_1_code
def yX2_init : MethodName := ⟨RX2, "<init>", "()V"⟩
abbrev cX2_empty : ByteArray := prog_4_method_2_code
def yX2_empty : MethodName := ⟨RX2, "empty", "()V"⟩
abbrev cX2_copy : ByteArray := prog_4_method_3_code
def yX2_copy : MethodName := ⟨RX2, "copy", "(LMoleBoard$Board;)V"⟩
abbrev cX2_isTold : ByteArray := prog_4_method_4_code
def yX2_isTold : MethodName := ⟨RX2, "isTold", "()Z"⟩
abbrev cX2_holes : ByteArray := prog_4_method_5_code
def yX2_holes : MethodName := ⟨RX2, "holes", "()I"⟩
abbrev cX2_isHole : ByteArray := prog_4_method_6_code
def yX2_isHole : MethodName := ⟨RX2, "isHole", "(I)Z"⟩
abbrev cX2_isTick : ByteArray := prog_4_method_7_code
def yX2_isTick : MethodName := ⟨RX2, "isTick", "(I)Z"⟩
abbrev cX2_isPlayer : ByteArray := prog_4_method_8_code
def yX2_isPlayer : MethodName := ⟨RX2, "isPlayer", "(I)Z"⟩
abbrev cX2_isShut : ByteArray := prog_4_method_9_code
def yX2_isShut : MethodName := ⟨RX2, "isShut", "(I)Z"⟩
abbrev cX2_openHoles : ByteArray := prog_4_method_10_code
def yX2_openHoles : MethodName := ⟨RX2, "openHoles", "()I"⟩
abbrev cX2_apart : ByteArray := prog_4_method_11_code
def yX2_apart : MethodName := ⟨RX2, "apart", "(II)I"⟩
abbrev cX2_stepsToAll : ByteArray := prog_4_method_12_code
def yX2_stepsToAll : MethodName := ⟨RX2, "stepsToAll", "(I)I"⟩
abbrev cX2_pathRound : ByteArray := prog_4_method_13_code
def yX2_pathRound : MethodName := ⟨RX2, "pathRound", "()I"⟩
abbrev cX2_stayIn : ByteArray := prog_4_method_14_code
def yX2_stayIn : MethodName := ⟨RX2, "stayIn", "(I)I"⟩
abbrev cX2_hasStayFrom : ByteArray := prog_4_method_15_code
def yX2_hasStayFrom : MethodName := ⟨RX2, "hasStayFrom", "(I)Z"⟩
abbrev cX2_setStay : ByteArray := prog_4_method_16_code
def yX2_setStay : MethodName := ⟨RX2, "setStay", "(II)V"⟩
abbrev cX2_trait : ByteArray := prog_4_method_17_code
def yX2_trait : MethodName := ⟨RX2, "trait", "(II)I"⟩
abbrev cX2_setTrait : ByteArray := prog_4_method_18_code
def yX2_setTrait : MethodName := ⟨RX2, "setTrait", "(III)V"⟩
abbrev cX2_isTrait : ByteArray := prog_4_method_19_code
def yX2_isTrait : MethodName := ⟨RX2, "isTrait", "(II)Z"⟩
abbrev cX2_lets : ByteArray := prog_4_method_20_code
def yX2_lets : MethodName := ⟨RX2, "lets", "(IIII)Z"⟩
def RX3 : String := "MoleBoard$Drum"
def TX3 : u_T := fun k => match k with
  | 0 => ("MoleBoard$Drum", "size", "I", false)
  | 1 => ("MoleBoard$Drum", "stands", "I", false)
  | 2 => ("MoleBoard$Drum", "first", "[I", true)
  | 3 => ("MoleBoard$Drum", "other", "[I", true)
  | _ => ("MoleBoard$Drum", "red", "[I", true)
def tyX3 : Nat → FieldType := fun k => match k with
  | 0 => .int
  | 1 => .int
  | 2 => .array .int
  | 3 => .array .int
  | _ => .array .int
abbrev wsX30 : List Cond := u_ws RX3 TX3 5
theorem nmX3 : ∀ a, a < 5 → ∀ b, b < 5 → a ≠ b → (TX3 a).2.1 ≠ (TX3 b).2.1 := by decide +kernel
theorem tyX3_ok : ∀ k, k < 5 → parseFieldDescriptor (TX3 k).2.2.1 = some (tyX3 k) := by decide +kernel
abbrev cX3_init : ByteArray := prog_5_method_1_code
def yX3_init : MethodName := ⟨RX3, "<init>", "()V"⟩
abbrev cX3_empty : ByteArray := prog_5_method_2_code
def yX3_empty : MethodName := ⟨RX3, "empty", "()V"⟩
abbrev cX3_copy : ByteArray := prog_5_method_3_code
def yX3_copy : MethodName := ⟨RX3, "copy", "(LMoleBoard$Drum;)V"⟩
abbrev cX3_has : ByteArray := prog_5_method_4_code
def yX3_has : MethodName := ⟨RX3, "has", "(I)Z"⟩
abbrev cX3_add : ByteArray := prog_5_method_5_code
def yX3_add : MethodName := ⟨RX3, "add", "(III)V"⟩
abbrev cX3_exchange : ByteArray := prog_5_method_6_code
def yX3_exchange : MethodName := ⟨RX3, "exchange", "(II)V"⟩
abbrev cX3_exchangeIn : ByteArray := prog_5_method_7_code
def yX3_exchangeIn : MethodName := ⟨RX3, "exchangeIn", "([III)V"⟩
abbrev cX3_round : ByteArray := prog_5_method_8_code
def yX3_round : MethodName := ⟨RX3, "round", "(I)I"⟩
abbrev cX3_oftenAt : ByteArray := prog_5_method_9_code
def yX3_oftenAt : MethodName := ⟨RX3, "oftenAt", "(I)I"⟩
abbrev cX3_goesSo : ByteArray := prog_5_method_10_code
def yX3_goesSo : MethodName := ⟨RX3, "goesSo", "(ILMoleBoard$Row;)Z"⟩
abbrev cX3_neededFrom : ByteArray := prog_5_method_11_code
def yX3_neededFrom : MethodName := ⟨RX3, "neededFrom", "(I)I"⟩
abbrev cX3_alike : ByteArray := prog_5_method_12_code
def yX3_alike : MethodName := ⟨RX3, "alike", "(II)I"⟩
def RX4 : String := "MoleBoard$Game"
def TX4 : u_T := fun k => match k with
  | 0 => ("MoleBoard$Game", "size", "I", false)
  | 1 => ("MoleBoard$Game", "first", "[I", true)
  | 2 => ("MoleBoard$Game", "other", "[I", true)
  | 3 => ("MoleBoard$Game", "red", "[I", true)
  | 4 => ("MoleBoard$Game", "from", "[I", true)
  | 5 => ("MoleBoard$Game", "last", "[I", true)
  | _ => ("MoleBoard$Game", "tick", "I", false)
def tyX4 : Nat → FieldType := fun k => match k with
  | 0 => .int
  | 1 => .array .int
  | 2 => .array .int
  | 3 => .array .int
  | 4 => .array .int
  | 5 => .array .int
  | _ => .int
abbrev wsX40 : List Cond := u_ws RX4 TX4 7
theorem nmX4 : ∀ a, a < 7 → ∀ b, b < 7 → a ≠ b → (TX4 a).2.1 ≠ (TX4 b).2.1 := by decide +kernel
theorem tyX4_ok : ∀ k, k < 7 → parseFieldDescriptor (TX4 k).2.2.1 = some (tyX4 k) := by decide +kernel
abbrev cX4_init : ByteArray := prog_6_method_1_code
def yX4_init : MethodName := ⟨RX4, "<init>", "()V"⟩
abbrev cX4_has : ByteArray := prog_6_method_2_code
def yX4_has : MethodName := ⟨RX4, "has", "(I)Z"⟩
abbrev cX4_deal : ByteArray := prog_6_method_3_code
def yX4_deal : MethodName := ⟨RX4, "deal", "(LMoleBoard$Board;I)V"⟩
abbrev cX4_draw : ByteArray := prog_6_method_4_code
def yX4_draw : MethodName := ⟨RX4, "draw", "(LMoleBoard$Board;II)V"⟩
abbrev cX4_nthLet : ByteArray := prog_6_method_5_code
def yX4_nthLet : MethodName := ⟨RX4, "nthLet", "(LMoleBoard$Board;IIII)I"⟩
abbrev cX4_begin : ByteArray := prog_6_method_6_code
def yX4_begin : MethodName := ⟨RX4, "begin", "()V"⟩
abbrev cX4_hasRoom : ByteArray := prog_6_method_7_code
def yX4_hasRoom : MethodName := ⟨RX4, "hasRoom", "(LMoleBoard$Board;)Z"⟩
abbrev cX4_add : ByteArray := prog_6_method_8_code
def yX4_add : MethodName := ⟨RX4, "add", "(LMoleBoard$Board;III)V"⟩
abbrev cX4_upIn : ByteArray := prog_6_method_9_code
def yX4_upIn : MethodName := ⟨RX4, "upIn", "(I)I"⟩
abbrev cX4_holesOf : ByteArray := prog_6_method_10_code
def yX4_holesOf : MethodName := ⟨RX4, "holesOf", "(I)I"⟩
abbrev cX4_goodHoles : ByteArray := prog_6_method_11_code
def yX4_goodHoles : MethodName := ⟨RX4, "goodHoles", "()I"⟩
abbrev cX4_goodIn : ByteArray := prog_6_method_12_code
def yX4_goodIn : MethodName := ⟨RX4, "goodIn", "(I)I"⟩
abbrev cX4_strike : ByteArray := prog_6_method_13_code
def yX4_strike : MethodName := ⟨RX4, "strike", "(II)I"⟩
def RX5 : String := "MoleBoard$Lots"
def TX5 : u_T := fun k => match k with
  | 0 => ("MoleBoard$Lots", "ways", "[J", true)
  | _ => ("MoleBoard$Lots", "grown", "[J", true)
def tyX5 : Nat → FieldType := fun k => match k with
  | 0 => .array .long
  | _ => .array .long
abbrev wsX50 : List Cond := u_ws RX5 TX5 2
theorem nmX5 : ∀ a, a < 2 → ∀ b, b < 2 → a ≠ b → (TX5 a).2.1 ≠ (TX5 b).2.1 := by decide +kernel
theorem tyX5_ok : ∀ k, k < 2 → parseFieldDescriptor (TX5 k).2.2.1 = some (tyX5 k) := by decide +kernel
abbrev cX5_init : ByteArray := prog_7_method_1_code
def yX5_init : MethodName := ⟨RX5, "<init>", "()V"⟩
abbrev cX5_begin : ByteArray := prog_7_method_2_code
def yX5_begin : MethodName := ⟨RX5, "begin", "(LMoleBoard$Board;)V"⟩
abbrev cX5_grow : ByteArray := prog_7_method_3_code
def yX5_grow : MethodName := ⟨RX5, "grow", "(LMoleBoard$Board;I)V"⟩
abbrev cX5_growFrom : ByteArray := prog_7_method_4_code
def yX5_growFrom : MethodName := ⟨RX5, "growFrom", "(LMoleBoard$Board;III)V"⟩
abbrev cX5_at : ByteArray := prog_7_method_5_code
def yX5_at : MethodName := ⟨RX5, "at", "(II)I"⟩
abbrev cX5_waysTo : ByteArray := prog_7_method_6_code
def yX5_waysTo : MethodName := ⟨RX5, "waysTo", "(II)J"⟩
abbrev cX5_add : ByteArray := prog_7_method_7_code
def yX5_add : MethodName := ⟨RX5, "add", "([JIIJ)V"⟩
abbrev cX5_rowsTo : ByteArray := prog_7_method_8_code
def yX5_rowsTo : MethodName := ⟨RX5, "rowsTo", "(LMoleBoard$Board;I)J"⟩
abbrev cX5_rowsInAll : ByteArray := prog_7_method_9_code
def yX5_rowsInAll : MethodName := ⟨RX5, "rowsInAll", "(LMoleBoard$Board;)J"⟩
abbrev cX5_isEven : ByteArray := prog_7_method_10_code
def yX5_isEven : MethodName := ⟨RX5, "isEven", "(LMoleBoard$Board;)Z"⟩
def RX6 : String := "MoleBoard$Player"
def TX6 : u_T := fun k => match k with
  | 0 => ("MoleBoard$Player", "pace", "I", false)
  | 1 => ("MoleBoard$Player", "lag", "I", false)
  | 2 => ("MoleBoard$Player", "tires", "I", false)
  | 3 => ("MoleBoard$Player", "knows", "I", false)
  | _ => ("MoleBoard$Player", "home", "I", false)
def tyX6 : Nat → FieldType := fun k => match k with
  | 0 => .int
  | 1 => .int
  | 2 => .int
  | 3 => .int
  | _ => .int
abbrev wsX60 : List Cond := u_ws RX6 TX6 5
theorem nmX6 : ∀ a, a < 5 → ∀ b, b < 5 → a ≠ b → (TX6 a).2.1 ≠ (TX6 b).2.1 := by decide +kernel
theorem tyX6_ok : ∀ k, k < 5 → parseFieldDescriptor (TX6 k).2.2.1 = some (tyX6 k) := by decide +kernel
abbrev cX6_init : ByteArray := prog_8_method_1_code
def yX6_init : MethodName := ⟨RX6, "<init>", "()V"⟩
abbrev cX6_take : ByteArray := prog_8_method_2_code
def yX6_take : MethodName := ⟨RX6, "take", "(LMoleBoard$Board;I)V"⟩
abbrev cX6_paceIn : ByteArray := prog_8_method_3_code
def yX6_paceIn : MethodName := ⟨RX6, "paceIn", "(I)I"⟩
abbrev cX6_awareOf : ByteArray := prog_8_method_4_code
def yX6_awareOf : MethodName := ⟨RX6, "awareOf", "(LMoleBoard$Game;I)I"⟩
abbrev cX6_there : ByteArray := prog_8_method_5_code
def yX6_there : MethodName := ⟨RX6, "there", "(LMoleBoard$Board;III)I"⟩
abbrev cX6_reachFrom : ByteArray := prog_8_method_6_code
def yX6_reachFrom : MethodName := ⟨RX6, "reachFrom", "(LMoleBoard$Board;I)I"⟩
def RX7 : String := "MoleBoard$Reader"
def TX7 : u_T := fun k => match k with
  | 0 => ("MoleBoard$Reader", "told", "LMoleBoard$Board;", true)
  | 1 => ("MoleBoard$Reader", "fault", "I", false)
  | 2 => ("MoleBoard$Reader", "place", "I", false)
  | 3 => ("MoleBoard$Reader", "tape", "LMoleBoard$Tape;", true)
  | 4 => ("MoleBoard$Reader", "values", "[I", true)
  | 5 => ("MoleBoard$Reader", "sort", "I", false)
  | 6 => ("MoleBoard$Reader", "start", "I", false)
  | 7 => ("MoleBoard$Reader", "stop", "I", false)
  | _ => ("MoleBoard$Reader", "value", "I", false)
def tyX7 : Nat → FieldType := fun k => match k with
  | 0 => .object "MoleBoard$Board"
  | 1 => .int
  | 2 => .int
  | 3 => .object "MoleBoard$Tape"
  | 4 => .array .int
  | 5 => .int
  | 6 => .int
  | 7 => .int
  | _ => .int
abbrev wsX70 : List Cond := u_ws RX7 TX7 9
theorem nmX7 : ∀ a, a < 9 → ∀ b, b < 9 → a ≠ b → (TX7 a).2.1 ≠ (TX7 b).2.1 := by decide +kernel
theorem tyX7_ok : ∀ k, k < 9 → parseFieldDescriptor (TX7 k).2.2.1 = some (tyX7 k) := by decide +kernel
abbrev cX7_init : ByteArray := prog_9_method_1_code
def yX7_init : MethodName := ⟨RX7, "<init>", "()V"⟩
abbrev cX7_readAll : ByteArray := prog_9_method_2_code
def yX7_readAll : MethodName := ⟨RX7, "readAll", "()Z"⟩
abbrev cX7_shapeOf : ByteArray := prog_9_method_3_code
def yX7_shapeOf : MethodName := ⟨RX7, "shapeOf", "(I)Ljava/lang/String;"⟩
abbrev cX7_readLine : ByteArray := prog_9_method_4_code
def yX7_readLine : MethodName := ⟨RX7, "readLine", "()V"⟩
abbrev cX7_blame : ByteArray := prog_9_method_5_code
def yX7_blame : MethodName := ⟨RX7, "blame", "(I)V"⟩
abbrev cX7_behindBlank : ByteArray := prog_9_method_6_code
def yX7_behindBlank : MethodName := ⟨RX7, "behindBlank", "(Ljava/lang/String;I)I"⟩
abbrev cX7_kindOfLine : ByteArray := prog_9_method_7_code
def yX7_kindOfLine : MethodName := ⟨RX7, "kindOfLine", "()I"⟩
abbrev cX7_standsAt : ByteArray := prog_9_method_8_code
def yX7_standsAt : MethodName := ⟨RX7, "standsAt", "(Ljava/lang/String;I)Z"⟩
abbrev cX7_isSpelled : ByteArray := prog_9_method_9_code
def yX7_isSpelled : MethodName := ⟨RX7, "isSpelled", "(Ljava/lang/String;I)Z"⟩
abbrev cX7_isFull : ByteArray := prog_9_method_10_code
def yX7_isFull : MethodName := ⟨RX7, "isFull", "(I)Z"⟩
abbrev cX7_judge : ByteArray := prog_9_method_11_code
def yX7_judge : MethodName := ⟨RX7, "judge", "(II)I"⟩
abbrev cX7_within : ByteArray := prog_9_method_12_code
def yX7_within : MethodName := ⟨RX7, "within", "(II)I"⟩
abbrev cX7_fitsBoard : ByteArray := prog_9_method_13_code
def yX7_fitsBoard : MethodName := ⟨RX7, "fitsBoard", "(I)Z"⟩
abbrev cX7_judgeFrom : ByteArray := prog_9_method_14_code
def yX7_judgeFrom : MethodName := ⟨RX7, "judgeFrom", "()I"⟩
abbrev cX7_isOpen : ByteArray := prog_9_method_15_code
def yX7_isOpen : MethodName := ⟨RX7, "isOpen", "()Z"⟩
abbrev cX7_apply : ByteArray := prog_9_method_16_code
def yX7_apply : MethodName := ⟨RX7, "apply", "(I)V"⟩
abbrev cX7_addPlayer : ByteArray := prog_9_method_17_code
def yX7_addPlayer : MethodName := ⟨RX7, "addPlayer", "()V"⟩
abbrev cX7_step : ByteArray := prog_9_method_18_code
def yX7_step : MethodName := ⟨RX7, "step", "()V"⟩
abbrev cX7_isBlank : ByteArray := prog_9_method_19_code
def yX7_isBlank : MethodName := ⟨RX7, "isBlank", "(I)Z"⟩
abbrev cX7_isLetter : ByteArray := prog_9_method_20_code
def yX7_isLetter : MethodName := ⟨RX7, "isLetter", "(I)Z"⟩
abbrev cX7_isDigit : ByteArray := prog_9_method_21_code
def yX7_isDigit : MethodName := ⟨RX7, "isDigit", "(I)Z"⟩
def RX8 : String := "MoleBoard$Row"
def TX8 : u_T := fun k => match k with
  | 0 => ("MoleBoard$Row", "size", "I", false)
  | 1 => ("MoleBoard$Row", "width", "I", false)
  | _ => ("MoleBoard$Row", "numbers", "[J", true)
def tyX8 : Nat → FieldType := fun k => match k with
  | 0 => .int
  | 1 => .int
  | _ => .array .long
abbrev wsX80 : List Cond := u_ws RX8 TX8 3
theorem nmX8 : ∀ a, a < 3 → ∀ b, b < 3 → a ≠ b → (TX8 a).2.1 ≠ (TX8 b).2.1 := by decide +kernel
theorem tyX8_ok : ∀ k, k < 3 → parseFieldDescriptor (TX8 k).2.2.1 = some (tyX8 k) := by decide +kernel
abbrev cX8_init : ByteArray := prog_10_method_1_code
def yX8_init : MethodName := ⟨RX8, "<init>", "()V"⟩
abbrev cX8_isMade : ByteArray := prog_10_method_2_code
def yX8_isMade : MethodName := ⟨RX8, "isMade", "()Z"⟩
abbrev cX8_make : ByteArray := prog_10_method_3_code
def yX8_make : MethodName := ⟨RX8, "make", "(II)V"⟩
abbrev cX8_put : ByteArray := prog_10_method_4_code
def yX8_put : MethodName := ⟨RX8, "put", "(IJ)V"⟩
abbrev cX8_hasPart : ByteArray := prog_10_method_5_code
def yX8_hasPart : MethodName := ⟨RX8, "hasPart", "(II)Z"⟩
abbrev cX8_isBelow : ByteArray := prog_10_method_6_code
def yX8_isBelow : MethodName := ⟨RX8, "isBelow", "(II)Z"⟩
abbrev cX8_isPeriod : ByteArray := prog_10_method_7_code
def yX8_isPeriod : MethodName := ⟨RX8, "isPeriod", "(I)Z"⟩
abbrev cX8_leastPeriod : ByteArray := prog_10_method_8_code
def yX8_leastPeriod : MethodName := ⟨RX8, "leastPeriod", "()I"⟩
abbrev cX8_periodsInAll : ByteArray := prog_10_method_9_code
def yX8_periodsInAll : MethodName := ⟨RX8, "periodsInAll", "()I"⟩
def RX9 : String := "MoleBoard$Run"
def TX9 : u_T := fun k => match k with
  | 0 => ("MoleBoard$Run", "struck", "I", false)
  | 1 => ("MoleBoard$Run", "gone", "I", false)
  | 2 => ("MoleBoard$Run", "strikeOf", "[I", true)
  | 3 => ("MoleBoard$Run", "timesOf", "[I", true)
  | 4 => ("MoleBoard$Run", "bad", "I", false)
  | 5 => ("MoleBoard$Run", "tickOf", "[I", true)
  | 6 => ("MoleBoard$Run", "holeOf", "[I", true)
  | 7 => ("MoleBoard$Run", "hole", "I", false)
  | _ => ("MoleBoard$Run", "free", "I", false)
def tyX9 : Nat → FieldType := fun k => match k with
  | 0 => .int
  | 1 => .int
  | 2 => .array .int
  | 3 => .array .int
  | 4 => .int
  | 5 => .array .int
  | 6 => .array .int
  | 7 => .int
  | _ => .int
abbrev wsX90 : List Cond := u_ws RX9 TX9 9
theorem nmX9 : ∀ a, a < 9 → ∀ b, b < 9 → a ≠ b → (TX9 a).2.1 ≠ (TX9 b).2.1 := by decide +kernel
theorem tyX9_ok : ∀ k, k < 9 → parseFieldDescriptor (TX9 k).2.2.1 = some (tyX9 k) := by decide +kernel
abbrev cX9_init : ByteArray := prog_11_method_1_code
def yX9_init : MethodName := ⟨RX9, "<init>", "()V"⟩
abbrev cX9_good : ByteArray := prog_11_method_2_code
def yX9_good : MethodName := ⟨RX9, "good", "(LMoleBoard$Board;LMoleBoard$Game;LMoleBoard$Player;I)I"⟩
abbrev cX9_rashPoints : ByteArray := prog_11_method_3_code
def yX9_rashPoints : MethodName := ⟨RX9, "rashPoints", "(LMoleBoard$Board;LMoleBoard$Game;LMoleBoard$Player;)I"⟩
abbrev cX9_begin : ByteArray := prog_11_method_4_code
def yX9_begin : MethodName := ⟨RX9, "begin", "(LMoleBoard$Game;LMoleBoard$Player;)V"⟩
abbrev cX9_goFor : ByteArray := prog_11_method_5_code
def yX9_goFor : MethodName := ⟨RX9, "goFor", "(LMoleBoard$Board;LMoleBoard$Game;LMoleBoard$Player;II)V"⟩
abbrev cX9_among : ByteArray := prog_11_method_6_code
def yX9_among : MethodName := ⟨RX9, "among", "(II)I"⟩
abbrev cX9_strike : ByteArray := prog_11_method_7_code
def yX9_strike : MethodName := ⟨RX9, "strike", "(LMoleBoard$Board;LMoleBoard$Game;LMoleBoard$Player;II)Z"⟩
abbrev cX9_holeBehind : ByteArray := prog_11_method_8_code
def yX9_holeBehind : MethodName := ⟨RX9, "holeBehind", "(II)I"⟩
abbrev cX9_firstMissed : ByteArray := prog_11_method_9_code
def yX9_firstMissed : MethodName := ⟨RX9, "firstMissed", "(LMoleBoard$Game;)I"⟩
def RX10 : String := "MoleBoard$Tape"
def TX10 : u_T := fun k => match k with
  | 0 => ("MoleBoard$Tape", "size", "I", false)
  | _ => ("MoleBoard$Tape", "bytes", "[B", true)
def tyX10 : Nat → FieldType := fun k => match k with
  | 0 => .int
  | _ => .array .byte
abbrev wsX100 : List Cond := u_ws RX10 TX10 2
theorem nmX10 : ∀ a, a < 2 → ∀ b, b < 2 → a ≠ b → (TX10 a).2.1 ≠ (TX10 b).2.1 := by decide +kernel
theorem tyX10_ok : ∀ k, k < 2 → parseFieldDescriptor (TX10 k).2.2.1 = some (tyX10 k) := by decide +kernel
abbrev cX10_init : ByteArray := prog_12_method_1_code
def yX10_init : MethodName := ⟨RX10, "<init>", "()V"⟩
abbrev cX10_put : ByteArray := prog_12_method_2_code
def yX10_put : MethodName := ⟨RX10, "put", "(I)V"⟩
abbrev cX10_at : ByteArray := prog_12_method_3_code
def yX10_at : MethodName := ⟨RX10, "at", "(I)I"⟩
def RX11 : String := "MoleBoard"
def TX11 : u_T := fun k => match k with
  | 0 => ("MoleBoard", "now", "LMoleBoard$Board;", true)
  | 1 => ("MoleBoard", "images", "[LMoleBoard$Board;", true)
  | 2 => ("MoleBoard", "reader", "LMoleBoard$Reader;", true)
  | 3 => ("MoleBoard", "game", "LMoleBoard$Game;", true)
  | 4 => ("MoleBoard", "runner", "LMoleBoard$Player;", true)
  | 5 => ("MoleBoard", "partner", "LMoleBoard$Player;", true)
  | 6 => ("MoleBoard", "run", "LMoleBoard$Run;", true)
  | 7 => ("MoleBoard", "search", "LMoleBoard$Best;", true)
  | 8 => ("MoleBoard", "lots", "LMoleBoard$Lots;", true)
  | 9 => ("MoleBoard", "blows", "LMoleBoard$Blows;", true)
  | _ => ("MoleBoard", "slots", "[LMoleBoard$Row;", true)
def tyX11 : Nat → FieldType := fun k => match k with
  | 0 => .object "MoleBoard$Board"
  | 1 => .array (.object "MoleBoard$Board")
  | 2 => .object "MoleBoard$Reader"
  | 3 => .object "MoleBoard$Game"
  | 4 => .object "MoleBoard$Player"
  | 5 => .object "MoleBoard$Player"
  | 6 => .object "MoleBoard$Run"
  | 7 => .object "MoleBoard$Best"
  | 8 => .object "MoleBoard$Lots"
  | 9 => .object "MoleBoard$Blows"
  | _ => .array (.object "MoleBoard$Row")
abbrev wsX110 : List Cond := u_ws RX11 TX11 11
theorem nmX11 : ∀ a, a < 11 → ∀ b, b < 11 → a ≠ b → (TX11 a).2.1 ≠ (TX11 b).2.1 := by decide +kernel
theorem tyX11_ok : ∀ k, k < 11 → parseFieldDescriptor (TX11 k).2.2.1 = some (tyX11 k) := by decide +kernel
abbrev cX11_init : ByteArray := prog_1_method_1_code
def yX11_init : MethodName := ⟨RX11, "<init>", "()V"⟩
abbrev cX11_feed : ByteArray := prog_1_method_2_code
def yX11_feed : MethodName := ⟨RX11, "feed", "(IIIII)I"⟩
abbrev cX11_end : ByteArray := prog_1_method_3_code
def yX11_end : MethodName := ⟨RX11, "end", "(I)I"⟩
abbrev cX11_board : ByteArray := prog_1_method_4_code
def yX11_board : MethodName := ⟨RX11, "board", "()I"⟩
abbrev cX11_fault : ByteArray := prog_1_method_5_code
def yX11_fault : MethodName := ⟨RX11, "fault", "(I)I"⟩
abbrev cX11_drum : ByteArray := prog_1_method_6_code
def yX11_drum : MethodName := ⟨RX11, "drum", "(II)I"⟩
abbrev cX11_player : ByteArray := prog_1_method_7_code
def yX11_player : MethodName := ⟨RX11, "player", "(II)I"⟩
abbrev cX11_stay : ByteArray := prog_1_method_8_code
def yX11_stay : MethodName := ⟨RX11, "stay", "(I)I"⟩
abbrev cX11_count : ByteArray := prog_1_method_9_code
def yX11_count : MethodName := ⟨RX11, "count", "(I)I"⟩
abbrev cX11_comings : ByteArray := prog_1_method_10_code
def yX11_comings : MethodName := ⟨RX11, "comings", "()I"⟩
abbrev cX11_comes : ByteArray := prog_1_method_11_code
def yX11_comes : MethodName := ⟨RX11, "comes", "(II)I"⟩
abbrev cX11_up : ByteArray := prog_1_method_12_code
def yX11_up : MethodName := ⟨RX11, "up", "(I)I"⟩
abbrev cX11_calm : ByteArray := prog_1_method_13_code
def yX11_calm : MethodName := ⟨RX11, "calm", "()I"⟩
abbrev cX11_steps : ByteArray := prog_1_method_14_code
def yX11_steps : MethodName := ⟨RX11, "steps", "(II)I"⟩
abbrev cX11_pace : ByteArray := prog_1_method_15_code
def yX11_pace : MethodName := ⟨RX11, "pace", "(II)I"⟩
abbrev cX11_aware : ByteArray := prog_1_method_16_code
def yX11_aware : MethodName := ⟨RX11, "aware", "(II)I"⟩
abbrev cX11_hits : ByteArray := prog_1_method_17_code
def yX11_hits : MethodName := ⟨RX11, "hits", "(I)I"⟩
abbrev cX11_hit : ByteArray := prog_1_method_18_code
def yX11_hit : MethodName := ⟨RX11, "hit", "(II)I"⟩
abbrev cX11_twice : ByteArray := prog_1_method_19_code
def yX11_twice : MethodName := ⟨RX11, "twice", "(II)I"⟩
abbrev cX11_where : ByteArray := prog_1_method_20_code
def yX11_where : MethodName := ⟨RX11, "where", "(II)I"⟩
abbrev cX11_missed : ByteArray := prog_1_method_21_code
def yX11_missed : MethodName := ⟨RX11, "missed", "(I)I"⟩
abbrev cX11_walked : ByteArray := prog_1_method_22_code
def yX11_walked : MethodName := ⟨RX11, "walked", "(I)I"⟩
abbrev cX11_best : ByteArray := prog_1_method_23_code
def yX11_best : MethodName := ⟨RX11, "best", "(I)I"⟩
abbrev cX11_ahead : ByteArray := prog_1_method_24_code
def yX11_ahead : MethodName := ⟨RX11, "ahead", "(II)I"⟩
abbrev cX11_learns : ByteArray := prog_1_method_25_code
def yX11_learns : MethodName := ⟨RX11, "learns", "(II)I"⟩
abbrev cX11_enough : ByteArray := prog_1_method_26_code
def yX11_enough : MethodName := ⟨RX11, "enough", "(I)I"⟩
abbrev cX11_waits : ByteArray := prog_1_method_27_code
def yX11_waits : MethodName := ⟨RX11, "waits", "(II)I"⟩
abbrev cX11_slack : ByteArray := prog_1_method_28_code
def yX11_slack : MethodName := ⟨RX11, "slack", "(I)I"⟩
abbrev cX11_lucky : ByteArray := prog_1_method_29_code
def yX11_lucky : MethodName := ⟨RX11, "lucky", "(I)I"⟩
abbrev cX11_mean : ByteArray := prog_1_method_30_code
def yX11_mean : MethodName := ⟨RX11, "mean", "(II)I"⟩
abbrev cX11_middle : ByteArray := prog_1_method_31_code
def yX11_middle : MethodName := ⟨RX11, "middle", "(I)I"⟩
abbrev cX11_reach : ByteArray := prog_1_method_32_code
def yX11_reach : MethodName := ⟨RX11, "reach", "(II)I"⟩
abbrev cX11_post : ByteArray := prog_1_method_33_code
def yX11_post : MethodName := ⟨RX11, "post", "(I)I"⟩
abbrev cX11_rows : ByteArray := prog_1_method_34_code
def yX11_rows : MethodName := ⟨RX11, "rows", "(II)J"⟩
abbrev cX11_ends : ByteArray := prog_1_method_35_code
def yX11_ends : MethodName := ⟨RX11, "ends", "(III)J"⟩
abbrev cX11_fair : ByteArray := prog_1_method_36_code
def yX11_fair : MethodName := ⟨RX11, "fair", "(I)I"⟩
abbrev cX11_breaks : ByteArray := prog_1_method_37_code
def yX11_breaks : MethodName := ⟨RX11, "breaks", "(I)I"⟩
abbrev cX11_period : ByteArray := prog_1_method_38_code
def yX11_period : MethodName := ⟨RX11, "period", "(I)I"⟩
abbrev cX11_periods : ByteArray := prog_1_method_39_code
def yX11_periods : MethodName := ⟨RX11, "periods", "(I)I"⟩
abbrev cX11_luck : ByteArray := prog_1_method_40_code
def yX11_luck : MethodName := ⟨RX11, "luck", "(I)I"⟩
abbrev cX11_fits : ByteArray := prog_1_method_41_code
def yX11_fits : MethodName := ⟨RX11, "fits", "(I)I"⟩
abbrev cX11_place : ByteArray := prog_1_method_42_code
def yX11_place : MethodName := ⟨RX11, "place", "(II)I"⟩
abbrev cX11_next : ByteArray := prog_1_method_43_code
def yX11_next : MethodName := ⟨RX11, "next", "(I)I"⟩
abbrev cX11_needed : ByteArray := prog_1_method_44_code
def yX11_needed : MethodName := ⟨RX11, "needed", "(I)I"⟩
abbrev cX11_known : ByteArray := prog_1_method_45_code
def yX11_known : MethodName := ⟨RX11, "known", "()I"⟩
abbrev cX11_rash : ByteArray := prog_1_method_46_code
def yX11_rash : MethodName := ⟨RX11, "rash", "(I)I"⟩
abbrev cX11_look : ByteArray := prog_1_method_47_code
def yX11_look : MethodName := ⟨RX11, "look", "(II)I"⟩
abbrev cX11_line : ByteArray := prog_1_method_48_code
def yX11_line : MethodName := ⟨RX11, "line", "(I)I"⟩
abbrev cX11_two : ByteArray := prog_1_method_49_code
def yX11_two : MethodName := ⟨RX11, "two", "(III)I"⟩
abbrev cX11_tickets : ByteArray := prog_1_method_50_code
def yX11_tickets : MethodName := ⟨RX11, "tickets", "(I)I"⟩
abbrev cX11_prize : ByteArray := prog_1_method_51_code
def yX11_prize : MethodName := ⟨RX11, "prize", "(I)I"⟩
abbrev cX11_counted : ByteArray := prog_1_method_52_code
def yX11_counted : MethodName := ⟨RX11, "counted", "(I)I"⟩
abbrev cX11_scored : ByteArray := prog_1_method_53_code
def yX11_scored : MethodName := ⟨RX11, "scored", "(I)I"⟩
abbrev cX11_early : ByteArray := prog_1_method_54_code
def yX11_early : MethodName := ⟨RX11, "early", "(II)I"⟩
abbrev cX11_often : ByteArray := prog_1_method_55_code
def yX11_often : MethodName := ⟨RX11, "often", "(I)I"⟩
abbrev cX11_balance : ByteArray := prog_1_method_56_code
def yX11_balance : MethodName := ⟨RX11, "balance", "()I"⟩
abbrev cX11_path : ByteArray := prog_1_method_57_code
def yX11_path : MethodName := ⟨RX11, "path", "()I"⟩
abbrev cX11_better : ByteArray := prog_1_method_58_code
def yX11_better : MethodName := ⟨RX11, "better", "(I)I"⟩
abbrev cX11_swap : ByteArray := prog_1_method_59_code
def yX11_swap : MethodName := ⟨RX11, "swap", "(II)I"⟩
abbrev cX11_paint : ByteArray := prog_1_method_60_code
def yX11_paint : MethodName := ⟨RX11, "paint", "(II)I"⟩
abbrev cX11_turn : ByteArray := prog_1_method_61_code
def yX11_turn : MethodName := ⟨RX11, "turn", "(I)I"⟩
abbrev cX11_shut : ByteArray := prog_1_method_62_code
def yX11_shut : MethodName := ⟨RX11, "shut", "(II)I"⟩
abbrev cX11_train : ByteArray := prog_1_method_63_code
def yX11_train : MethodName := ⟨RX11, "train", "(III)I"⟩
abbrev cX11_drawn : ByteArray := prog_1_method_64_code
def yX11_drawn : MethodName := ⟨RX11, "drawn", "(III)I"⟩
abbrev cX11_night : ByteArray := prog_1_method_65_code
def yX11_night : MethodName := ⟨RX11, "night", "(III)I"⟩
abbrev cX11_years : ByteArray := prog_1_method_66_code
def yX11_years : MethodName := ⟨RX11, "years", "(IIII)I"⟩
abbrev cX11_image : ByteArray := prog_1_method_67_code
def yX11_image : MethodName := ⟨RX11, "image", "(I)I"⟩
abbrev cX11_back : ByteArray := prog_1_method_68_code
def yX11_back : MethodName := ⟨RX11, "back", "(I)I"⟩
abbrev cX11_row : ByteArray := prog_1_method_69_code
def yX11_row : MethodName := ⟨RX11, "row", "(III)I"⟩
abbrev cX11_write : ByteArray := prog_1_method_70_code
def yX11_write : MethodName := ⟨RX11, "write", "(IIJ)I"⟩
abbrev cX11_paste : ByteArray := prog_1_method_71_code
def yX11_paste : MethodName := ⟨RX11, "paste", "(IIIII)I"⟩
abbrev cX11_isSlot : ByteArray := prog_1_method_72_code
def yX11_isSlot : MethodName := ⟨RX11, "isSlot", "(I)Z"⟩
abbrev cX11_isLaw : ByteArray := prog_1_method_73_code
def yX11_isLaw : MethodName := ⟨RX11, "isLaw", "(I)Z"⟩
abbrev cX11_isSeed : ByteArray := prog_1_method_74_code
def yX11_isSeed : MethodName := ⟨RX11, "isSeed", "(I)Z"⟩
abbrev cX11_rowsKept : ByteArray := prog_1_method_75_code
def yX11_rowsKept : MethodName := ⟨RX11, "rowsKept", "()I"⟩
abbrev cX11_makeReady : ByteArray := prog_1_method_76_code
def yX11_makeReady : MethodName := ⟨RX11, "makeReady", "(I)Z"⟩
abbrev cX11_runOf : ByteArray := prog_1_method_77_code
def yX11_runOf : MethodName := ⟨RX11, "runOf", "(I)Z"⟩
abbrev cX11_hitsKnowing : ByteArray := prog_1_method_78_code
def yX11_hitsKnowing : MethodName := ⟨RX11, "hitsKnowing", "(I)I"⟩
abbrev cX11_hitsLagging : ByteArray := prog_1_method_79_code
def yX11_hitsLagging : MethodName := ⟨RX11, "hitsLagging", "(I)I"⟩
abbrev cX11_lookPoints : ByteArray := prog_1_method_80_code
def yX11_lookPoints : MethodName := ⟨RX11, "lookPoints", "(I)I"⟩
abbrev cX11_ticketsOfRun : ByteArray := prog_1_method_81_code
def yX11_ticketsOfRun : MethodName := ⟨RX11, "ticketsOfRun", "()I"⟩
abbrev cX11_countLots : ByteArray := prog_1_method_82_code
def yX11_countLots : MethodName := ⟨RX11, "countLots", "(II)Z"⟩
abbrev cX11_whyUnheard : ByteArray := prog_1_method_83_code
def yX11_whyUnheard : MethodName := ⟨RX11, "whyUnheard", "(I)I"⟩
abbrev cX11_whyNoBlows : ByteArray := prog_1_method_84_code
def yX11_whyNoBlows : MethodName := ⟨RX11, "whyNoBlows", "(I)I"⟩
def RX12 : String := "MoleBoardModel"
def TX12 : u_T := fun k => match k with
  | 0 => ("MoleBoardModel", "thrown", "I", false)
  | 1 => ("MoleBoardModel", "world", "[I", true)
  | 2 => ("MoleBoardModel", "images", "[I", true)
  | 3 => ("MoleBoardModel", "hasImage", "[Z", true)
  | 4 => ("MoleBoardModel", "tape", "[B", true)
  | 5 => ("MoleBoardModel", "taped", "I", false)
  | 6 => ("MoleBoardModel", "five", "[I", true)
  | 7 => ("MoleBoardModel", "size", "I", false)
  | 8 => ("MoleBoardModel", "at", "I", false)
  | 9 => ("MoleBoardModel", "from", "I", false)
  | 10 => ("MoleBoardModel", "token", "I", false)
  | 11 => ("MoleBoardModel", "value", "I", false)
  | 12 => ("MoleBoardModel", "faultKind", "I", false)
  | 13 => ("MoleBoardModel", "faultPlace", "I", false)
  | 14 => ("MoleBoardModel", "fresh", "[I", true)
  | 15 => ("MoleBoardModel", "game", "[I", true)
  | 16 => ("MoleBoardModel", "tickOf", "[I", true)
  | 17 => ("MoleBoardModel", "lastOf", "[I", true)
  | 18 => ("MoleBoardModel", "gameMany", "I", false)
  | 19 => ("MoleBoardModel", "runner", "I", false)
  | 20 => ("MoleBoardModel", "runLag", "I", false)
  | 21 => ("MoleBoardModel", "runKnows", "I", false)
  | 22 => ("MoleBoardModel", "runWaits", "I", false)
  | 23 => ("MoleBoardModel", "runHoles", "I", false)
  | 24 => ("MoleBoardModel", "runRed", "Z", false)
  | 25 => ("MoleBoardModel", "hitMany", "[I", true)
  | 26 => ("MoleBoardModel", "hitTick", "[I", true)
  | 27 => ("MoleBoardModel", "strikeTick", "[I", true)
  | 28 => ("MoleBoardModel", "strikeHole", "[I", true)
  | 29 => ("MoleBoardModel", "strikes", "I", false)
  | 30 => ("MoleBoardModel", "redHits", "I", false)
  | 31 => ("MoleBoardModel", "place", "I", false)
  | 32 => ("MoleBoardModel", "free", "I", false)
  | 33 => ("MoleBoardModel", "wentSteps", "I", false)
  | 34 => ("MoleBoardModel", "freeBy", "[I", true)
  | 35 => ("MoleBoardModel", "freeNow", "[I", true)
  | 36 => ("MoleBoardModel", "rowsBy", "[J", true)
  | 37 => ("MoleBoardModel", "rowsNow", "[J", true)
  | 38 => ("MoleBoardModel", "hitHoles", "[I", true)
  | 39 => ("MoleBoardModel", "goodBlows", "I", false)
  | 40 => ("MoleBoardModel", "redBlows", "I", false)
  | 41 => ("MoleBoardModel", "earlyBlows", "I", false)
  | 42 => ("MoleBoardModel", "drawn", "J", false)
  | 43 => ("MoleBoardModel", "many", "[I", true)
  | 44 => ("MoleBoardModel", "width", "[I", true)
  | 45 => ("MoleBoardModel", "numbers", "[J", true)
  | _ => ("MoleBoardModel", "moving", "[J", true)
def tyX12 : Nat → FieldType := fun k => match k with
  | 0 => .int
  | 1 => .array .int
  | 2 => .array .int
  | 3 => .array .boolean
  | 4 => .array .byte
  | 5 => .int
  | 6 => .array .int
  | 7 => .int
  | 8 => .int
  | 9 => .int
  | 10 => .int
  | 11 => .int
  | 12 => .int
  | 13 => .int
  | 14 => .array .int
  | 15 => .array .int
  | 16 => .array .int
  | 17 => .array .int
  | 18 => .int
  | 19 => .int
  | 20 => .int
  | 21 => .int
  | 22 => .int
  | 23 => .int
  | 24 => .boolean
  | 25 => .array .int
  | 26 => .array .int
  | 27 => .array .int
  | 28 => .array .int
  | 29 => .int
  | 30 => .int
  | 31 => .int
  | 32 => .int
  | 33 => .int
  | 34 => .array .int
  | 35 => .array .int
  | 36 => .array .long
  | 37 => .array .long
  | 38 => .array .int
  | 39 => .int
  | 40 => .int
  | 41 => .int
  | 42 => .long
  | 43 => .array .int
  | 44 => .array .int
  | 45 => .array .long
  | _ => .array .long
abbrev wsX120 : List Cond := u_ws RX12 TX12 47
theorem nmX12 : ∀ a, a < 47 → ∀ b, b < 47 → a ≠ b → (TX12 a).2.1 ≠ (TX12 b).2.1 := by decide +kernel
theorem tyX12_ok : ∀ k, k < 47 → parseFieldDescriptor (TX12 k).2.2.1 = some (tyX12 k) := by decide +kernel
abbrev cX12_init : ByteArray := prog_14_method_1_code
def yX12_init : MethodName := ⟨RX12, "<init>", "()V"⟩
abbrev cX12_in : ByteArray := prog_14_method_3_code
def yX12_in : MethodName := ⟨RX12, "in", "(JJJ)Z"⟩
abbrev cX12_image : ByteArray := prog_14_method_4_code
def yX12_image : MethodName := ⟨RX12, "image", "(I)I"⟩
abbrev cX12_back : ByteArray := prog_14_method_5_code
def yX12_back : MethodName := ⟨RX12, "back", "(I)I"⟩
abbrev cX12_isBoard : ByteArray := prog_14_method_6_code
def yX12_isBoard : MethodName := ⟨RX12, "isBoard", "()Z"⟩
abbrev cX12_holes : ByteArray := prog_14_method_7_code
def yX12_holes : MethodName := ⟨RX12, "holes", "()I"⟩
abbrev cX12_isHole : ByteArray := prog_14_method_8_code
def yX12_isHole : MethodName := ⟨RX12, "isHole", "(J)Z"⟩
abbrev cX12_isShut : ByteArray := prog_14_method_9_code
def yX12_isShut : MethodName := ⟨RX12, "isShut", "(I)Z"⟩
abbrev cX12_isTick : ByteArray := prog_14_method_10_code
def yX12_isTick : MethodName := ⟨RX12, "isTick", "(J)Z"⟩
abbrev cX12_isComing : ByteArray := prog_14_method_11_code
def yX12_isComing : MethodName := ⟨RX12, "isComing", "(I)Z"⟩
abbrev cX12_isPlayer : ByteArray := prog_14_method_12_code
def yX12_isPlayer : MethodName := ⟨RX12, "isPlayer", "(I)Z"⟩
abbrev cX12_ofComing : ByteArray := prog_14_method_13_code
def yX12_ofComing : MethodName := ⟨RX12, "ofComing", "(II)I"⟩
abbrev cX12_of : ByteArray := prog_14_method_14_code
def yX12_of : MethodName := ⟨RX12, "of", "(II)I"⟩
abbrev cX12_feed : ByteArray := prog_14_method_15_code
def yX12_feed : MethodName := ⟨RX12, "feed", "(IIIII)I"⟩
abbrev cX12_end : ByteArray := prog_14_method_16_code
def yX12_end : MethodName := ⟨RX12, "end", "(I)I"⟩
abbrev cX12_see : ByteArray := prog_14_method_17_code
def yX12_see : MethodName := ⟨RX12, "see", "(I)I"⟩
abbrev cX12_advance : ByteArray := prog_14_method_18_code
def yX12_advance : MethodName := ⟨RX12, "advance", "()V"⟩
abbrev cX12_good : ByteArray := prog_14_method_19_code
def yX12_good : MethodName := ⟨RX12, "good", "()Z"⟩
abbrev cX12_errs : ByteArray := prog_14_method_20_code
def yX12_errs : MethodName := ⟨RX12, "errs", "(I)V"⟩
abbrev cX12_is : ByteArray := prog_14_method_21_code
def yX12_is : MethodName := ⟨RX12, "is", "(Ljava/lang/String;)Z"⟩
abbrev cX12_takes : ByteArray := prog_14_method_22_code
def yX12_takes : MethodName := ⟨RX12, "takes", "(Ljava/lang/String;)Z"⟩
abbrev cX12_needs : ByteArray := prog_14_method_23_code
def yX12_needs : MethodName := ⟨RX12, "needs", "(Ljava/lang/String;)V"⟩
abbrev cX12_number : ByteArray := prog_14_method_24_code
def yX12_number : MethodName := ⟨RX12, "number", "(II)I"⟩
abbrev cX12_told : ByteArray := prog_14_method_25_code
def yX12_told : MethodName := ⟨RX12, "told", "(Ljava/lang/String;II)I"⟩
abbrev cX12_fault : ByteArray := prog_14_method_26_code
def yX12_fault : MethodName := ⟨RX12, "fault", "(I)I"⟩
abbrev cX12_freshHoles : ByteArray := prog_14_method_27_code
def yX12_freshHoles : MethodName := ⟨RX12, "freshHoles", "()I"⟩
abbrev cX12_readFirst : ByteArray := prog_14_method_28_code
def yX12_readFirst : MethodName := ⟨RX12, "readFirst", "()V"⟩
abbrev cX12_freshStay : ByteArray := prog_14_method_29_code
def yX12_freshStay : MethodName := ⟨RX12, "freshStay", "(I)I"⟩
abbrev cX12_readStay : ByteArray := prog_14_method_30_code
def yX12_readStay : MethodName := ⟨RX12, "readStay", "()V"⟩
abbrev cX12_isNextHole : ByteArray := prog_14_method_31_code
def yX12_isNextHole : MethodName := ⟨RX12, "isNextHole", "()Z"⟩
abbrev cX12_isFreshComing : ByteArray := prog_14_method_32_code
def yX12_isFreshComing : MethodName := ⟨RX12, "isFreshComing", "(I)Z"⟩
abbrev cX12_readShut : ByteArray := prog_14_method_33_code
def yX12_readShut : MethodName := ⟨RX12, "readShut", "()V"⟩
abbrev cX12_readHole : ByteArray := prog_14_method_34_code
def yX12_readHole : MethodName := ⟨RX12, "readHole", "(I)I"⟩
abbrev cX12_readComing : ByteArray := prog_14_method_35_code
def yX12_readComing : MethodName := ⟨RX12, "readComing", "(ZZ)V"⟩
abbrev cX12_readPlayer : ByteArray := prog_14_method_36_code
def yX12_readPlayer : MethodName := ⟨RX12, "readPlayer", "()V"⟩
abbrev cX12_readNext : ByteArray := prog_14_method_37_code
def yX12_readNext : MethodName := ⟨RX12, "readNext", "()V"⟩
abbrev cX12_readLine : ByteArray := prog_14_method_38_code
def yX12_readLine : MethodName := ⟨RX12, "readLine", "()V"⟩
abbrev cX12_board : ByteArray := prog_14_method_39_code
def yX12_board : MethodName := ⟨RX12, "board", "()I"⟩
abbrev cX12_stayIn : ByteArray := prog_14_method_40_code
def yX12_stayIn : MethodName := ⟨RX12, "stayIn", "(I)I"⟩
abbrev cX12_nextTick : ByteArray := prog_14_method_41_code
def yX12_nextTick : MethodName := ⟨RX12, "nextTick", "()I"⟩
abbrev cX12_mayCome : ByteArray := prog_14_method_42_code
def yX12_mayCome : MethodName := ⟨RX12, "mayCome", "()Z"⟩
abbrev cX12_come : ByteArray := prog_14_method_43_code
def yX12_come : MethodName := ⟨RX12, "come", "(III)V"⟩
abbrev cX12_lay : ByteArray := prog_14_method_44_code
def yX12_lay : MethodName := ⟨RX12, "lay", "()V"⟩
abbrev cX12_inGame : ByteArray := prog_14_method_45_code
def yX12_inGame : MethodName := ⟨RX12, "inGame", "(II)I"⟩
abbrev cX12_drum : ByteArray := prog_14_method_46_code
def yX12_drum : MethodName := ⟨RX12, "drum", "(II)I"⟩
abbrev cX12_player : ByteArray := prog_14_method_47_code
def yX12_player : MethodName := ⟨RX12, "player", "(II)I"⟩
abbrev cX12_stay : ByteArray := prog_14_method_48_code
def yX12_stay : MethodName := ⟨RX12, "stay", "(I)I"⟩
abbrev cX12_comings : ByteArray := prog_14_method_49_code
def yX12_comings : MethodName := ⟨RX12, "comings", "()I"⟩
abbrev cX12_isInGame : ByteArray := prog_14_method_50_code
def yX12_isInGame : MethodName := ⟨RX12, "isInGame", "(I)Z"⟩
abbrev cX12_comes : ByteArray := prog_14_method_51_code
def yX12_comes : MethodName := ⟨RX12, "comes", "(II)I"⟩
abbrev cX12_upIn : ByteArray := prog_14_method_52_code
def yX12_upIn : MethodName := ⟨RX12, "upIn", "(I)I"⟩
abbrev cX12_up : ByteArray := prog_14_method_53_code
def yX12_up : MethodName := ⟨RX12, "up", "(I)I"⟩
abbrev cX12_calm : ByteArray := prog_14_method_54_code
def yX12_calm : MethodName := ⟨RX12, "calm", "()I"⟩
abbrev cX12_stepsOf : ByteArray := prog_14_method_55_code
def yX12_stepsOf : MethodName := ⟨RX12, "stepsOf", "(II)I"⟩
abbrev cX12_steps : ByteArray := prog_14_method_56_code
def yX12_steps : MethodName := ⟨RX12, "steps", "(II)I"⟩
abbrev cX12_paceIn : ByteArray := prog_14_method_57_code
def yX12_paceIn : MethodName := ⟨RX12, "paceIn", "(II)I"⟩
abbrev cX12_pace : ByteArray := prog_14_method_58_code
def yX12_pace : MethodName := ⟨RX12, "pace", "(II)I"⟩
abbrev cX12_asTold : ByteArray := prog_14_method_59_code
def yX12_asTold : MethodName := ⟨RX12, "asTold", "(I)V"⟩
abbrev cX12_awareOf : ByteArray := prog_14_method_60_code
def yX12_awareOf : MethodName := ⟨RX12, "awareOf", "(I)I"⟩
abbrev cX12_aware : ByteArray := prog_14_method_61_code
def yX12_aware : MethodName := ⟨RX12, "aware", "(II)I"⟩
abbrev cX12_goes : ByteArray := prog_14_method_62_code
def yX12_goes : MethodName := ⟨RX12, "goes", "(II)Z"⟩
abbrev cX12_isHis : ByteArray := prog_14_method_63_code
def yX12_isHis : MethodName := ⟨RX12, "isHis", "(I)Z"⟩
abbrev cX12_goesFor : ByteArray := prog_14_method_64_code
def yX12_goesFor : MethodName := ⟨RX12, "goesFor", "(I)V"⟩
abbrev cX12_run : ByteArray := prog_14_method_65_code
def yX12_run : MethodName := ⟨RX12, "run", "()V"⟩
abbrev cX12_runAsTold : ByteArray := prog_14_method_66_code
def yX12_runAsTold : MethodName := ⟨RX12, "runAsTold", "(I)V"⟩
abbrev cX12_hits : ByteArray := prog_14_method_67_code
def yX12_hits : MethodName := ⟨RX12, "hits", "(I)I"⟩
abbrev cX12_hit : ByteArray := prog_14_method_68_code
def yX12_hit : MethodName := ⟨RX12, "hit", "(II)I"⟩
abbrev cX12_twice : ByteArray := prog_14_method_69_code
def yX12_twice : MethodName := ⟨RX12, "twice", "(II)I"⟩
abbrev cX12_where : ByteArray := prog_14_method_70_code
def yX12_where : MethodName := ⟨RX12, "where", "(II)I"⟩
abbrev cX12_missed : ByteArray := prog_14_method_71_code
def yX12_missed : MethodName := ⟨RX12, "missed", "(I)I"⟩
abbrev cX12_walked : ByteArray := prog_14_method_72_code
def yX12_walked : MethodName := ⟨RX12, "walked", "(I)I"⟩
abbrev cX12_cell : ByteArray := prog_14_method_73_code
def yX12_cell : MethodName := ⟨RX12, "cell", "(II)I"⟩
abbrev cX12_sooner : ByteArray := prog_14_method_74_code
def yX12_sooner : MethodName := ⟨RX12, "sooner", "(III)V"⟩
abbrev cX12_behind : ByteArray := prog_14_method_75_code
def yX12_behind : MethodName := ⟨RX12, "behind", "(IIII)I"⟩
abbrev cX12_mayHit : ByteArray := prog_14_method_76_code
def yX12_mayHit : MethodName := ⟨RX12, "mayHit", "(III)V"⟩
abbrev cX12_bestOf : ByteArray := prog_14_method_77_code
def yX12_bestOf : MethodName := ⟨RX12, "bestOf", "(II)I"⟩
abbrev cX12_best : ByteArray := prog_14_method_78_code
def yX12_best : MethodName := ⟨RX12, "best", "(I)I"⟩
abbrev cX12_ahead : ByteArray := prog_14_method_79_code
def yX12_ahead : MethodName := ⟨RX12, "ahead", "(II)I"⟩
abbrev cX12_learnsBy : ByteArray := prog_14_method_80_code
def yX12_learnsBy : MethodName := ⟨RX12, "learnsBy", "(II)I"⟩
abbrev cX12_learns : ByteArray := prog_14_method_81_code
def yX12_learns : MethodName := ⟨RX12, "learns", "(II)I"⟩
abbrev cX12_enough : ByteArray := prog_14_method_82_code
def yX12_enough : MethodName := ⟨RX12, "enough", "(I)I"⟩
abbrev cX12_waitingAt : ByteArray := prog_14_method_83_code
def yX12_waitingAt : MethodName := ⟨RX12, "waitingAt", "(II)I"⟩
abbrev cX12_waits : ByteArray := prog_14_method_84_code
def yX12_waits : MethodName := ⟨RX12, "waits", "(II)I"⟩
abbrev cX12_openHoles : ByteArray := prog_14_method_85_code
def yX12_openHoles : MethodName := ⟨RX12, "openHoles", "()I"⟩
abbrev cX12_stepsToAll : ByteArray := prog_14_method_86_code
def yX12_stepsToAll : MethodName := ⟨RX12, "stepsToAll", "(I)I"⟩
abbrev cX12_divisor : ByteArray := prog_14_method_87_code
def yX12_divisor : MethodName := ⟨RX12, "divisor", "(II)I"⟩
abbrev cX12_mean : ByteArray := prog_14_method_88_code
def yX12_mean : MethodName := ⟨RX12, "mean", "(II)I"⟩
abbrev cX12_middle : ByteArray := prog_14_method_89_code
def yX12_middle : MethodName := ⟨RX12, "middle", "(I)I"⟩
abbrev cX12_reachOf : ByteArray := prog_14_method_90_code
def yX12_reachOf : MethodName := ⟨RX12, "reachOf", "(II)I"⟩
abbrev cX12_reach : ByteArray := prog_14_method_91_code
def yX12_reach : MethodName := ⟨RX12, "reach", "(II)I"⟩
abbrev cX12_bits : ByteArray := prog_14_method_92_code
def yX12_bits : MethodName := ⟨RX12, "bits", "(I)I"⟩
abbrev cX12_post : ByteArray := prog_14_method_93_code
def yX12_post : MethodName := ⟨RX12, "post", "(I)I"⟩
abbrev cX12_lagging : ByteArray := prog_14_method_94_code
def yX12_lagging : MethodName := ⟨RX12, "lagging", "(II)I"⟩
abbrev cX12_slack : ByteArray := prog_14_method_95_code
def yX12_slack : MethodName := ⟨RX12, "slack", "(I)I"⟩
abbrev cX12_isLaw : ByteArray := prog_14_method_96_code
def yX12_isLaw : MethodName := ⟨RX12, "isLaw", "(I)Z"⟩
abbrev cX12_lets : ByteArray := prog_14_method_97_code
def yX12_lets : MethodName := ⟨RX12, "lets", "(IIII)Z"⟩
abbrev cX12_fillRows : ByteArray := prog_14_method_98_code
def yX12_fillRows : MethodName := ⟨RX12, "fillRows", "(II)V"⟩
abbrev cX12_endingIn : ByteArray := prog_14_method_99_code
def yX12_endingIn : MethodName := ⟨RX12, "endingIn", "(I)J"⟩
abbrev cX12_rows : ByteArray := prog_14_method_100_code
def yX12_rows : MethodName := ⟨RX12, "rows", "(II)J"⟩
abbrev cX12_ends : ByteArray := prog_14_method_101_code
def yX12_ends : MethodName := ⟨RX12, "ends", "(III)J"⟩
abbrev cX12_fair : ByteArray := prog_14_method_102_code
def yX12_fair : MethodName := ⟨RX12, "fair", "(I)I"⟩
abbrev cX12_holeAt : ByteArray := prog_14_method_103_code
def yX12_holeAt : MethodName := ⟨RX12, "holeAt", "(I)I"⟩
abbrev cX12_breaks : ByteArray := prog_14_method_104_code
def yX12_breaks : MethodName := ⟨RX12, "breaks", "(I)I"⟩
abbrev cX12_numberAt : ByteArray := prog_14_method_105_code
def yX12_numberAt : MethodName := ⟨RX12, "numberAt", "(II)J"⟩
abbrev cX12_asksHeard : ByteArray := prog_14_method_106_code
def yX12_asksHeard : MethodName := ⟨RX12, "asksHeard", "(I)I"⟩
abbrev cX12_isPeriod : ByteArray := prog_14_method_107_code
def yX12_isPeriod : MethodName := ⟨RX12, "isPeriod", "(II)Z"⟩
abbrev cX12_leastPeriod : ByteArray := prog_14_method_108_code
def yX12_leastPeriod : MethodName := ⟨RX12, "leastPeriod", "(I)I"⟩
abbrev cX12_period : ByteArray := prog_14_method_109_code
def yX12_period : MethodName := ⟨RX12, "period", "(I)I"⟩
abbrev cX12_periods : ByteArray := prog_14_method_110_code
def yX12_periods : MethodName := ⟨RX12, "periods", "(I)I"⟩
abbrev cX12_luck : ByteArray := prog_14_method_111_code
def yX12_luck : MethodName := ⟨RX12, "luck", "(I)I"⟩
abbrev cX12_fitsFrom : ByteArray := prog_14_method_112_code
def yX12_fitsFrom : MethodName := ⟨RX12, "fitsFrom", "(II)Z"⟩
abbrev cX12_fits : ByteArray := prog_14_method_113_code
def yX12_fits : MethodName := ⟨RX12, "fits", "(I)I"⟩
abbrev cX12_place : ByteArray := prog_14_method_114_code
def yX12_place : MethodName := ⟨RX12, "place", "(II)I"⟩
abbrev cX12_next : ByteArray := prog_14_method_115_code
def yX12_next : MethodName := ⟨RX12, "next", "(I)I"⟩
abbrev cX12_goesAlike : ByteArray := prog_14_method_116_code
def yX12_goesAlike : MethodName := ⟨RX12, "goesAlike", "(III)Z"⟩
abbrev cX12_neededFrom : ByteArray := prog_14_method_117_code
def yX12_neededFrom : MethodName := ⟨RX12, "neededFrom", "(I)I"⟩
abbrev cX12_needed : ByteArray := prog_14_method_118_code
def yX12_needed : MethodName := ⟨RX12, "needed", "(I)I"⟩
abbrev cX12_known : ByteArray := prog_14_method_119_code
def yX12_known : MethodName := ⟨RX12, "known", "()I"⟩
abbrev cX12_rashOf : ByteArray := prog_14_method_120_code
def yX12_rashOf : MethodName := ⟨RX12, "rashOf", "(I)I"⟩
abbrev cX12_rash : ByteArray := prog_14_method_121_code
def yX12_rash : MethodName := ⟨RX12, "rash", "(I)I"⟩
abbrev cX12_lookOf : ByteArray := prog_14_method_122_code
def yX12_lookOf : MethodName := ⟨RX12, "lookOf", "(II)I"⟩
abbrev cX12_look : ByteArray := prog_14_method_123_code
def yX12_look : MethodName := ⟨RX12, "look", "(II)I"⟩
abbrev cX12_line : ByteArray := prog_14_method_124_code
def yX12_line : MethodName := ⟨RX12, "line", "(I)I"⟩
abbrev cX12_hitsOn : ByteArray := prog_14_method_125_code
def yX12_hitsOn : MethodName := ⟨RX12, "hitsOn", "(II)I"⟩
abbrev cX12_two : ByteArray := prog_14_method_126_code
def yX12_two : MethodName := ⟨RX12, "two", "(III)I"⟩
abbrev cX12_ticketsOf : ByteArray := prog_14_method_127_code
def yX12_ticketsOf : MethodName := ⟨RX12, "ticketsOf", "(I)I"⟩
abbrev cX12_tickets : ByteArray := prog_14_method_128_code
def yX12_tickets : MethodName := ⟨RX12, "tickets", "(I)I"⟩
abbrev cX12_prize : ByteArray := prog_14_method_129_code
def yX12_prize : MethodName := ⟨RX12, "prize", "(I)I"⟩
abbrev cX12_asksBlows : ByteArray := prog_14_method_130_code
def yX12_asksBlows : MethodName := ⟨RX12, "asksBlows", "(I)I"⟩
abbrev cX12_strike : ByteArray := prog_14_method_131_code
def yX12_strike : MethodName := ⟨RX12, "strike", "(III)V"⟩
abbrev cX12_layBlows : ByteArray := prog_14_method_132_code
def yX12_layBlows : MethodName := ⟨RX12, "layBlows", "(II)V"⟩
abbrev cX12_counted : ByteArray := prog_14_method_133_code
def yX12_counted : MethodName := ⟨RX12, "counted", "(I)I"⟩
abbrev cX12_scored : ByteArray := prog_14_method_134_code
def yX12_scored : MethodName := ⟨RX12, "scored", "(I)I"⟩
abbrev cX12_early : ByteArray := prog_14_method_135_code
def yX12_early : MethodName := ⟨RX12, "early", "(II)I"⟩
abbrev cX12_oftenOf : ByteArray := prog_14_method_136_code
def yX12_oftenOf : MethodName := ⟨RX12, "oftenOf", "(I)I"⟩
abbrev cX12_often : ByteArray := prog_14_method_137_code
def yX12_often : MethodName := ⟨RX12, "often", "(I)I"⟩
abbrev cX12_balance : ByteArray := prog_14_method_138_code
def yX12_balance : MethodName := ⟨RX12, "balance", "()I"⟩
abbrev cX12_pathOf : ByteArray := prog_14_method_139_code
def yX12_pathOf : MethodName := ⟨RX12, "pathOf", "()I"⟩
abbrev cX12_path : ByteArray := prog_14_method_140_code
def yX12_path : MethodName := ⟨RX12, "path", "()I"⟩
abbrev cX12_trade : ByteArray := prog_14_method_141_code
def yX12_trade : MethodName := ⟨RX12, "trade", "(II)V"⟩
abbrev cX12_better : ByteArray := prog_14_method_142_code
def yX12_better : MethodName := ⟨RX12, "better", "(I)I"⟩
abbrev cX12_swap : ByteArray := prog_14_method_143_code
def yX12_swap : MethodName := ⟨RX12, "swap", "(II)I"⟩
abbrev cX12_paint : ByteArray := prog_14_method_144_code
def yX12_paint : MethodName := ⟨RX12, "paint", "(II)I"⟩
abbrev cX12_turn : ByteArray := prog_14_method_145_code
def yX12_turn : MethodName := ⟨RX12, "turn", "(I)I"⟩
abbrev cX12_lucky : ByteArray := prog_14_method_146_code
def yX12_lucky : MethodName := ⟨RX12, "lucky", "(I)I"⟩
abbrev cX12_shut : ByteArray := prog_14_method_147_code
def yX12_shut : MethodName := ⟨RX12, "shut", "(II)I"⟩
abbrev cX12_train : ByteArray := prog_14_method_148_code
def yX12_train : MethodName := ⟨RX12, "train", "(III)I"⟩
abbrev cX12_draw : ByteArray := prog_14_method_149_code
def yX12_draw : MethodName := ⟨RX12, "draw", "(I)I"⟩
abbrev cX12_holeByLot : ByteArray := prog_14_method_150_code
def yX12_holeByLot : MethodName := ⟨RX12, "holeByLot", "(I)I"⟩
abbrev cX12_layNight : ByteArray := prog_14_method_151_code
def yX12_layNight : MethodName := ⟨RX12, "layNight", "(JI)V"⟩
abbrev cX12_isSeed : ByteArray := prog_14_method_152_code
def yX12_isSeed : MethodName := ⟨RX12, "isSeed", "(I)Z"⟩
abbrev cX12_drawn : ByteArray := prog_14_method_153_code
def yX12_drawn : MethodName := ⟨RX12, "drawn", "(III)I"⟩
abbrev cX12_nightOf : ByteArray := prog_14_method_154_code
def yX12_nightOf : MethodName := ⟨RX12, "nightOf", "(JII)I"⟩
abbrev cX12_night : ByteArray := prog_14_method_155_code
def yX12_night : MethodName := ⟨RX12, "night", "(III)I"⟩
abbrev cX12_years : ByteArray := prog_14_method_156_code
def yX12_years : MethodName := ⟨RX12, "years", "(IIII)I"⟩
abbrev cX12_count : ByteArray := prog_14_method_157_code
def yX12_count : MethodName := ⟨RX12, "count", "(I)I"⟩
abbrev cX12_isSlot : ByteArray := prog_14_method_158_code
def yX12_isSlot : MethodName := ⟨RX12, "isSlot", "(I)Z"⟩
abbrev cX12_cut : ByteArray := prog_14_method_159_code
def yX12_cut : MethodName := ⟨RX12, "cut", "(JI)J"⟩
abbrev cX12_row : ByteArray := prog_14_method_160_code
def yX12_row : MethodName := ⟨RX12, "row", "(III)I"⟩
abbrev cX12_write : ByteArray := prog_14_method_161_code
def yX12_write : MethodName := ⟨RX12, "write", "(IIJ)I"⟩
abbrev cX12_paste : ByteArray := prog_14_method_162_code
def yX12_paste : MethodName := ⟨RX12, "paste", "(IIIII)I"⟩
def RJ6 : String := "java/lang/Integer"
def TJ6 : u_T := fun k => match k with
  | _ => ("", "", "", false)
def tyJ6 : Nat → FieldType := fun k => match k with
  | _ => .int
abbrev wsJ60 : List Cond := u_ws RJ6 TJ6 0
theorem nmJ6 : ∀ a, a < 0 → ∀ b, b < 0 → a ≠ b → (TJ6 a).2.1 ≠ (TJ6 b).2.1 := by decide +kernel
theorem tyJ6_ok : ∀ k, k < 0 → parseFieldDescriptor (TJ6 k).2.2.1 = some (tyJ6 k) := by decide +kernel
abbrev cJ6_bitCount_0f7a4 : ByteArray := prog_15_method_49_code
def yJ6_bitCount_0f7a4 : MethodName := ⟨RJ6, "bitCount", "(I)I"⟩
def RJ9 : String := "java/lang/Math"
def TJ9 : u_T := fun k => match k with
  | _ => ("", "", "", false)
def tyJ9 : Nat → FieldType := fun k => match k with
  | _ => .int
abbrev wsJ90 : List Cond := u_ws RJ9 TJ9 0
theorem nmJ9 : ∀ a, a < 0 → ∀ b, b < 0 → a ≠ b → (TJ9 a).2.1 ≠ (TJ9 b).2.1 := by decide +kernel
theorem tyJ9_ok : ∀ k, k < 0 → parseFieldDescriptor (TJ9 k).2.2.1 = some (tyJ9 k) := by decide +kernel
abbrev cJ9_floorMod_7cf53 : ByteArray := prog_16_method_50_code
def yJ9_floorMod_7cf53 : MethodName := ⟨RJ9, "floorMod", "(II)I"⟩
abbrev cJ9_abs_0f7a4 : ByteArray := prog_16_method_59_code
def yJ9_abs_0f7a4 : MethodName := ⟨RJ9, "abs", "(I)I"⟩
abbrev cJ9_max_7cf53 : ByteArray := prog_16_method_65_code
def yJ9_max_7cf53 : MethodName := ⟨RJ9, "max", "(II)I"⟩
abbrev cJ9_min_7cf53 : ByteArray := prog_16_method_69_code
def yJ9_min_7cf53 : MethodName := ⟨RJ9, "min", "(II)I"⟩
def RJ0 : String := "java/lang/String"
def TJ0 : u_T := fun k => match k with
  | _ => ("", "", "", false)
def tyJ0 : Nat → FieldType := fun k => match k with
  | _ => .int
abbrev wsJ00 : List Cond := u_ws RJ0 TJ0 0
theorem nmJ0 : ∀ a, a < 0 → ∀ b, b < 0 → a ≠ b → (TJ0 a).2.1 ≠ (TJ0 b).2.1 := by decide +kernel
theorem tyJ0_ok : ∀ k, k < 0 → parseFieldDescriptor (TJ0 k).2.2.1 = some (tyJ0 k) := by decide +kernel
abbrev cJ0_length_8abf5 : ByteArray := prog_17_method_54_code
def yJ0_length_8abf5 : MethodName := ⟨RJ0, "length", "()I"⟩
abbrev cJ0_charAt_5068e : ByteArray := prog_17_method_56_code
def yJ0_charAt_5068e : MethodName := ⟨RJ0, "charAt", "(I)C"⟩
abbrev cJ0_coder_7d493 : ByteArray := prog_17_method_152_code
def yJ0_coder_7d493 : MethodName := ⟨RJ0, "coder", "()B"⟩
abbrev cJ0_isLatin1_aae02 : ByteArray := prog_17_method_154_code
def yJ0_isLatin1_aae02 : MethodName := ⟨RJ0, "isLatin1", "()Z"⟩
abbrev cJ0_checkIndex_df160 : ByteArray := prog_17_method_155_code
def yJ0_checkIndex_df160 : MethodName := ⟨RJ0, "checkIndex", "(II)V"⟩
def RJ1 : String := "java/lang/StringLatin1"
def TJ1 : u_T := fun k => match k with
  | _ => ("", "", "", false)
def tyJ1 : Nat → FieldType := fun k => match k with
  | _ => .int
abbrev wsJ10 : List Cond := u_ws RJ1 TJ1 0
theorem nmJ1 : ∀ a, a < 0 → ∀ b, b < 0 → a ≠ b → (TJ1 a).2.1 ≠ (TJ1 b).2.1 := by decide +kernel
theorem tyJ1_ok : ∀ k, k < 0 → parseFieldDescriptor (TJ1 k).2.2.1 = some (tyJ1 k) := by decide +kernel
abbrev cJ1_charAt_3b067 : ByteArray := prog_18_method_2_code
def yJ1_charAt_3b067 : MethodName := ⟨RJ1, "charAt", "([BI)C"⟩
def RJ2 : String := "java/lang/StringUTF16"
def TJ2 : u_T := fun k => match k with
  | _ => ("", "", "", false)
def tyJ2 : Nat → FieldType := fun k => match k with
  | _ => .int
abbrev wsJ20 : List Cond := u_ws RJ2 TJ2 0
theorem nmJ2 : ∀ a, a < 0 → ∀ b, b < 0 → a ≠ b → (TJ2 a).2.1 ≠ (TJ2 b).2.1 := by decide +kernel
theorem tyJ2_ok : ∀ k, k < 0 → parseFieldDescriptor (TJ2 k).2.2.1 = some (tyJ2 k) := by decide +kernel
abbrev cJ2_getChar_3b067 : ByteArray := prog_19_method_5_code
def yJ2_getChar_3b067 : MethodName := ⟨RJ2, "getChar", "([BI)C"⟩
abbrev cJ2_length_9d52b : ByteArray := prog_19_method_6_code
def yJ2_length_9d52b : MethodName := ⟨RJ2, "length", "([B)I"⟩
abbrev cJ2_charAt_3b067 : ByteArray := prog_19_method_83_code
def yJ2_charAt_3b067 : MethodName := ⟨RJ2, "charAt", "([BI)C"⟩
abbrev cJ2_checkIndex_2214a : ByteArray := prog_19_method_91_code
def yJ2_checkIndex_2214a : MethodName := ⟨RJ2, "checkIndex", "(I[B)V"⟩
def RJ10 : String := "java/lang/System"
def TJ10 : u_T := fun k => match k with
  | _ => ("", "", "", false)
def tyJ10 : Nat → FieldType := fun k => match k with
  | _ => .int
abbrev wsJ100 : List Cond := u_ws RJ10 TJ10 0
theorem nmJ10 : ∀ a, a < 0 → ∀ b, b < 0 → a ≠ b → (TJ10 a).2.1 ≠ (TJ10 b).2.1 := by decide +kernel
theorem tyJ10_ok : ∀ k, k < 0 → parseFieldDescriptor (TJ10 k).2.2.1 = some (tyJ10 k) := by decide +kernel
def RJ3 : String := "jdk/internal/util/Preconditions"
def TJ3 : u_T := fun k => match k with
  | _ => ("", "", "", false)
def tyJ3 : Nat → FieldType := fun k => match k with
  | _ => .int
abbrev wsJ30 : List Cond := u_ws RJ3 TJ3 0
theorem nmJ3 : ∀ a, a < 0 → ∀ b, b < 0 → a ≠ b → (TJ3 a).2.1 ≠ (TJ3 b).2.1 := by decide +kernel
theorem tyJ3_ok : ∀ k, k < 0 → parseFieldDescriptor (TJ3 k).2.2.1 = some (tyJ3 k) := by decide +kernel
abbrev cJ3_checkIndex_8e157 : ByteArray := prog_21_method_11_code
def yJ3_checkIndex_8e157 : MethodName := ⟨RJ3, "checkIndex", "(IILjava/util/function/BiFunction;)I"⟩
def RL : String := "MoleBoardLaw"
abbrev cL_law : ByteArray := code
abbrev vwCl : List vw_C := [(RX0, TX0, 1), (RX1, TX1, 4), (RX2, TX2, 15), (RX3, TX3, 5), (RX4, TX4, 7), (RX5, TX5, 2), (RX6, TX6, 5), (RX7, TX7, 9), (RX8, TX8, 3), (RX9, TX9, 9), (RX10, TX10, 2), (RX11, TX11, 11), (RX12, TX12, 47)]
/-- the classes of which rows are made -/
def x_ao : List String := ["MoleBoard$Board", "MoleBoard$Row"]
