section
-- ===== PART A: goes FIRST, ahead of the names: the tables' words, and 'selects' of the private methods out of them =====
/-- a private method of a class that the tables say can be made, by its rows of tables_1 -/
def lw_okq (q : MethodName × Nat) : Prop := (q.1.cls ≠ "java/lang/invoke/MethodHandle" ∧ q.1.cls ≠ "java/lang/invoke/VarHandle") ∧ Cond.instantiable q.1.cls q.2 ∈ tables_1 ∧ Cond.privateMethod q.1 ∈ tables_1 ∧ Cond.instanceMethod q.1 ∈ tables_1
theorem lw_p0 : lw_okq (⟨"HeaderLine", "isLineFull", "()Z"⟩, 12) := ⟨⟨by decide +kernel, by decide +kernel⟩, List.mem_of_getElem? (i := 17) (by decide +kernel), List.mem_of_getElem? (i := 359) (by decide +kernel), List.mem_of_getElem? (i := 360) (by decide +kernel)⟩
theorem lw_p1 : lw_okq (⟨"HeaderLine$Squeezer", "isGivenByAll", "(LHeaderLine$Plan;LHeaderLine$Header;I)Z"⟩, 7) := ⟨⟨by decide +kernel, by decide +kernel⟩, List.mem_of_getElem? (i := 83) (by decide +kernel), List.mem_of_getElem? (i := 367) (by decide +kernel), List.mem_of_getElem? (i := 368) (by decide +kernel)⟩
theorem lw_p2 : lw_okq (⟨"HeaderLine$Squeezer", "oldestMiss", "(LHeaderLine$Plan;LHeaderLine$Header;II)I"⟩, 7) := ⟨⟨by decide +kernel, by decide +kernel⟩, List.mem_of_getElem? (i := 83) (by decide +kernel), List.mem_of_getElem? (i := 371) (by decide +kernel), List.mem_of_getElem? (i := 372) (by decide +kernel)⟩
theorem lw_p3 : lw_okq (⟨"HeaderLine$Squeezer", "findLeast", "(LHeaderLine$Plan;LHeaderLine$Header;ILHeaderLine$Proof;)V"⟩, 7) := ⟨⟨by decide +kernel, by decide +kernel⟩, List.mem_of_getElem? (i := 83) (by decide +kernel), List.mem_of_getElem? (i := 454) (by decide +kernel), List.mem_of_getElem? (i := 455) (by decide +kernel)⟩
theorem lw_p4 : lw_okq (⟨"HeaderLine$Squeezer", "dropOldest", "(I)V"⟩, 7) := ⟨⟨by decide +kernel, by decide +kernel⟩, List.mem_of_getElem? (i := 83) (by decide +kernel), List.mem_of_getElem? (i := 462) (by decide +kernel), List.mem_of_getElem? (i := 463) (by decide +kernel)⟩
theorem lw_p5 : lw_okq (⟨"HeaderLine", "addWritten", "(IIILHeaderLine$Proof;)I"⟩, 12) := ⟨⟨by decide +kernel, by decide +kernel⟩, List.mem_of_getElem? (i := 17) (by decide +kernel), List.mem_of_getElem? (i := 473) (by decide +kernel), List.mem_of_getElem? (i := 474) (by decide +kernel)⟩
theorem lw_p6 : lw_okq (⟨"HeaderLine", "add", "(LHeaderLine$Letter;)I"⟩, 12) := ⟨⟨by decide +kernel, by decide +kernel⟩, List.mem_of_getElem? (i := 17) (by decide +kernel), List.mem_of_getElem? (i := 543) (by decide +kernel), List.mem_of_getElem? (i := 544) (by decide +kernel)⟩
theorem lw_p7 : lw_okq (⟨"HeaderLine", "addAnswer", "(III)I"⟩, 12) := ⟨⟨by decide +kernel, by decide +kernel⟩, List.mem_of_getElem? (i := 17) (by decide +kernel), List.mem_of_getElem? (i := 551) (by decide +kernel), List.mem_of_getElem? (i := 552) (by decide +kernel)⟩
theorem lw_p8 : lw_okq (⟨"HeaderLine", "letterUnderWay", "(I)LHeaderLine$Letter;"⟩, 12) := ⟨⟨by decide +kernel, by decide +kernel⟩, List.mem_of_getElem? (i := 17) (by decide +kernel), List.mem_of_getElem? (i := 563) (by decide +kernel), List.mem_of_getElem? (i := 564) (by decide +kernel)⟩
theorem lw_p9 : lw_okq (⟨"HeaderLine", "letterAt", "(I)LHeaderLine$Letter;"⟩, 12) := ⟨⟨by decide +kernel, by decide +kernel⟩, List.mem_of_getElem? (i := 17) (by decide +kernel), List.mem_of_getElem? (i := 567) (by decide +kernel), List.mem_of_getElem? (i := 568) (by decide +kernel)⟩
theorem lw_p10 : lw_okq (⟨"HeaderLine", "outcomeOf", "([I)I"⟩, 12) := ⟨⟨by decide +kernel, by decide +kernel⟩, List.mem_of_getElem? (i := 17) (by decide +kernel), List.mem_of_getElem? (i := 571) (by decide +kernel), List.mem_of_getElem? (i := 572) (by decide +kernel)⟩
theorem lw_p11 : lw_okq (⟨"HeaderLine$Arrival", "read", "(I)J"⟩, 12) := ⟨⟨by decide +kernel, by decide +kernel⟩, List.mem_of_getElem? (i := 192) (by decide +kernel), List.mem_of_getElem? (i := 579) (by decide +kernel), List.mem_of_getElem? (i := 580) (by decide +kernel)⟩
theorem lw_p12 : lw_okq (⟨"HeaderLine$Arrival", "readField", "(LHeaderLine$Plan;I)V"⟩, 12) := ⟨⟨by decide +kernel, by decide +kernel⟩, List.mem_of_getElem? (i := 192) (by decide +kernel), List.mem_of_getElem? (i := 583) (by decide +kernel), List.mem_of_getElem? (i := 584) (by decide +kernel)⟩
theorem lw_p13 : lw_okq (⟨"HeaderLine$Arrival", "readValue", "(III)V"⟩, 12) := ⟨⟨by decide +kernel, by decide +kernel⟩, List.mem_of_getElem? (i := 192) (by decide +kernel), List.mem_of_getElem? (i := 587) (by decide +kernel), List.mem_of_getElem? (i := 588) (by decide +kernel)⟩
theorem lw_p14 : lw_okq (⟨"HeaderLine$Arrival", "isEndRight", "()Z"⟩, 12) := ⟨⟨by decide +kernel, by decide +kernel⟩, List.mem_of_getElem? (i := 192) (by decide +kernel), List.mem_of_getElem? (i := 593) (by decide +kernel), List.mem_of_getElem? (i := 594) (by decide +kernel)⟩
theorem lw_p15 : lw_okq (⟨"HeaderLine", "open", "(LHeaderLine$Context;)I"⟩, 12) := ⟨⟨by decide +kernel, by decide +kernel⟩, List.mem_of_getElem? (i := 17) (by decide +kernel), List.mem_of_getElem? (i := 604) (by decide +kernel), List.mem_of_getElem? (i := 605) (by decide +kernel)⟩
def lw_privs_1 : List (MethodName × Nat) := [(⟨"HeaderLine", "isLineFull", "()Z"⟩, 12), (⟨"HeaderLine$Squeezer", "isGivenByAll", "(LHeaderLine$Plan;LHeaderLine$Header;I)Z"⟩, 7), (⟨"HeaderLine$Squeezer", "oldestMiss", "(LHeaderLine$Plan;LHeaderLine$Header;II)I"⟩, 7), (⟨"HeaderLine$Squeezer", "findLeast", "(LHeaderLine$Plan;LHeaderLine$Header;ILHeaderLine$Proof;)V"⟩, 7), (⟨"HeaderLine$Squeezer", "dropOldest", "(I)V"⟩, 7), (⟨"HeaderLine", "addWritten", "(IIILHeaderLine$Proof;)I"⟩, 12), (⟨"HeaderLine", "add", "(LHeaderLine$Letter;)I"⟩, 12), (⟨"HeaderLine", "addAnswer", "(III)I"⟩, 12), (⟨"HeaderLine", "letterUnderWay", "(I)LHeaderLine$Letter;"⟩, 12), (⟨"HeaderLine", "letterAt", "(I)LHeaderLine$Letter;"⟩, 12), (⟨"HeaderLine", "outcomeOf", "([I)I"⟩, 12), (⟨"HeaderLine$Arrival", "read", "(I)J"⟩, 12), (⟨"HeaderLine$Arrival", "readField", "(LHeaderLine$Plan;I)V"⟩, 12), (⟨"HeaderLine$Arrival", "readValue", "(III)V"⟩, 12), (⟨"HeaderLine$Arrival", "isEndRight", "()Z"⟩, 12), (⟨"HeaderLine", "open", "(LHeaderLine$Context;)I"⟩, 12)]
theorem lw_r1 : ∀ q ∈ lw_privs_1, lw_okq q := List.forall_mem_cons.mpr ⟨lw_p0, List.forall_mem_cons.mpr ⟨lw_p1, List.forall_mem_cons.mpr ⟨lw_p2, List.forall_mem_cons.mpr ⟨lw_p3, List.forall_mem_cons.mpr ⟨lw_p4, List.forall_mem_cons.mpr ⟨lw_p5, List.forall_mem_cons.mpr ⟨lw_p6, List.forall_mem_cons.mpr ⟨lw_p7, List.forall_mem_cons.mpr ⟨lw_p8, List.forall_mem_cons.mpr ⟨lw_p9, List.forall_mem_cons.mpr ⟨lw_p10, List.forall_mem_cons.mpr ⟨lw_p11, List.forall_mem_cons.mpr ⟨lw_p12, List.forall_mem_cons.mpr ⟨lw_p13, List.forall_mem_cons.mpr ⟨lw_p14, List.forall_mem_cons.mpr ⟨lw_p15, fun _ h => absurd h List.not_mem_nil⟩⟩⟩⟩⟩⟩⟩⟩⟩⟩⟩⟩⟩⟩⟩⟩
theorem lw_p16 : lw_okq (⟨"HeaderLine", "keepReferences", "(LHeaderLine$Shelf;I)I"⟩, 12) := ⟨⟨by decide +kernel, by decide +kernel⟩, List.mem_of_getElem? (i := 17) (by decide +kernel), List.mem_of_getElem? (i := 720) (by decide +kernel), List.mem_of_getElem? (i := 721) (by decide +kernel)⟩
theorem lw_p17 : lw_okq (⟨"HeaderLine", "keepContext", "(LHeaderLine$Shelf;I)I"⟩, 12) := ⟨⟨by decide +kernel, by decide +kernel⟩, List.mem_of_getElem? (i := 17) (by decide +kernel), List.mem_of_getElem? (i := 725) (by decide +kernel), List.mem_of_getElem? (i := 726) (by decide +kernel)⟩
theorem lw_p18 : lw_okq (⟨"HeaderLine", "refusalOfLetterOn", "(I)I"⟩, 12) := ⟨⟨by decide +kernel, by decide +kernel⟩, List.mem_of_getElem? (i := 17) (by decide +kernel), List.mem_of_getElem? (i := 753) (by decide +kernel), List.mem_of_getElem? (i := 754) (by decide +kernel)⟩
theorem lw_p19 : lw_okq (⟨"HeaderLineModel", "isField", "(I)Z"⟩, 58) := ⟨⟨by decide +kernel, by decide +kernel⟩, List.mem_of_getElem? (i := 768) (by decide +kernel), List.mem_of_getElem? (i := 959) (by decide +kernel), List.mem_of_getElem? (i := 960) (by decide +kernel)⟩
theorem lw_p20 : lw_okq (⟨"HeaderLineModel", "cut", "(IJ)J"⟩, 58) := ⟨⟨by decide +kernel, by decide +kernel⟩, List.mem_of_getElem? (i := 768) (by decide +kernel), List.mem_of_getElem? (i := 969) (by decide +kernel), List.mem_of_getElem? (i := 970) (by decide +kernel)⟩
theorem lw_p21 : lw_okq (⟨"HeaderLineModel", "runs", "(I)Z"⟩, 58) := ⟨⟨by decide +kernel, by decide +kernel⟩, List.mem_of_getElem? (i := 768) (by decide +kernel), List.mem_of_getElem? (i := 980) (by decide +kernel), List.mem_of_getElem? (i := 981) (by decide +kernel)⟩
theorem lw_p22 : lw_okq (⟨"HeaderLineModel", "giveAll", "(III)Z"⟩, 58) := ⟨⟨by decide +kernel, by decide +kernel⟩, List.mem_of_getElem? (i := 768) (by decide +kernel), List.mem_of_getElem? (i := 989) (by decide +kernel), List.mem_of_getElem? (i := 990) (by decide +kernel)⟩
theorem lw_p23 : lw_okq (⟨"HeaderLineModel", "given", "(IIII)J"⟩, 58) := ⟨⟨by decide +kernel, by decide +kernel⟩, List.mem_of_getElem? (i := 768) (by decide +kernel), List.mem_of_getElem? (i := 993) (by decide +kernel), List.mem_of_getElem? (i := 994) (by decide +kernel)⟩
theorem lw_p24 : lw_okq (⟨"HeaderLineModel", "onwards", "(IJII)J"⟩, 58) := ⟨⟨by decide +kernel, by decide +kernel⟩, List.mem_of_getElem? (i := 768) (by decide +kernel), List.mem_of_getElem? (i := 997) (by decide +kernel), List.mem_of_getElem? (i := 998) (by decide +kernel)⟩
theorem lw_p25 : lw_okq (⟨"HeaderLineModel", "sendWhole", "(II)I"⟩, 58) := ⟨⟨by decide +kernel, by decide +kernel⟩, List.mem_of_getElem? (i := 768) (by decide +kernel), List.mem_of_getElem? (i := 1001) (by decide +kernel), List.mem_of_getElem? (i := 1002) (by decide +kernel)⟩
theorem lw_p26 : lw_okq (⟨"HeaderLineModel", "head", "(III)V"⟩, 58) := ⟨⟨by decide +kernel, by decide +kernel⟩, List.mem_of_getElem? (i := 768) (by decide +kernel), List.mem_of_getElem? (i := 1005) (by decide +kernel), List.mem_of_getElem? (i := 1006) (by decide +kernel)⟩
theorem lw_p27 : lw_okq (⟨"HeaderLineModel", "say", "(JI)V"⟩, 58) := ⟨⟨by decide +kernel, by decide +kernel⟩, List.mem_of_getElem? (i := 768) (by decide +kernel), List.mem_of_getElem? (i := 1009) (by decide +kernel), List.mem_of_getElem? (i := 1010) (by decide +kernel)⟩
theorem lw_p28 : lw_okq (⟨"HeaderLineModel", "laid", "(IIIZ)I"⟩, 58) := ⟨⟨by decide +kernel, by decide +kernel⟩, List.mem_of_getElem? (i := 768) (by decide +kernel), List.mem_of_getElem? (i := 1014) (by decide +kernel), List.mem_of_getElem? (i := 1015) (by decide +kernel)⟩
theorem lw_p29 : lw_okq (⟨"HeaderLineModel", "checkOf", "(II)I"⟩, 58) := ⟨⟨by decide +kernel, by decide +kernel⟩, List.mem_of_getElem? (i := 768) (by decide +kernel), List.mem_of_getElem? (i := 1018) (by decide +kernel), List.mem_of_getElem? (i := 1019) (by decide +kernel)⟩
theorem lw_p30 : lw_okq (⟨"HeaderLineModel", "sendShort", "(II)I"⟩, 58) := ⟨⟨by decide +kernel, by decide +kernel⟩, List.mem_of_getElem? (i := 768) (by decide +kernel), List.mem_of_getElem? (i := 1022) (by decide +kernel), List.mem_of_getElem? (i := 1023) (by decide +kernel)⟩
theorem lw_p31 : lw_okq (⟨"HeaderLineModel", "serves", "(IIII)Z"⟩, 58) := ⟨⟨by decide +kernel, by decide +kernel⟩, List.mem_of_getElem? (i := 768) (by decide +kernel), List.mem_of_getElem? (i := 1026) (by decide +kernel), List.mem_of_getElem? (i := 1027) (by decide +kernel)⟩
def lw_privs_2 : List (MethodName × Nat) := [(⟨"HeaderLine", "keepReferences", "(LHeaderLine$Shelf;I)I"⟩, 12), (⟨"HeaderLine", "keepContext", "(LHeaderLine$Shelf;I)I"⟩, 12), (⟨"HeaderLine", "refusalOfLetterOn", "(I)I"⟩, 12), (⟨"HeaderLineModel", "isField", "(I)Z"⟩, 58), (⟨"HeaderLineModel", "cut", "(IJ)J"⟩, 58), (⟨"HeaderLineModel", "runs", "(I)Z"⟩, 58), (⟨"HeaderLineModel", "giveAll", "(III)Z"⟩, 58), (⟨"HeaderLineModel", "given", "(IIII)J"⟩, 58), (⟨"HeaderLineModel", "onwards", "(IJII)J"⟩, 58), (⟨"HeaderLineModel", "sendWhole", "(II)I"⟩, 58), (⟨"HeaderLineModel", "head", "(III)V"⟩, 58), (⟨"HeaderLineModel", "say", "(JI)V"⟩, 58), (⟨"HeaderLineModel", "laid", "(IIIZ)I"⟩, 58), (⟨"HeaderLineModel", "checkOf", "(II)I"⟩, 58), (⟨"HeaderLineModel", "sendShort", "(II)I"⟩, 58), (⟨"HeaderLineModel", "serves", "(IIII)Z"⟩, 58)]
theorem lw_r2 : ∀ q ∈ lw_privs_2, lw_okq q := List.forall_mem_cons.mpr ⟨lw_p16, List.forall_mem_cons.mpr ⟨lw_p17, List.forall_mem_cons.mpr ⟨lw_p18, List.forall_mem_cons.mpr ⟨lw_p19, List.forall_mem_cons.mpr ⟨lw_p20, List.forall_mem_cons.mpr ⟨lw_p21, List.forall_mem_cons.mpr ⟨lw_p22, List.forall_mem_cons.mpr ⟨lw_p23, List.forall_mem_cons.mpr ⟨lw_p24, List.forall_mem_cons.mpr ⟨lw_p25, List.forall_mem_cons.mpr ⟨lw_p26, List.forall_mem_cons.mpr ⟨lw_p27, List.forall_mem_cons.mpr ⟨lw_p28, List.forall_mem_cons.mpr ⟨lw_p29, List.forall_mem_cons.mpr ⟨lw_p30, List.forall_mem_cons.mpr ⟨lw_p31, fun _ h => absurd h List.not_mem_nil⟩⟩⟩⟩⟩⟩⟩⟩⟩⟩⟩⟩⟩⟩⟩⟩
theorem lw_p32 : lw_okq (⟨"HeaderLineModel", "finds", "(IJJI)Z"⟩, 58) := ⟨⟨by decide +kernel, by decide +kernel⟩, List.mem_of_getElem? (i := 768) (by decide +kernel), List.mem_of_getElem? (i := 1030) (by decide +kernel), List.mem_of_getElem? (i := 1031) (by decide +kernel)⟩
theorem lw_p33 : lw_okq (⟨"HeaderLineModel", "fails", "(IIII)I"⟩, 58) := ⟨⟨by decide +kernel, by decide +kernel⟩, List.mem_of_getElem? (i := 768) (by decide +kernel), List.mem_of_getElem? (i := 1034) (by decide +kernel), List.mem_of_getElem? (i := 1035) (by decide +kernel)⟩
theorem lw_p34 : lw_okq (⟨"HeaderLineModel", "draftSum", "()I"⟩, 58) := ⟨⟨by decide +kernel, by decide +kernel⟩, List.mem_of_getElem? (i := 768) (by decide +kernel), List.mem_of_getElem? (i := 1038) (by decide +kernel), List.mem_of_getElem? (i := 1039) (by decide +kernel)⟩
theorem lw_p35 : lw_okq (⟨"HeaderLineModel", "sumOf", "(JJ)I"⟩, 58) := ⟨⟨by decide +kernel, by decide +kernel⟩, List.mem_of_getElem? (i := 768) (by decide +kernel), List.mem_of_getElem? (i := 1042) (by decide +kernel), List.mem_of_getElem? (i := 1043) (by decide +kernel)⟩
theorem lw_p36 : lw_okq (⟨"HeaderLineModel", "sendPart", "(II)I"⟩, 58) := ⟨⟨by decide +kernel, by decide +kernel⟩, List.mem_of_getElem? (i := 768) (by decide +kernel), List.mem_of_getElem? (i := 1047) (by decide +kernel), List.mem_of_getElem? (i := 1048) (by decide +kernel)⟩
theorem lw_p37 : lw_okq (⟨"HeaderLineModel", "refer", "(II)V"⟩, 58) := ⟨⟨by decide +kernel, by decide +kernel⟩, List.mem_of_getElem? (i := 768) (by decide +kernel), List.mem_of_getElem? (i := 1051) (by decide +kernel), List.mem_of_getElem? (i := 1052) (by decide +kernel)⟩
theorem lw_p38 : lw_okq (⟨"HeaderLineModel", "drop", "(II)V"⟩, 58) := ⟨⟨by decide +kernel, by decide +kernel⟩, List.mem_of_getElem? (i := 768) (by decide +kernel), List.mem_of_getElem? (i := 1055) (by decide +kernel), List.mem_of_getElem? (i := 1056) (by decide +kernel)⟩
theorem lw_p39 : lw_okq (⟨"HeaderLineModel", "isUnderWay", "(I)Z"⟩, 58) := ⟨⟨by decide +kernel, by decide +kernel⟩, List.mem_of_getElem? (i := 768) (by decide +kernel), List.mem_of_getElem? (i := 1071) (by decide +kernel), List.mem_of_getElem? (i := 1072) (by decide +kernel)⟩
theorem lw_p40 : lw_okq (⟨"HeaderLineModel", "take", "(II)J"⟩, 58) := ⟨⟨by decide +kernel, by decide +kernel⟩, List.mem_of_getElem? (i := 768) (by decide +kernel), List.mem_of_getElem? (i := 1075) (by decide +kernel), List.mem_of_getElem? (i := 1076) (by decide +kernel)⟩
theorem lw_p41 : lw_okq (⟨"HeaderLineModel", "answered", "(IIII)I"⟩, 58) := ⟨⟨by decide +kernel, by decide +kernel⟩, List.mem_of_getElem? (i := 768) (by decide +kernel), List.mem_of_getElem? (i := 1080) (by decide +kernel), List.mem_of_getElem? (i := 1081) (by decide +kernel)⟩
theorem lw_p42 : lw_okq (⟨"HeaderLineModel", "takeEnd", "(IZ)V"⟩, 58) := ⟨⟨by decide +kernel, by decide +kernel⟩, List.mem_of_getElem? (i := 768) (by decide +kernel), List.mem_of_getElem? (i := 1084) (by decide +kernel), List.mem_of_getElem? (i := 1085) (by decide +kernel)⟩
theorem lw_p43 : lw_okq (⟨"HeaderLineModel", "opened", "(IIII)I"⟩, 58) := ⟨⟨by decide +kernel, by decide +kernel⟩, List.mem_of_getElem? (i := 768) (by decide +kernel), List.mem_of_getElem? (i := 1088) (by decide +kernel), List.mem_of_getElem? (i := 1089) (by decide +kernel)⟩
theorem lw_p44 : lw_okq (⟨"HeaderLineModel", "takeFields", "(II)V"⟩, 58) := ⟨⟨by decide +kernel, by decide +kernel⟩, List.mem_of_getElem? (i := 768) (by decide +kernel), List.mem_of_getElem? (i := 1092) (by decide +kernel), List.mem_of_getElem? (i := 1093) (by decide +kernel)⟩
theorem lw_p45 : lw_okq (⟨"HeaderLineModel", "open", "(II)V"⟩, 58) := ⟨⟨by decide +kernel, by decide +kernel⟩, List.mem_of_getElem? (i := 768) (by decide +kernel), List.mem_of_getElem? (i := 1096) (by decide +kernel), List.mem_of_getElem? (i := 1097) (by decide +kernel)⟩
theorem lw_p46 : lw_okq (⟨"HeaderLineModel", "found", "(IJIJ)J"⟩, 58) := ⟨⟨by decide +kernel, by decide +kernel⟩, List.mem_of_getElem? (i := 768) (by decide +kernel), List.mem_of_getElem? (i := 1100) (by decide +kernel), List.mem_of_getElem? (i := 1101) (by decide +kernel)⟩
theorem lw_p47 : lw_okq (⟨"HeaderLineModel", "isUnlike", "()Z"⟩, 58) := ⟨⟨by decide +kernel, by decide +kernel⟩, List.mem_of_getElem? (i := 768) (by decide +kernel), List.mem_of_getElem? (i := 1104) (by decide +kernel), List.mem_of_getElem? (i := 1105) (by decide +kernel)⟩
def lw_privs_3 : List (MethodName × Nat) := [(⟨"HeaderLineModel", "finds", "(IJJI)Z"⟩, 58), (⟨"HeaderLineModel", "fails", "(IIII)I"⟩, 58), (⟨"HeaderLineModel", "draftSum", "()I"⟩, 58), (⟨"HeaderLineModel", "sumOf", "(JJ)I"⟩, 58), (⟨"HeaderLineModel", "sendPart", "(II)I"⟩, 58), (⟨"HeaderLineModel", "refer", "(II)V"⟩, 58), (⟨"HeaderLineModel", "drop", "(II)V"⟩, 58), (⟨"HeaderLineModel", "isUnderWay", "(I)Z"⟩, 58), (⟨"HeaderLineModel", "take", "(II)J"⟩, 58), (⟨"HeaderLineModel", "answered", "(IIII)I"⟩, 58), (⟨"HeaderLineModel", "takeEnd", "(IZ)V"⟩, 58), (⟨"HeaderLineModel", "opened", "(IIII)I"⟩, 58), (⟨"HeaderLineModel", "takeFields", "(II)V"⟩, 58), (⟨"HeaderLineModel", "open", "(II)V"⟩, 58), (⟨"HeaderLineModel", "found", "(IJIJ)J"⟩, 58), (⟨"HeaderLineModel", "isUnlike", "()Z"⟩, 58)]
theorem lw_r3 : ∀ q ∈ lw_privs_3, lw_okq q := List.forall_mem_cons.mpr ⟨lw_p32, List.forall_mem_cons.mpr ⟨lw_p33, List.forall_mem_cons.mpr ⟨lw_p34, List.forall_mem_cons.mpr ⟨lw_p35, List.forall_mem_cons.mpr ⟨lw_p36, List.forall_mem_cons.mpr ⟨lw_p37, List.forall_mem_cons.mpr ⟨lw_p38, List.forall_mem_cons.mpr ⟨lw_p39, List.forall_mem_cons.mpr ⟨lw_p40, List.forall_mem_cons.mpr ⟨lw_p41, List.forall_mem_cons.mpr ⟨lw_p42, List.forall_mem_cons.mpr ⟨lw_p43, List.forall_mem_cons.mpr ⟨lw_p44, List.forall_mem_cons.mpr ⟨lw_p45, List.forall_mem_cons.mpr ⟨lw_p46, List.forall_mem_cons.mpr ⟨lw_p47, fun _ h => absurd h List.not_mem_nil⟩⟩⟩⟩⟩⟩⟩⟩⟩⟩⟩⟩⟩⟩⟩⟩
theorem lw_p48 : lw_okq (⟨"HeaderLineModel", "wholeBits", "()I"⟩, 58) := ⟨⟨by decide +kernel, by decide +kernel⟩, List.mem_of_getElem? (i := 768) (by decide +kernel), List.mem_of_getElem? (i := 1167) (by decide +kernel), List.mem_of_getElem? (i := 1168) (by decide +kernel)⟩
theorem lw_p49 : lw_okq (⟨"HeaderLineModel", "canKeep", "(II)Z"⟩, 58) := ⟨⟨by decide +kernel, by decide +kernel⟩, List.mem_of_getElem? (i := 768) (by decide +kernel), List.mem_of_getElem? (i := 1178) (by decide +kernel), List.mem_of_getElem? (i := 1179) (by decide +kernel)⟩
theorem lw_p50 : lw_okq (⟨"HeaderLineModel", "hasPlaces", "(III)Z"⟩, 58) := ⟨⟨by decide +kernel, by decide +kernel⟩, List.mem_of_getElem? (i := 768) (by decide +kernel), List.mem_of_getElem? (i := 1198) (by decide +kernel), List.mem_of_getElem? (i := 1199) (by decide +kernel)⟩
theorem lw_p51 : lw_okq (⟨"HeaderLineModel", "denied", "(I)I"⟩, 58) := ⟨⟨by decide +kernel, by decide +kernel⟩, List.mem_of_getElem? (i := 768) (by decide +kernel), List.mem_of_getElem? (i := 1206) (by decide +kernel), List.mem_of_getElem? (i := 1207) (by decide +kernel)⟩
def lw_privs_4 : List (MethodName × Nat) := [(⟨"HeaderLineModel", "wholeBits", "()I"⟩, 58), (⟨"HeaderLineModel", "canKeep", "(II)Z"⟩, 58), (⟨"HeaderLineModel", "hasPlaces", "(III)Z"⟩, 58), (⟨"HeaderLineModel", "denied", "(I)I"⟩, 58)]
theorem lw_r4 : ∀ q ∈ lw_privs_4, lw_okq q := List.forall_mem_cons.mpr ⟨lw_p48, List.forall_mem_cons.mpr ⟨lw_p49, List.forall_mem_cons.mpr ⟨lw_p50, List.forall_mem_cons.mpr ⟨lw_p51, fun _ h => absurd h List.not_mem_nil⟩⟩⟩⟩
def lw_privs : List (MethodName × Nat) := lw_privs_1 ++ (lw_privs_2 ++ (lw_privs_3 ++ (lw_privs_4)))
def lw_tbl : List Cond := k2_sels lw_privs ++ tables_1
theorem lw_privs_ok : ∀ q ∈ lw_privs, lw_okq q := by
  show ∀ q ∈ lw_privs_1 ++ (lw_privs_2 ++ (lw_privs_3 ++ (lw_privs_4))), lw_okq q
  exact List.forall_mem_append.mpr ⟨lw_r1, List.forall_mem_append.mpr ⟨lw_r2, List.forall_mem_append.mpr ⟨lw_r3, lw_r4⟩⟩⟩
end
section
/-! ===== BEGIN words of one list among another's, by their places ===== -/
theorem goodIn_r {big : List Cond} (ws : List Cond) (ps : List Nat) (hp : ws = ps.filterMap (fun i => big[i]?)) (h : ws.all goodWord = true) : GoodIn big ws := by
  intro w hw
  have h1 := List.all_eq_true.mp h w hw
  rw [hp] at hw
  obtain ⟨i, -, hi⟩ := List.mem_filterMap.mp hw
  have hm : w ∈ big := by first | exact List.mem_of_getElem? hi | exact List.getElem?_mem hi
  exact ⟨hm, good_of_word h1⟩
theorem goodIn_app {big a b : List Cond} (ha : GoodIn big a) (hb : GoodIn big b) : GoodIn big (a ++ b) := fun w h => (List.mem_append.mp h).elim (ha w) (hb w)
theorem goodIn_ca {big a b : List Cond} {c : Cond} (ha : GoodIn big (c :: a)) (hb : GoodIn big b) : GoodIn big (c :: (a ++ b)) := fun w h => (List.mem_cons.mp h).elim (fun e => ha w (List.mem_cons.mpr (Or.inl e))) (fun h => (List.mem_append.mp h).elim (fun h => ha w (List.mem_cons.mpr (Or.inr h))) (hb w))
theorem goodIn_sub {big ws : List Cond} (hm : ∀ w ∈ ws, w ∈ big) (h : ws.all goodWord = true) : GoodIn big ws := fun w hw => ⟨hm w hw, good_of_word (List.all_eq_true.mp h w hw)⟩
/-! ===== END ===== -/

/-! ===== BEGIN printed: names, fields, word lists, decode rows ===== -/
def RX0 : String := "HeaderLine$Arrival"
def TX0 : u_T := fun k => match k with
  | 0 => ("HeaderLine$Arrival", "header", "LHeaderLine$Header;", true)
  | 1 => ("HeaderLine$Arrival", "strides", "[I", true)
  | 2 => ("HeaderLine$Arrival", "ways", "[I", true)
  | 3 => ("HeaderLine$Arrival", "lengths", "[I", true)
  | 4 => ("HeaderLine$Arrival", "told", "[J", true)
  | 5 => ("HeaderLine$Arrival", "kind", "I", false)
  | 6 => ("HeaderLine$Arrival", "flow", "I", false)
  | 7 => ("HeaderLine$Arrival", "round", "I", false)
  | 8 => ("HeaderLine$Arrival", "sum", "I", false)
  | 9 => ("HeaderLine$Arrival", "bytes", "[I", false)
  | 10 => ("HeaderLine$Arrival", "at", "I", false)
  | _ => ("HeaderLine$Arrival", "isBroken", "Z", false)
def tyX0 : Nat → FieldType := fun k => match k with
  | 0 => .object "HeaderLine$Header"
  | 1 => .array .int
  | 2 => .array .int
  | 3 => .array .int
  | 4 => .array .long
  | 5 => .int
  | 6 => .int
  | 7 => .int
  | 8 => .int
  | 9 => .array .int
  | 10 => .int
  | _ => .boolean
abbrev wsX00 : List Cond := u_ws RX0 TX0 12
theorem nmX0 : ∀ a, a < 12 → ∀ b, b < 12 → a ≠ b → (TX0 a).2.1 ≠ (TX0 b).2.1 := by decide +kernel
theorem tyX0_ok : ∀ k, k < 12 → parseFieldDescriptor (TX0 k).2.2.1 = some (tyX0 k) := by decide +kernel
abbrev cX0_init : ByteArray := prog_2_method_1_code
def yX0_init : MethodName := ⟨RX0, "<init>", "()V"⟩
abbrev cX0_parse : ByteArray := prog_2_method_2_code
def yX0_parse : MethodName := ⟨RX0, "parse", "(LHeaderLine$Plan;[I)Z"⟩
abbrev cX0_rebuild : ByteArray := prog_2_method_3_code
def yX0_rebuild : MethodName := ⟨RX0, "rebuild", "(LHeaderLine$Plan;LHeaderLine$Context;)V"⟩
abbrev cX0_readField : ByteArray := prog_2_method_4_code
def yX0_readField : MethodName := ⟨RX0, "readField", "(LHeaderLine$Plan;I)V"⟩
abbrev cX0_readValue : ByteArray := prog_2_method_5_code
def yX0_readValue : MethodName := ⟨RX0, "readValue", "(III)V"⟩
abbrev cX0_read : ByteArray := prog_2_method_6_code
def yX0_read : MethodName := ⟨RX0, "read", "(I)J"⟩
abbrev cX0_isEndRight : ByteArray := prog_2_method_7_code
def yX0_isEndRight : MethodName := ⟨RX0, "isEndRight", "()Z"⟩
def RX1 : String := "HeaderLine$Context"
def TX1 : u_T := fun k => match k with
  | 0 => ("HeaderLine$Context", "header", "LHeaderLine$Header;", true)
  | 1 => ("HeaderLine$Context", "strides", "[I", true)
  | 2 => ("HeaderLine$Context", "round", "I", false)
  | _ => ("HeaderLine$Context", "isThere", "Z", false)
def tyX1 : Nat → FieldType := fun k => match k with
  | 0 => .object "HeaderLine$Header"
  | 1 => .array .int
  | 2 => .int
  | _ => .boolean
abbrev wsX10 : List Cond := u_ws RX1 TX1 4
theorem nmX1 : ∀ a, a < 4 → ∀ b, b < 4 → a ≠ b → (TX1 a).2.1 ≠ (TX1 b).2.1 := by decide +kernel
theorem tyX1_ok : ∀ k, k < 4 → parseFieldDescriptor (TX1 k).2.2.1 = some (tyX1 k) := by decide +kernel
abbrev cX1_init : ByteArray := prog_3_method_1_code
def yX1_init : MethodName := ⟨RX1, "<init>", "()V"⟩
abbrev cX1_accept : ByteArray := prog_3_method_2_code
def yX1_accept : MethodName := ⟨RX1, "accept", "(LHeaderLine$Arrival;)V"⟩
def RX2 : String := "HeaderLine$Got"
def TX2 : u_T := fun k => match k with
  | 0 => ("HeaderLine$Got", "header", "LHeaderLine$Header;", true)
  | 1 => ("HeaderLine$Got", "ways", "[I", true)
  | 2 => ("HeaderLine$Got", "flow", "I", false)
  | 3 => ("HeaderLine$Got", "hungOn", "I", false)
  | _ => ("HeaderLine$Got", "total", "I", false)
def tyX2 : Nat → FieldType := fun k => match k with
  | 0 => .object "HeaderLine$Header"
  | 1 => .array .int
  | 2 => .int
  | 3 => .int
  | _ => .int
abbrev wsX20 : List Cond := u_ws RX2 TX2 5
theorem nmX2 : ∀ a, a < 5 → ∀ b, b < 5 → a ≠ b → (TX2 a).2.1 ≠ (TX2 b).2.1 := by decide +kernel
theorem tyX2_ok : ∀ k, k < 5 → parseFieldDescriptor (TX2 k).2.2.1 = some (tyX2 k) := by decide +kernel
abbrev cX2_init : ByteArray := prog_4_method_1_code
def yX2_init : MethodName := ⟨RX2, "<init>", "()V"⟩
abbrev cX2_accept : ByteArray := prog_4_method_2_code
def yX2_accept : MethodName := ⟨RX2, "accept", "(LHeaderLine$Arrival;I)V"⟩
def RX3 : String := "HeaderLine$Header"
def TX3 : u_T := fun k => match k with
  | 0 => ("HeaderLine$Header", "values", "[J", true)
  | _ => ("HeaderLine$Header", "number", "I", false)
def tyX3 : Nat → FieldType := fun k => match k with
  | 0 => .array .long
  | _ => .int
abbrev wsX30 : List Cond := u_ws RX3 TX3 2
theorem nmX3 : ∀ a, a < 2 → ∀ b, b < 2 → a ≠ b → (TX3 a).2.1 ≠ (TX3 b).2.1 := by decide +kernel
theorem tyX3_ok : ∀ k, k < 2 → parseFieldDescriptor (TX3 k).2.2.1 = some (tyX3 k) := by decide +kernel
abbrev cX3_init : ByteArray := prog_5_method_1_code
def yX3_init : MethodName := ⟨RX3, "<init>", "()V"⟩
abbrev cX3_become : ByteArray := prog_5_method_2_code
def yX3_become : MethodName := ⟨RX3, "become", "(LHeaderLine$Header;)V"⟩
def RX4 : String := "HeaderLine$Letter"
def TX4 : u_T := fun k => match k with
  | 0 => ("HeaderLine$Letter", "kind", "I", true)
  | 1 => ("HeaderLine$Letter", "flow", "I", true)
  | 2 => ("HeaderLine$Letter", "number", "I", true)
  | 3 => ("HeaderLine$Letter", "bytes", "[I", true)
  | 4 => ("HeaderLine$Letter", "bits", "I", true)
  | 5 => ("HeaderLine$Letter", "outcome", "I", false)
  | 6 => ("HeaderLine$Letter", "isLost", "Z", false)
  | 7 => ("HeaderLine$Letter", "isCopy", "Z", false)
  | _ => ("HeaderLine$Letter", "proof", "LHeaderLine$Proof;", false)
def tyX4 : Nat → FieldType := fun k => match k with
  | 0 => .int
  | 1 => .int
  | 2 => .int
  | 3 => .array .int
  | 4 => .int
  | 5 => .int
  | 6 => .boolean
  | 7 => .boolean
  | _ => .object "HeaderLine$Proof"
abbrev wsX40 : List Cond := u_ws RX4 TX4 9
theorem nmX4 : ∀ a, a < 9 → ∀ b, b < 9 → a ≠ b → (TX4 a).2.1 ≠ (TX4 b).2.1 := by decide +kernel
theorem tyX4_ok : ∀ k, k < 9 → parseFieldDescriptor (TX4 k).2.2.1 = some (tyX4 k) := by decide +kernel
abbrev cX4_init : ByteArray := prog_6_method_1_code
def yX4_init : MethodName := ⟨RX4, "<init>", "(III[II)V"⟩
abbrev cX4_hasByte : ByteArray := prog_6_method_2_code
def yX4_hasByte : MethodName := ⟨RX4, "hasByte", "(I)Z"⟩
def RX5 : String := "HeaderLine$Pen"
def TX5 : u_T := fun k => match k with
  | 0 => ("HeaderLine$Pen", "bytes", "[I", true)
  | _ => ("HeaderLine$Pen", "bits", "I", false)
def tyX5 : Nat → FieldType := fun k => match k with
  | 0 => .array .int
  | _ => .int
abbrev wsX50 : List Cond := u_ws RX5 TX5 2
theorem nmX5 : ∀ a, a < 2 → ∀ b, b < 2 → a ≠ b → (TX5 a).2.1 ≠ (TX5 b).2.1 := by decide +kernel
theorem tyX5_ok : ∀ k, k < 2 → parseFieldDescriptor (TX5 k).2.2.1 = some (tyX5 k) := by decide +kernel
abbrev cX5_init : ByteArray := prog_7_method_1_code
def yX5_init : MethodName := ⟨RX5, "<init>", "()V"⟩
abbrev cX5_begin : ByteArray := prog_7_method_2_code
def yX5_begin : MethodName := ⟨RX5, "begin", "(III)V"⟩
abbrev cX5_write : ByteArray := prog_7_method_3_code
def yX5_write : MethodName := ⟨RX5, "write", "(JI)V"⟩
abbrev cX5_finished : ByteArray := prog_7_method_4_code
def yX5_finished : MethodName := ⟨RX5, "finished", "(Z)[I"⟩
def RX6 : String := "HeaderLine$Plan"
def TX6 : u_T := fun k => match k with
  | 0 => ("HeaderLine$Plan", "kinds", "[I", true)
  | 1 => ("HeaderLine$Plan", "widths", "[I", true)
  | 2 => ("HeaderLine$Plan", "ties", "[I", true)
  | 3 => ("HeaderLine$Plan", "extras", "[I", true)
  | _ => ("HeaderLine$Plan", "size", "I", false)
def tyX6 : Nat → FieldType := fun k => match k with
  | 0 => .array .int
  | 1 => .array .int
  | 2 => .array .int
  | 3 => .array .int
  | _ => .int
abbrev wsX60 : List Cond := u_ws RX6 TX6 5
theorem nmX6 : ∀ a, a < 5 → ∀ b, b < 5 → a ≠ b → (TX6 a).2.1 ≠ (TX6 b).2.1 := by decide +kernel
theorem tyX6_ok : ∀ k, k < 5 → parseFieldDescriptor (TX6 k).2.2.1 = some (tyX6 k) := by decide +kernel
abbrev cX6_init : ByteArray := prog_8_method_1_code
def yX6_init : MethodName := ⟨RX6, "<init>", "()V"⟩
abbrev cX6_allows : ByteArray := prog_8_method_2_code
def yX6_allows : MethodName := ⟨RX6, "allows", "(IIII)Z"⟩
abbrev cX6_append : ByteArray := prog_8_method_3_code
def yX6_append : MethodName := ⟨RX6, "append", "(IIII)I"⟩
abbrev cX6_has : ByteArray := prog_8_method_4_code
def yX6_has : MethodName := ⟨RX6, "has", "(I)Z"⟩
abbrev cX6_hasStride : ByteArray := prog_8_method_5_code
def yX6_hasStride : MethodName := ⟨RX6, "hasStride", "(I)Z"⟩
abbrev cX6_lowBits : ByteArray := prog_8_method_6_code
def yX6_lowBits : MethodName := ⟨RX6, "lowBits", "(IJ)J"⟩
abbrev cX6_wholeBits : ByteArray := prog_8_method_7_code
def yX6_wholeBits : MethodName := ⟨RX6, "wholeBits", "()I"⟩
abbrev cX6_sumOf : ByteArray := prog_8_method_8_code
def yX6_sumOf : MethodName := ⟨RX6, "sumOf", "(LHeaderLine$Header;)I"⟩
abbrev cX6_given : ByteArray := prog_8_method_9_code
def yX6_given : MethodName := ⟨RX6, "given", "(ILHeaderLine$Header;[ILHeaderLine$Header;)J"⟩
abbrev cX6_found : ByteArray := prog_8_method_10_code
def yX6_found : MethodName := ⟨RX6, "found", "(IJIJ)J"⟩
def RX7 : String := "HeaderLine$Proof"
def TX7 : u_T := fun k => match k with
  | 0 => ("HeaderLine$Proof", "lengths", "[I", true)
  | 1 => ("HeaderLine$Proof", "misses", "[I", true)
  | 2 => ("HeaderLine$Proof", "references", "I", false)
  | _ => ("HeaderLine$Proof", "oldest", "I", false)
def tyX7 : Nat → FieldType := fun k => match k with
  | 0 => .array .int
  | 1 => .array .int
  | 2 => .int
  | _ => .int
abbrev wsX70 : List Cond := u_ws RX7 TX7 4
theorem nmX7 : ∀ a, a < 4 → ∀ b, b < 4 → a ≠ b → (TX7 a).2.1 ≠ (TX7 b).2.1 := by decide +kernel
theorem tyX7_ok : ∀ k, k < 4 → parseFieldDescriptor (TX7 k).2.2.1 = some (tyX7 k) := by decide +kernel
abbrev cX7_init : ByteArray := prog_9_method_1_code
def yX7_init : MethodName := ⟨RX7, "<init>", "()V"⟩
def RX8 : String := "HeaderLine$Shelf"
def TX8 : u_T := fun k => match k with
  | 0 => ("HeaderLine$Shelf", "row", "[J", true)
  | 1 => ("HeaderLine$Shelf", "holds", "I", false)
  | 2 => ("HeaderLine$Shelf", "size", "I", false)
  | 3 => ("HeaderLine$Shelf", "letterKind", "I", false)
  | _ => ("HeaderLine$Shelf", "letterBytes", "I", false)
def tyX8 : Nat → FieldType := fun k => match k with
  | 0 => .array .long
  | 1 => .int
  | 2 => .int
  | 3 => .int
  | _ => .int
abbrev wsX80 : List Cond := u_ws RX8 TX8 5
theorem nmX8 : ∀ a, a < 5 → ∀ b, b < 5 → a ≠ b → (TX8 a).2.1 ≠ (TX8 b).2.1 := by decide +kernel
theorem tyX8_ok : ∀ k, k < 5 → parseFieldDescriptor (TX8 k).2.2.1 = some (tyX8 k) := by decide +kernel
abbrev cX8_init : ByteArray := prog_10_method_1_code
def yX8_init : MethodName := ⟨RX8, "<init>", "()V"⟩
abbrev cX8_holdLetter : ByteArray := prog_10_method_2_code
def yX8_holdLetter : MethodName := ⟨RX8, "holdLetter", "(LHeaderLine$Letter;)V"⟩
abbrev cX8_holdRow : ByteArray := prog_10_method_3_code
def yX8_holdRow : MethodName := ⟨RX8, "holdRow", "(II)V"⟩
abbrev cX8_hasPlaces : ByteArray := prog_10_method_4_code
def yX8_hasPlaces : MethodName := ⟨RX8, "hasPlaces", "(II)Z"⟩
def RX9 : String := "HeaderLine$Squeezer"
def TX9 : u_T := fun k => match k with
  | 0 => ("HeaderLine$Squeezer", "strides", "[I", true)
  | 1 => ("HeaderLine$Squeezer", "number", "I", false)
  | 2 => ("HeaderLine$Squeezer", "round", "I", false)
  | 3 => ("HeaderLine$Squeezer", "owes", "Z", false)
  | 4 => ("HeaderLine$Squeezer", "held", "I", false)
  | 5 => ("HeaderLine$Squeezer", "ring", "[LHeaderLine$Header;", true)
  | _ => ("HeaderLine$Squeezer", "first", "I", false)
def tyX9 : Nat → FieldType := fun k => match k with
  | 0 => .array .int
  | 1 => .int
  | 2 => .int
  | 3 => .boolean
  | 4 => .int
  | 5 => .array (.object "HeaderLine$Header")
  | _ => .int
abbrev wsX90 : List Cond := u_ws RX9 TX9 7
theorem nmX9 : ∀ a, a < 7 → ∀ b, b < 7 → a ≠ b → (TX9 a).2.1 ≠ (TX9 b).2.1 := by decide +kernel
theorem tyX9_ok : ∀ k, k < 7 → parseFieldDescriptor (TX9 k).2.2.1 = some (tyX9 k) := by decide +kernel
abbrev cX9_init : ByteArray := prog_11_method_1_code
def yX9_init : MethodName := ⟨RX9, "<init>", "()V"⟩
abbrev cX9_reference : ByteArray := prog_11_method_2_code
def yX9_reference : MethodName := ⟨RX9, "reference", "(I)LHeaderLine$Header;"⟩
abbrev cX9_oldestNumber : ByteArray := prog_11_method_3_code
def yX9_oldestNumber : MethodName := ⟨RX9, "oldestNumber", "()I"⟩
abbrev cX9_kindFor : ByteArray := prog_11_method_4_code
def yX9_kindFor : MethodName := ⟨RX9, "kindFor", "(LHeaderLine$Plan;LHeaderLine$Header;Z)I"⟩
abbrev cX9_beginRound : ByteArray := prog_11_method_5_code
def yX9_beginRound : MethodName := ⟨RX9, "beginRound", "()V"⟩
abbrev cX9_writeWhole : ByteArray := prog_11_method_6_code
def yX9_writeWhole : MethodName := ⟨RX9, "writeWhole", "(LHeaderLine$Plan;LHeaderLine$Header;LHeaderLine$Pen;)V"⟩
abbrev cX9_writePart : ByteArray := prog_11_method_7_code
def yX9_writePart : MethodName := ⟨RX9, "writePart", "(LHeaderLine$Plan;LHeaderLine$Header;LHeaderLine$Pen;)V"⟩
abbrev cX9_writeShort : ByteArray := prog_11_method_8_code
def yX9_writeShort : MethodName := ⟨RX9, "writeShort", "(LHeaderLine$Plan;LHeaderLine$Header;LHeaderLine$Pen;LHeaderLine$Proof;)V"⟩
abbrev cX9_remember : ByteArray := prog_11_method_9_code
def yX9_remember : MethodName := ⟨RX9, "remember", "(LHeaderLine$Header;I)V"⟩
abbrev cX9_heed : ByteArray := prog_11_method_10_code
def yX9_heed : MethodName := ⟨RX9, "heed", "(II)I"⟩
abbrev cX9_dropOldest : ByteArray := prog_11_method_11_code
def yX9_dropOldest : MethodName := ⟨RX9, "dropOldest", "(I)V"⟩
abbrev cX9_isGivenByAll : ByteArray := prog_11_method_12_code
def yX9_isGivenByAll : MethodName := ⟨RX9, "isGivenByAll", "(LHeaderLine$Plan;LHeaderLine$Header;I)Z"⟩
abbrev cX9_oldestMiss : ByteArray := prog_11_method_13_code
def yX9_oldestMiss : MethodName := ⟨RX9, "oldestMiss", "(LHeaderLine$Plan;LHeaderLine$Header;II)I"⟩
abbrev cX9_findLeast : ByteArray := prog_11_method_14_code
def yX9_findLeast : MethodName := ⟨RX9, "findLeast", "(LHeaderLine$Plan;LHeaderLine$Header;ILHeaderLine$Proof;)V"⟩
def RX10 : String := "HeaderLine"
def TX10 : u_T := fun k => match k with
  | 0 => ("HeaderLine", "window", "I", true)
  | 1 => ("HeaderLine", "plan", "LHeaderLine$Plan;", true)
  | 2 => ("HeaderLine", "draft", "LHeaderLine$Header;", true)
  | 3 => ("HeaderLine", "squeezers", "[LHeaderLine$Squeezer;", true)
  | 4 => ("HeaderLine", "contexts", "[LHeaderLine$Context;", true)
  | 5 => ("HeaderLine", "letters", "[LHeaderLine$Letter;", true)
  | 6 => ("HeaderLine", "shelves", "[LHeaderLine$Shelf;", true)
  | 7 => ("HeaderLine", "pen", "LHeaderLine$Pen;", true)
  | 8 => ("HeaderLine", "arrival", "LHeaderLine$Arrival;", true)
  | 9 => ("HeaderLine", "latest", "LHeaderLine$Got;", true)
  | 10 => ("HeaderLine", "letterCount", "I", false)
  | _ => ("HeaderLine", "lostCount", "I", false)
def tyX10 : Nat → FieldType := fun k => match k with
  | 0 => .int
  | 1 => .object "HeaderLine$Plan"
  | 2 => .object "HeaderLine$Header"
  | 3 => .array (.object "HeaderLine$Squeezer")
  | 4 => .array (.object "HeaderLine$Context")
  | 5 => .array (.object "HeaderLine$Letter")
  | 6 => .array (.object "HeaderLine$Shelf")
  | 7 => .object "HeaderLine$Pen"
  | 8 => .object "HeaderLine$Arrival"
  | 9 => .object "HeaderLine$Got"
  | 10 => .int
  | _ => .int
abbrev wsX100 : List Cond := u_ws RX10 TX10 12
theorem nmX10 : ∀ a, a < 12 → ∀ b, b < 12 → a ≠ b → (TX10 a).2.1 ≠ (TX10 b).2.1 := by decide +kernel
theorem tyX10_ok : ∀ k, k < 12 → parseFieldDescriptor (TX10 k).2.2.1 = some (tyX10 k) := by decide +kernel
abbrev cX10_init : ByteArray := prog_1_method_1_code
def yX10_init : MethodName := ⟨RX10, "<init>", "(I)V"⟩
abbrev cX10_field : ByteArray := prog_1_method_2_code
def yX10_field : MethodName := ⟨RX10, "field", "(IIII)I"⟩
abbrev cX10_set : ByteArray := prog_1_method_3_code
def yX10_set : MethodName := ⟨RX10, "set", "(IJ)J"⟩
abbrev cX10_stride : ByteArray := prog_1_method_4_code
def yX10_stride : MethodName := ⟨RX10, "stride", "(III)I"⟩
abbrev cX10_send : ByteArray := prog_1_method_5_code
def yX10_send : MethodName := ⟨RX10, "send", "(IZ)I"⟩
abbrev cX10_ack : ByteArray := prog_1_method_6_code
def yX10_ack : MethodName := ⟨RX10, "ack", "(I)I"⟩
abbrev cX10_nack : ByteArray := prog_1_method_7_code
def yX10_nack : MethodName := ⟨RX10, "nack", "(I)I"⟩
abbrev cX10_deliver : ByteArray := prog_1_method_8_code
def yX10_deliver : MethodName := ⟨RX10, "deliver", "(I)I"⟩
abbrev cX10_lose : ByteArray := prog_1_method_9_code
def yX10_lose : MethodName := ⟨RX10, "lose", "(I)I"⟩
abbrev cX10_twice : ByteArray := prog_1_method_10_code
def yX10_twice : MethodName := ⟨RX10, "twice", "(I)I"⟩
abbrev cX10_bend : ByteArray := prog_1_method_11_code
def yX10_bend : MethodName := ⟨RX10, "bend", "(III)I"⟩
abbrev cX10_octet : ByteArray := prog_1_method_12_code
def yX10_octet : MethodName := ⟨RX10, "octet", "(II)I"⟩
abbrev cX10_look : ByteArray := prog_1_method_13_code
def yX10_look : MethodName := ⟨RX10, "look", "(II)I"⟩
abbrev cX10_prove : ByteArray := prog_1_method_14_code
def yX10_prove : MethodName := ⟨RX10, "prove", "(III)I"⟩
abbrev cX10_got : ByteArray := prog_1_method_15_code
def yX10_got : MethodName := ⟨RX10, "got", "(I)J"⟩
abbrev cX10_way : ByteArray := prog_1_method_16_code
def yX10_way : MethodName := ⟨RX10, "way", "(I)I"⟩
abbrev cX10_hung : ByteArray := prog_1_method_17_code
def yX10_hung : MethodName := ⟨RX10, "hung", "(I)I"⟩
abbrev cX10_context : ByteArray := prog_1_method_18_code
def yX10_context : MethodName := ⟨RX10, "context", "(II)I"⟩
abbrev cX10_known : ByteArray := prog_1_method_19_code
def yX10_known : MethodName := ⟨RX10, "known", "(IIZ)J"⟩
abbrev cX10_squeezer : ByteArray := prog_1_method_20_code
def yX10_squeezer : MethodName := ⟨RX10, "squeezer", "(II)I"⟩
abbrev cX10_forget : ByteArray := prog_1_method_21_code
def yX10_forget : MethodName := ⟨RX10, "forget", "(II)I"⟩
abbrev cX10_spent : ByteArray := prog_1_method_22_code
def yX10_spent : MethodName := ⟨RX10, "spent", "(III)J"⟩
abbrev cX10_keep : ByteArray := prog_1_method_23_code
def yX10_keep : MethodName := ⟨RX10, "keep", "(III)I"⟩
abbrev cX10_make : ByteArray := prog_1_method_24_code
def yX10_make : MethodName := ⟨RX10, "make", "(III)I"⟩
abbrev cX10_put : ByteArray := prog_1_method_25_code
def yX10_put : MethodName := ⟨RX10, "put", "(III)J"⟩
abbrev cX10_copy : ByteArray := prog_1_method_26_code
def yX10_copy : MethodName := ⟨RX10, "copy", "(IIIII)I"⟩
abbrev cX10_worth : ByteArray := prog_1_method_27_code
def yX10_worth : MethodName := ⟨RX10, "worth", "(I)I"⟩
abbrev cX10_toss : ByteArray := prog_1_method_28_code
def yX10_toss : MethodName := ⟨RX10, "toss", "(I)I"⟩
abbrev cX10_count : ByteArray := prog_1_method_29_code
def yX10_count : MethodName := ⟨RX10, "count", "(I)I"⟩
abbrev cX10_isFlow : ByteArray := prog_1_method_30_code
def yX10_isFlow : MethodName := ⟨RX10, "isFlow", "(I)Z"⟩
abbrev cX10_isShelf : ByteArray := prog_1_method_31_code
def yX10_isShelf : MethodName := ⟨RX10, "isShelf", "(I)Z"⟩
abbrev cX10_isLineFull : ByteArray := prog_1_method_32_code
def yX10_isLineFull : MethodName := ⟨RX10, "isLineFull", "()Z"⟩
abbrev cX10_letterAt : ByteArray := prog_1_method_33_code
def yX10_letterAt : MethodName := ⟨RX10, "letterAt", "(I)LHeaderLine$Letter;"⟩
abbrev cX10_letterUnderWay : ByteArray := prog_1_method_34_code
def yX10_letterUnderWay : MethodName := ⟨RX10, "letterUnderWay", "(I)LHeaderLine$Letter;"⟩
abbrev cX10_addAnswer : ByteArray := prog_1_method_35_code
def yX10_addAnswer : MethodName := ⟨RX10, "addAnswer", "(III)I"⟩
abbrev cX10_addWritten : ByteArray := prog_1_method_36_code
def yX10_addWritten : MethodName := ⟨RX10, "addWritten", "(IIILHeaderLine$Proof;)I"⟩
abbrev cX10_add : ByteArray := prog_1_method_37_code
def yX10_add : MethodName := ⟨RX10, "add", "(LHeaderLine$Letter;)I"⟩
abbrev cX10_outcomeOf : ByteArray := prog_1_method_38_code
def yX10_outcomeOf : MethodName := ⟨RX10, "outcomeOf", "([I)I"⟩
abbrev cX10_open : ByteArray := prog_1_method_39_code
def yX10_open : MethodName := ⟨RX10, "open", "(LHeaderLine$Context;)I"⟩
abbrev cX10_keepLetter : ByteArray := prog_1_method_40_code
def yX10_keepLetter : MethodName := ⟨RX10, "keepLetter", "(LHeaderLine$Shelf;ILHeaderLine$Letter;)I"⟩
abbrev cX10_keepReferences : ByteArray := prog_1_method_41_code
def yX10_keepReferences : MethodName := ⟨RX10, "keepReferences", "(LHeaderLine$Shelf;I)I"⟩
abbrev cX10_keepContext : ByteArray := prog_1_method_42_code
def yX10_keepContext : MethodName := ⟨RX10, "keepContext", "(LHeaderLine$Shelf;I)I"⟩
abbrev cX10_refusalOfLetterOn : ByteArray := prog_1_method_43_code
def yX10_refusalOfLetterOn : MethodName := ⟨RX10, "refusalOfLetterOn", "(I)I"⟩
abbrev cX10_endsInCheck : ByteArray := prog_1_method_44_code
def yX10_endsInCheck : MethodName := ⟨RX10, "endsInCheck", "(I)Z"⟩
abbrev cX10_checkOf : ByteArray := prog_1_method_45_code
def yX10_checkOf : MethodName := ⟨RX10, "checkOf", "([II)I"⟩
abbrev cX10_wholeBytes : ByteArray := prog_1_method_46_code
def yX10_wholeBytes : MethodName := ⟨RX10, "wholeBytes", "(I)I"⟩
abbrev cX10_lowest : ByteArray := prog_1_method_47_code
def yX10_lowest : MethodName := ⟨RX10, "lowest", "(JI)J"⟩
def RX11 : String := "HeaderLineModel"
def TX11 : u_T := fun k => match k with
  | 0 => ("HeaderLineModel", "thrown", "I", false)
  | 1 => ("HeaderLineModel", "fields", "I", false)
  | 2 => ("HeaderLineModel", "kind", "[I", true)
  | 3 => ("HeaderLineModel", "width", "[I", true)
  | 4 => ("HeaderLineModel", "tied", "[I", true)
  | 5 => ("HeaderLineModel", "extra", "[J", true)
  | 6 => ("HeaderLineModel", "closed", "Z", false)
  | 7 => ("HeaderLineModel", "window", "I", false)
  | 8 => ("HeaderLineModel", "draft", "[J", true)
  | 9 => ("HeaderLineModel", "told", "[I", true)
  | 10 => ("HeaderLineModel", "round", "[I", true)
  | 11 => ("HeaderLineModel", "stride", "[I", true)
  | 12 => ("HeaderLineModel", "owes", "[Z", true)
  | 13 => ("HeaderLineModel", "references", "[I", true)
  | 14 => ("HeaderLineModel", "number", "[I", true)
  | 15 => ("HeaderLineModel", "header", "[J", true)
  | 16 => ("HeaderLineModel", "letters", "I", false)
  | 17 => ("HeaderLineModel", "bytes", "[I", true)
  | 18 => ("HeaderLineModel", "row", "[I", true)
  | 19 => ("HeaderLineModel", "letterKind", "[I", true)
  | 20 => ("HeaderLineModel", "letterFlow", "[I", true)
  | 21 => ("HeaderLineModel", "letterNumber", "[I", true)
  | 22 => ("HeaderLineModel", "bits", "[I", true)
  | 23 => ("HeaderLineModel", "outcome", "[I", true)
  | 24 => ("HeaderLineModel", "lost", "[Z", true)
  | 25 => ("HeaderLineModel", "copied", "[Z", true)
  | 26 => ("HeaderLineModel", "proven", "[I", true)
  | 27 => ("HeaderLineModel", "against", "[I", true)
  | 28 => ("HeaderLineModel", "hangs", "[I", true)
  | 29 => ("HeaderLineModel", "oldest", "[I", true)
  | 30 => ("HeaderLineModel", "has", "[Z", true)
  | 31 => ("HeaderLineModel", "contextNumber", "[I", true)
  | 32 => ("HeaderLineModel", "contextRound", "[I", true)
  | 33 => ("HeaderLineModel", "contextStride", "[I", true)
  | 34 => ("HeaderLineModel", "context", "[J", true)
  | 35 => ("HeaderLineModel", "gets", "I", false)
  | 36 => ("HeaderLineModel", "gotFlow", "I", false)
  | 37 => ("HeaderLineModel", "gotNumber", "I", false)
  | 38 => ("HeaderLineModel", "gotFrom", "I", false)
  | 39 => ("HeaderLineModel", "got", "[J", true)
  | 40 => ("HeaderLineModel", "way", "[I", true)
  | 41 => ("HeaderLineModel", "bit", "[I", true)
  | 42 => ("HeaderLineModel", "put", "I", false)
  | 43 => ("HeaderLineModel", "read", "I", false)
  | 44 => ("HeaderLineModel", "end", "I", false)
  | 45 => ("HeaderLineModel", "broken", "Z", false)
  | 46 => ("HeaderLineModel", "stands", "[I", true)
  | 47 => ("HeaderLineModel", "by", "[I", true)
  | 48 => ("HeaderLineModel", "value", "[J", true)
  | 49 => ("HeaderLineModel", "steps", "[I", true)
  | 50 => ("HeaderLineModel", "cameRound", "I", false)
  | 51 => ("HeaderLineModel", "cameSum", "J", false)
  | 52 => ("HeaderLineModel", "next", "[J", true)
  | 53 => ("HeaderLineModel", "held", "[I", true)
  | 54 => ("HeaderLineModel", "heldSize", "[I", true)
  | 55 => ("HeaderLineModel", "heldKind", "[I", true)
  | 56 => ("HeaderLineModel", "heldRow", "[J", true)
  | _ => ("HeaderLineModel", "between", "[J", true)
def tyX11 : Nat → FieldType := fun k => match k with
  | 0 => .int
  | 1 => .int
  | 2 => .array .int
  | 3 => .array .int
  | 4 => .array .int
  | 5 => .array .long
  | 6 => .boolean
  | 7 => .int
  | 8 => .array .long
  | 9 => .array .int
  | 10 => .array .int
  | 11 => .array .int
  | 12 => .array .boolean
  | 13 => .array .int
  | 14 => .array .int
  | 15 => .array .long
  | 16 => .int
  | 17 => .array .int
  | 18 => .array .int
  | 19 => .array .int
  | 20 => .array .int
  | 21 => .array .int
  | 22 => .array .int
  | 23 => .array .int
  | 24 => .array .boolean
  | 25 => .array .boolean
  | 26 => .array .int
  | 27 => .array .int
  | 28 => .array .int
  | 29 => .array .int
  | 30 => .array .boolean
  | 31 => .array .int
  | 32 => .array .int
  | 33 => .array .int
  | 34 => .array .long
  | 35 => .int
  | 36 => .int
  | 37 => .int
  | 38 => .int
  | 39 => .array .long
  | 40 => .array .int
  | 41 => .array .int
  | 42 => .int
  | 43 => .int
  | 44 => .int
  | 45 => .boolean
  | 46 => .array .int
  | 47 => .array .int
  | 48 => .array .long
  | 49 => .array .int
  | 50 => .int
  | 51 => .long
  | 52 => .array .long
  | 53 => .array .int
  | 54 => .array .int
  | 55 => .array .int
  | 56 => .array .long
  | _ => .array .long
abbrev wsX110 : List Cond := u_ws RX11 TX11 58
theorem nmX11 : ∀ a, a < 58 → ∀ b, b < 58 → a ≠ b → (TX11 a).2.1 ≠ (TX11 b).2.1 := by decide +kernel
theorem tyX11_ok : ∀ k, k < 58 → parseFieldDescriptor (TX11 k).2.2.1 = some (tyX11 k) := by decide +kernel
abbrev cX11_init : ByteArray := prog_13_method_1_code
def yX11_init : MethodName := ⟨RX11, "<init>", "(I)V"⟩
abbrev cX11_isIn : ByteArray := prog_13_method_3_code
def yX11_isIn : MethodName := ⟨RX11, "isIn", "(JJJ)Z"⟩
abbrev cX11_isField : ByteArray := prog_13_method_4_code
def yX11_isField : MethodName := ⟨RX11, "isField", "(I)Z"⟩
abbrev cX11_isFlow : ByteArray := prog_13_method_5_code
def yX11_isFlow : MethodName := ⟨RX11, "isFlow", "(I)Z"⟩
abbrev cX11_cut : ByteArray := prog_13_method_6_code
def yX11_cut : MethodName := ⟨RX11, "cut", "(IJ)J"⟩
abbrev cX11_runs : ByteArray := prog_13_method_7_code
def yX11_runs : MethodName := ⟨RX11, "runs", "(I)Z"⟩
abbrev cX11_field : ByteArray := prog_13_method_8_code
def yX11_field : MethodName := ⟨RX11, "field", "(IIII)I"⟩
abbrev cX11_set : ByteArray := prog_13_method_9_code
def yX11_set : MethodName := ⟨RX11, "set", "(IJ)J"⟩
abbrev cX11_stride : ByteArray := prog_13_method_10_code
def yX11_stride : MethodName := ⟨RX11, "stride", "(III)I"⟩
abbrev cX11_onwards : ByteArray := prog_13_method_11_code
def yX11_onwards : MethodName := ⟨RX11, "onwards", "(IJII)J"⟩
abbrev cX11_given : ByteArray := prog_13_method_12_code
def yX11_given : MethodName := ⟨RX11, "given", "(IIII)J"⟩
abbrev cX11_finds : ByteArray := prog_13_method_13_code
def yX11_finds : MethodName := ⟨RX11, "finds", "(IJJI)Z"⟩
abbrev cX11_giveAll : ByteArray := prog_13_method_14_code
def yX11_giveAll : MethodName := ⟨RX11, "giveAll", "(III)Z"⟩
abbrev cX11_serves : ByteArray := prog_13_method_15_code
def yX11_serves : MethodName := ⟨RX11, "serves", "(IIII)Z"⟩
abbrev cX11_say : ByteArray := prog_13_method_16_code
def yX11_say : MethodName := ⟨RX11, "say", "(JI)V"⟩
abbrev cX11_sumOf : ByteArray := prog_13_method_17_code
def yX11_sumOf : MethodName := ⟨RX11, "sumOf", "(JJ)I"⟩
abbrev cX11_draftSum : ByteArray := prog_13_method_18_code
def yX11_draftSum : MethodName := ⟨RX11, "draftSum", "()I"⟩
abbrev cX11_checkOf : ByteArray := prog_13_method_19_code
def yX11_checkOf : MethodName := ⟨RX11, "checkOf", "(II)I"⟩
abbrev cX11_laid : ByteArray := prog_13_method_20_code
def yX11_laid : MethodName := ⟨RX11, "laid", "(IIIZ)I"⟩
abbrev cX11_head : ByteArray := prog_13_method_21_code
def yX11_head : MethodName := ⟨RX11, "head", "(III)V"⟩
abbrev cX11_sendWhole : ByteArray := prog_13_method_22_code
def yX11_sendWhole : MethodName := ⟨RX11, "sendWhole", "(II)I"⟩
abbrev cX11_sendPart : ByteArray := prog_13_method_23_code
def yX11_sendPart : MethodName := ⟨RX11, "sendPart", "(II)I"⟩
abbrev cX11_fails : ByteArray := prog_13_method_24_code
def yX11_fails : MethodName := ⟨RX11, "fails", "(IIII)I"⟩
abbrev cX11_sendShort : ByteArray := prog_13_method_25_code
def yX11_sendShort : MethodName := ⟨RX11, "sendShort", "(II)I"⟩
abbrev cX11_send : ByteArray := prog_13_method_26_code
def yX11_send : MethodName := ⟨RX11, "send", "(IZ)I"⟩
abbrev cX11_refer : ByteArray := prog_13_method_27_code
def yX11_refer : MethodName := ⟨RX11, "refer", "(II)V"⟩
abbrev cX11_drop : ByteArray := prog_13_method_28_code
def yX11_drop : MethodName := ⟨RX11, "drop", "(II)V"⟩
abbrev cX11_ack : ByteArray := prog_13_method_29_code
def yX11_ack : MethodName := ⟨RX11, "ack", "(I)I"⟩
abbrev cX11_nack : ByteArray := prog_13_method_30_code
def yX11_nack : MethodName := ⟨RX11, "nack", "(I)I"⟩
abbrev cX11_take : ByteArray := prog_13_method_31_code
def yX11_take : MethodName := ⟨RX11, "take", "(II)J"⟩
abbrev cX11_takeEnd : ByteArray := prog_13_method_32_code
def yX11_takeEnd : MethodName := ⟨RX11, "takeEnd", "(IZ)V"⟩
abbrev cX11_takeFields : ByteArray := prog_13_method_33_code
def yX11_takeFields : MethodName := ⟨RX11, "takeFields", "(II)V"⟩
abbrev cX11_found : ByteArray := prog_13_method_34_code
def yX11_found : MethodName := ⟨RX11, "found", "(IJIJ)J"⟩
abbrev cX11_open : ByteArray := prog_13_method_35_code
def yX11_open : MethodName := ⟨RX11, "open", "(II)V"⟩
abbrev cX11_isUnlike : ByteArray := prog_13_method_36_code
def yX11_isUnlike : MethodName := ⟨RX11, "isUnlike", "()Z"⟩
abbrev cX11_opened : ByteArray := prog_13_method_37_code
def yX11_opened : MethodName := ⟨RX11, "opened", "(IIII)I"⟩
abbrev cX11_answered : ByteArray := prog_13_method_38_code
def yX11_answered : MethodName := ⟨RX11, "answered", "(IIII)I"⟩
abbrev cX11_isUnderWay : ByteArray := prog_13_method_39_code
def yX11_isUnderWay : MethodName := ⟨RX11, "isUnderWay", "(I)Z"⟩
abbrev cX11_deliver : ByteArray := prog_13_method_40_code
def yX11_deliver : MethodName := ⟨RX11, "deliver", "(I)I"⟩
abbrev cX11_lose : ByteArray := prog_13_method_41_code
def yX11_lose : MethodName := ⟨RX11, "lose", "(I)I"⟩
abbrev cX11_twice : ByteArray := prog_13_method_42_code
def yX11_twice : MethodName := ⟨RX11, "twice", "(I)I"⟩
abbrev cX11_bend : ByteArray := prog_13_method_43_code
def yX11_bend : MethodName := ⟨RX11, "bend", "(III)I"⟩
abbrev cX11_octet : ByteArray := prog_13_method_44_code
def yX11_octet : MethodName := ⟨RX11, "octet", "(II)I"⟩
abbrev cX11_look : ByteArray := prog_13_method_45_code
def yX11_look : MethodName := ⟨RX11, "look", "(II)I"⟩
abbrev cX11_prove : ByteArray := prog_13_method_46_code
def yX11_prove : MethodName := ⟨RX11, "prove", "(III)I"⟩
abbrev cX11_got : ByteArray := prog_13_method_47_code
def yX11_got : MethodName := ⟨RX11, "got", "(I)J"⟩
abbrev cX11_way : ByteArray := prog_13_method_48_code
def yX11_way : MethodName := ⟨RX11, "way", "(I)I"⟩
abbrev cX11_hung : ByteArray := prog_13_method_49_code
def yX11_hung : MethodName := ⟨RX11, "hung", "(I)I"⟩
abbrev cX11_context : ByteArray := prog_13_method_50_code
def yX11_context : MethodName := ⟨RX11, "context", "(II)I"⟩
abbrev cX11_known : ByteArray := prog_13_method_51_code
def yX11_known : MethodName := ⟨RX11, "known", "(IIZ)J"⟩
abbrev cX11_squeezer : ByteArray := prog_13_method_52_code
def yX11_squeezer : MethodName := ⟨RX11, "squeezer", "(II)I"⟩
abbrev cX11_forget : ByteArray := prog_13_method_53_code
def yX11_forget : MethodName := ⟨RX11, "forget", "(II)I"⟩
abbrev cX11_wholeBits : ByteArray := prog_13_method_54_code
def yX11_wholeBits : MethodName := ⟨RX11, "wholeBits", "()I"⟩
abbrev cX11_spent : ByteArray := prog_13_method_55_code
def yX11_spent : MethodName := ⟨RX11, "spent", "(III)J"⟩
abbrev cX11_isShelf : ByteArray := prog_13_method_56_code
def yX11_isShelf : MethodName := ⟨RX11, "isShelf", "(I)Z"⟩
abbrev cX11_canKeep : ByteArray := prog_13_method_57_code
def yX11_canKeep : MethodName := ⟨RX11, "canKeep", "(II)Z"⟩
abbrev cX11_keep : ByteArray := prog_13_method_58_code
def yX11_keep : MethodName := ⟨RX11, "keep", "(III)I"⟩
abbrev cX11_make : ByteArray := prog_13_method_59_code
def yX11_make : MethodName := ⟨RX11, "make", "(III)I"⟩
abbrev cX11_put : ByteArray := prog_13_method_60_code
def yX11_put : MethodName := ⟨RX11, "put", "(III)J"⟩
abbrev cX11_hasPlaces : ByteArray := prog_13_method_61_code
def yX11_hasPlaces : MethodName := ⟨RX11, "hasPlaces", "(III)Z"⟩
abbrev cX11_copy : ByteArray := prog_13_method_62_code
def yX11_copy : MethodName := ⟨RX11, "copy", "(IIIII)I"⟩
abbrev cX11_denied : ByteArray := prog_13_method_63_code
def yX11_denied : MethodName := ⟨RX11, "denied", "(I)I"⟩
abbrev cX11_worth : ByteArray := prog_13_method_64_code
def yX11_worth : MethodName := ⟨RX11, "worth", "(I)I"⟩
abbrev cX11_toss : ByteArray := prog_13_method_65_code
def yX11_toss : MethodName := ⟨RX11, "toss", "(I)I"⟩
abbrev cX11_count : ByteArray := prog_13_method_66_code
def yX11_count : MethodName := ⟨RX11, "count", "(I)I"⟩
def RJx8e188 : String := "java/lang/Cloneable"
def TJx8e188 : u_T := fun k => match k with
  | _ => ("", "", "", false)
def tyJx8e188 : Nat → FieldType := fun k => match k with
  | _ => .int
abbrev wsJx8e1880 : List Cond := u_ws RJx8e188 TJx8e188 0
theorem nmJx8e188 : ∀ a, a < 0 → ∀ b, b < 0 → a ≠ b → (TJx8e188 a).2.1 ≠ (TJx8e188 b).2.1 := by decide +kernel
theorem tyJx8e188_ok : ∀ k, k < 0 → parseFieldDescriptor (TJx8e188 k).2.2.1 = some (tyJx8e188 k) := by decide +kernel
def RJ9 : String := "java/lang/Math"
def TJ9 : u_T := fun k => match k with
  | _ => ("", "", "", false)
def tyJ9 : Nat → FieldType := fun k => match k with
  | _ => .int
abbrev wsJ90 : List Cond := u_ws RJ9 TJ9 0
theorem nmJ9 : ∀ a, a < 0 → ∀ b, b < 0 → a ≠ b → (TJ9 a).2.1 ≠ (TJ9 b).2.1 := by decide +kernel
theorem tyJ9_ok : ∀ k, k < 0 → parseFieldDescriptor (TJ9 k).2.2.1 = some (tyJ9 k) := by decide +kernel
abbrev cJ9_floorMod_7cf53 : ByteArray := prog_15_method_50_code
def yJ9_floorMod_7cf53 : MethodName := ⟨RJ9, "floorMod", "(II)I"⟩
abbrev cJ9_max_7cf53 : ByteArray := prog_15_method_65_code
def yJ9_max_7cf53 : MethodName := ⟨RJ9, "max", "(II)I"⟩
abbrev cJ9_min_7cf53 : ByteArray := prog_15_method_69_code
def yJ9_min_7cf53 : MethodName := ⟨RJ9, "min", "(II)I"⟩
def RJ10 : String := "java/lang/System"
def TJ10 : u_T := fun k => match k with
  | _ => ("", "", "", false)
def tyJ10 : Nat → FieldType := fun k => match k with
  | _ => .int
abbrev wsJ100 : List Cond := u_ws RJ10 TJ10 0
theorem nmJ10 : ∀ a, a < 0 → ∀ b, b < 0 → a ≠ b → (TJ10 a).2.1 ≠ (TJ10 b).2.1 := by decide +kernel
theorem tyJ10_ok : ∀ k, k < 0 → parseFieldDescriptor (TJ10 k).2.2.1 = some (tyJ10 k) := by decide +kernel
def RJ7 : String := "java/util/Arrays"
def TJ7 : u_T := fun k => match k with
  | _ => ("", "", "", false)
def tyJ7 : Nat → FieldType := fun k => match k with
  | _ => .int
abbrev wsJ70 : List Cond := u_ws RJ7 TJ7 0
theorem nmJ7 : ∀ a, a < 0 → ∀ b, b < 0 → a ≠ b → (TJ7 a).2.1 ≠ (TJ7 b).2.1 := by decide +kernel
theorem tyJ7_ok : ∀ k, k < 0 → parseFieldDescriptor (TJ7 k).2.2.1 = some (tyJ7 k) := by decide +kernel
abbrev cJ7_fill_d0a16 : ByteArray := prog_17_method_101_code
def yJ7_fill_d0a16 : MethodName := ⟨RJ7, "fill", "([JJ)V"⟩
abbrev cJ7_fill_53178 : ByteArray := prog_17_method_103_code
def yJ7_fill_53178 : MethodName := ⟨RJ7, "fill", "([II)V"⟩
abbrev cJ7_copyOf_59c91 : ByteArray := prog_17_method_123_code
def yJ7_copyOf_59c91 : MethodName := ⟨RJ7, "copyOf", "([II)[I"⟩
def RL : String := "HeaderLineLaw"
abbrev cL_cell : ByteArray := method_2_code
def yL_cell : MethodName := ⟨RL, "cell", "([II)I"⟩
abbrev cL_law : ByteArray := code
def yL_law : MethodName := ⟨RL, "law", "([I)Z"⟩
def wsX3_init : List Cond := .code yX3_init cX3_init 1 none :: ([.methodLink RX3 3 objectInit, .instanceMethod objectInit, .code objectInit ⟨#[0xb1]⟩ 1 none, .arrayClass .long, .fieldLink RX3 9 "HeaderLine$Header" "values" "[J"] ++ wsX30)
def wsX0_init : List Cond := .code yX0_init cX0_init 1 none :: ([.methodLink RX0 3 objectInit, .instanceMethod objectInit, .code objectInit ⟨#[0xb1]⟩ 1 none, .classLink RX0 9 RX3, .instantiable RX3 2, .initialized RX3, .fieldLink RX0 12 "HeaderLine$Arrival" "header" "LHeaderLine$Header;", .arrayClass .int, .fieldLink RX0 18 "HeaderLine$Arrival" "strides" "[I", .fieldLink RX0 22 "HeaderLine$Arrival" "ways" "[I", .fieldLink RX0 25 "HeaderLine$Arrival" "lengths" "[I", .arrayClass .long, .fieldLink RX0 28 "HeaderLine$Arrival" "told" "[J", .fieldLink RX0 32 "HeaderLine$Arrival" "bytes" "[I", .instanceMethod yX3_init, .code yX3_init cX3_init 1 none, .methodLink RX3 3 objectInit, .fieldLink RX3 9 "HeaderLine$Header" "values" "[J"] ++ wsX30 ++ wsX00)
def wsX0_read : List Cond := .code yX0_read cX0_read 5 (some .long) :: ([.fieldLink RX0 39 "HeaderLine$Arrival" "isBroken" "Z", .fieldLink RX0 35 "HeaderLine$Arrival" "at" "I", .fieldLink RX0 32 "HeaderLine$Arrival" "bytes" "[I"] ++ wsX00)
def wsX0_readValue : List Cond := .code yX0_readValue cX0_readValue 4 none :: ([.fieldLink RX0 22 "HeaderLine$Arrival" "ways" "[I", .fieldLink RX0 25 "HeaderLine$Arrival" "lengths" "[I", .fieldLink RX0 28 "HeaderLine$Arrival" "told" "[J", .methodLink RX0 43 yX0_read, .instanceMethod yX0_read, .selects RX0 yX0_read yX0_read, .initialized RX0, .code yX0_read cX0_read 5 (some .long), .fieldLink RX0 39 "HeaderLine$Arrival" "isBroken" "Z", .fieldLink RX0 35 "HeaderLine$Arrival" "at" "I", .fieldLink RX0 32 "HeaderLine$Arrival" "bytes" "[I"] ++ wsX00)
def wsX6_has : List Cond := .code yX6_has cX6_has 2 (some .boolean) :: ([.fieldLink RX6 28 "HeaderLine$Plan" "size" "I"] ++ wsX60)
def wsX6_hasStride : List Cond := .code yX6_hasStride cX6_hasStride 2 (some .boolean) :: ([.fieldLink RX6 9 "HeaderLine$Plan" "kinds" "[I", .methodLink RX6 24 yX6_has, .instanceMethod yX6_has, .selects RX6 yX6_has yX6_has, .initialized RX6, .code yX6_has cX6_has 2 (some .boolean), .fieldLink RX6 28 "HeaderLine$Plan" "size" "I"] ++ wsX60)
def wsX0_readField_r1 : List Cond := [Cond.fieldLink RX0 94 "HeaderLine$Plan" "kinds" "[I", Cond.fieldLink RX0 47 "HeaderLine$Arrival" "kind" "I", Cond.fieldLink RX0 97 "HeaderLine$Plan" "widths" "[I", Cond.fieldLink RX0 18 "HeaderLine$Arrival" "strides" "[I", Cond.fieldLink RX0 39 "HeaderLine$Arrival" "isBroken" "Z", Cond.methodLink RX0 100 yX0_readValue, Cond.instanceMethod yX0_readValue, Cond.selects RX0 yX0_readValue yX0_readValue, Cond.initialized RX0, Cond.code yX0_readValue cX0_readValue 4 none, Cond.fieldLink RX0 22 "HeaderLine$Arrival" "ways" "[I", Cond.fieldLink RX0 25 "HeaderLine$Arrival" "lengths" "[I", Cond.fieldLink RX0 28 "HeaderLine$Arrival" "told" "[J", Cond.methodLink RX0 43 yX0_read, Cond.instanceMethod yX0_read, Cond.selects RX0 yX0_read yX0_read, Cond.code yX0_read cX0_read 5 (some .long), Cond.fieldLink RX0 35 "HeaderLine$Arrival" "at" "I", Cond.fieldLink RX0 32 "HeaderLine$Arrival" "bytes" "[I", Cond.methodLink RX0 104 yX6_hasStride, Cond.instanceMethod yX6_hasStride, Cond.selects RX6 yX6_hasStride yX6_hasStride, Cond.initialized RX6, Cond.code yX6_hasStride cX6_hasStride 2 (some .boolean)]
def wsX0_readField_r2 : List Cond := [Cond.fieldLink RX6 9 "HeaderLine$Plan" "kinds" "[I", Cond.methodLink RX6 24 yX6_has, Cond.instanceMethod yX6_has, Cond.selects RX6 yX6_has yX6_has, Cond.code yX6_has cX6_has 2 (some .boolean), Cond.fieldLink RX6 28 "HeaderLine$Plan" "size" "I"]
def wsX0_readField : List Cond := .code yX0_readField cX0_readField 5 none :: ((wsX0_readField_r1 ++ wsX0_readField_r2) ++ wsX60 ++ wsX00)
def wsX10_endsInCheck : List Cond := .code yX10_endsInCheck cX10_endsInCheck 1 (some .boolean) :: ([])
def wsX10_wholeBytes : List Cond := .code yX10_wholeBytes cX10_wholeBytes 1 (some .int) :: ([])
def wsX10_checkOf : List Cond := .code yX10_checkOf cX10_checkOf 4 (some .int) :: ([])
def wsX0_isEndRight : List Cond := .code yX0_isEndRight cX0_isEndRight 3 (some .boolean) :: ([.fieldLink RX0 35 "HeaderLine$Arrival" "at" "I", .fieldLink RX0 47 "HeaderLine$Arrival" "kind" "I", .fieldLink RX0 32 "HeaderLine$Arrival" "bytes" "[I", .static yX10_wholeBytes, .initialized RX10, .code yX10_wholeBytes cX10_wholeBytes 1 (some .int), .static yX10_endsInCheck, .code yX10_endsInCheck cX10_endsInCheck 1 (some .boolean), .methodLink RX0 43 yX0_read, .instanceMethod yX0_read, .selects RX0 yX0_read yX0_read, .initialized RX0, .code yX0_read cX0_read 5 (some .long), .fieldLink RX0 39 "HeaderLine$Arrival" "isBroken" "Z", .static yX10_checkOf, .code yX10_checkOf cX10_checkOf 4 (some .int)] ++ wsX00)
def wsX0_parse_r1 : List Cond := [Cond.fieldLink RX0 32 "HeaderLine$Arrival" "bytes" "[I", Cond.fieldLink RX0 35 "HeaderLine$Arrival" "at" "I", Cond.fieldLink RX0 39 "HeaderLine$Arrival" "isBroken" "Z", Cond.fieldLink RX0 47 "HeaderLine$Arrival" "kind" "I", Cond.fieldLink RX0 50 "HeaderLine$Arrival" "flow" "I", Cond.fieldLink RX0 12 "HeaderLine$Arrival" "header" "LHeaderLine$Header;", Cond.fieldLink RX0 53 "HeaderLine$Header" "number" "I", Cond.fieldLink RX0 56 "HeaderLine$Arrival" "round" "I", Cond.fieldLink RX0 59 "HeaderLine$Plan" "size" "I", Cond.fieldLink RX0 72 "HeaderLine$Arrival" "sum" "I", Cond.methodLink RX0 43 yX0_read, Cond.instanceMethod yX0_read, Cond.selects RX0 yX0_read yX0_read, Cond.initialized RX0, Cond.code yX0_read cX0_read 5 (some .long), Cond.methodLink RX0 64 yX0_readField, Cond.instanceMethod yX0_readField, Cond.selects RX0 yX0_readField yX0_readField, Cond.code yX0_readField cX0_readField 5 none, Cond.fieldLink RX0 94 "HeaderLine$Plan" "kinds" "[I", Cond.fieldLink RX0 97 "HeaderLine$Plan" "widths" "[I", Cond.fieldLink RX0 18 "HeaderLine$Arrival" "strides" "[I", Cond.methodLink RX0 100 yX0_readValue, Cond.instanceMethod yX0_readValue]
def wsX0_parse_r2 : List Cond := [Cond.selects RX0 yX0_readValue yX0_readValue, Cond.code yX0_readValue cX0_readValue 4 none, Cond.fieldLink RX0 22 "HeaderLine$Arrival" "ways" "[I", Cond.fieldLink RX0 25 "HeaderLine$Arrival" "lengths" "[I", Cond.fieldLink RX0 28 "HeaderLine$Arrival" "told" "[J", Cond.methodLink RX0 104 yX6_hasStride, Cond.instanceMethod yX6_hasStride, Cond.selects RX6 yX6_hasStride yX6_hasStride, Cond.initialized RX6, Cond.code yX6_hasStride cX6_hasStride 2 (some .boolean), Cond.fieldLink RX6 9 "HeaderLine$Plan" "kinds" "[I", Cond.methodLink RX6 24 yX6_has, Cond.instanceMethod yX6_has, Cond.selects RX6 yX6_has yX6_has, Cond.code yX6_has cX6_has 2 (some .boolean), Cond.fieldLink RX6 28 "HeaderLine$Plan" "size" "I", Cond.static yX10_endsInCheck, Cond.initialized RX10, Cond.code yX10_endsInCheck cX10_endsInCheck 1 (some .boolean), Cond.methodLink RX0 75 yX0_isEndRight, Cond.instanceMethod yX0_isEndRight, Cond.selects RX0 yX0_isEndRight yX0_isEndRight, Cond.code yX0_isEndRight cX0_isEndRight 3 (some .boolean), Cond.static yX10_wholeBytes]
def wsX0_parse_r3 : List Cond := [Cond.code yX10_wholeBytes cX10_wholeBytes 1 (some .int), Cond.static yX10_checkOf, Cond.code yX10_checkOf cX10_checkOf 4 (some .int)]
def wsX0_parse : List Cond := .code yX0_parse cX0_parse 4 (some .boolean) :: ((wsX0_parse_r1 ++ (wsX0_parse_r2 ++ wsX0_parse_r3)) ++ wsX00 ++ wsX30 ++ wsX60)
def wsX10_lowest : List Cond := .code yX10_lowest cX10_lowest 3 (some .long) :: ([])
def wsX6_lowBits : List Cond := .code yX6_lowBits cX6_lowBits 4 (some .long) :: ([.fieldLink RX6 15 "HeaderLine$Plan" "widths" "[I", .static yX10_lowest, .initialized RX10, .code yX10_lowest cX10_lowest 3 (some .long)] ++ wsX60)
def wsX6_given : List Cond := .code yX6_given cX6_given 7 (some .long) :: ([.fieldLink RX6 49 "HeaderLine$Header" "number" "I", .fieldLink RX6 9 "HeaderLine$Plan" "kinds" "[I", .fieldLink RX6 43 "HeaderLine$Header" "values" "[J", .fieldLink RX6 18 "HeaderLine$Plan" "ties" "[I", .fieldLink RX6 21 "HeaderLine$Plan" "extras" "[I", .methodLink RX6 52 yX6_lowBits, .instanceMethod yX6_lowBits, .selects RX6 yX6_lowBits yX6_lowBits, .initialized RX6, .code yX6_lowBits cX6_lowBits 4 (some .long), .fieldLink RX6 15 "HeaderLine$Plan" "widths" "[I", .static yX10_lowest, .initialized RX10, .code yX10_lowest cX10_lowest 3 (some .long)] ++ wsX30 ++ wsX60)
def wsX6_found : List Cond := .code yX6_found cX6_found 9 (some .long) :: ([.static yX10_lowest, .initialized RX10, .code yX10_lowest cX10_lowest 3 (some .long), .methodLink RX6 52 yX6_lowBits, .instanceMethod yX6_lowBits, .selects RX6 yX6_lowBits yX6_lowBits, .initialized RX6, .code yX6_lowBits cX6_lowBits 4 (some .long), .fieldLink RX6 15 "HeaderLine$Plan" "widths" "[I"] ++ wsX60)
def wsX0_rebuild_r1 : List Cond := [Cond.fieldLink RX0 59 "HeaderLine$Plan" "size" "I", Cond.fieldLink RX0 28 "HeaderLine$Arrival" "told" "[J", Cond.fieldLink RX0 22 "HeaderLine$Arrival" "ways" "[I", Cond.fieldLink RX0 79 "HeaderLine$Context" "header" "LHeaderLine$Header;", Cond.fieldLink RX0 82 "HeaderLine$Context" "strides" "[I", Cond.fieldLink RX0 12 "HeaderLine$Arrival" "header" "LHeaderLine$Header;", Cond.fieldLink RX0 25 "HeaderLine$Arrival" "lengths" "[I", Cond.fieldLink RX0 91 "HeaderLine$Header" "values" "[J", Cond.methodLink RX0 83 yX6_given, Cond.instanceMethod yX6_given, Cond.selects RX6 yX6_given yX6_given, Cond.initialized RX6, Cond.code yX6_given cX6_given 7 (some .long), Cond.fieldLink RX6 49 "HeaderLine$Header" "number" "I", Cond.fieldLink RX6 9 "HeaderLine$Plan" "kinds" "[I", Cond.fieldLink RX6 43 "HeaderLine$Header" "values" "[J", Cond.fieldLink RX6 18 "HeaderLine$Plan" "ties" "[I", Cond.fieldLink RX6 21 "HeaderLine$Plan" "extras" "[I", Cond.methodLink RX6 52 yX6_lowBits, Cond.instanceMethod yX6_lowBits, Cond.selects RX6 yX6_lowBits yX6_lowBits, Cond.code yX6_lowBits cX6_lowBits 4 (some .long), Cond.fieldLink RX6 15 "HeaderLine$Plan" "widths" "[I", Cond.static yX10_lowest]
def wsX0_rebuild_r2 : List Cond := [Cond.initialized RX10, Cond.code yX10_lowest cX10_lowest 3 (some .long), Cond.methodLink RX0 87 yX6_found, Cond.instanceMethod yX6_found, Cond.selects RX6 yX6_found yX6_found, Cond.code yX6_found cX6_found 9 (some .long)]
def wsX0_rebuild : List Cond := .code yX0_rebuild cX0_rebuild 8 none :: ((wsX0_rebuild_r1 ++ wsX0_rebuild_r2) ++ wsX60 ++ wsX00 ++ wsX10 ++ wsX30)
def wsX1_init : List Cond := .code yX1_init cX1_init 1 none :: ([.methodLink RX1 3 objectInit, .instanceMethod objectInit, .code objectInit ⟨#[0xb1]⟩ 1 none, .classLink RX1 9 RX3, .instantiable RX3 2, .initialized RX3, .fieldLink RX1 12 "HeaderLine$Context" "header" "LHeaderLine$Header;", .arrayClass .int, .fieldLink RX1 18 "HeaderLine$Context" "strides" "[I", .instanceMethod yX3_init, .code yX3_init cX3_init 1 none, .methodLink RX3 3 objectInit, .arrayClass .long, .fieldLink RX3 9 "HeaderLine$Header" "values" "[J"] ++ wsX30 ++ wsX10)
def wsX3_become : List Cond := .code yX3_become cX3_become 2 none :: ([.fieldLink RX3 9 "HeaderLine$Header" "values" "[J", .methodLink RX3 15 arraycopyName, .native arraycopyName, .static arraycopyName, .initialized "java/lang/System", .fieldLink RX3 21 "HeaderLine$Header" "number" "I"] ++ wsX30)
def wsX1_accept : List Cond := .code yX1_accept cX1_accept 2 none :: ([.fieldLink RX1 12 "HeaderLine$Context" "header" "LHeaderLine$Header;", .fieldLink RX1 22 "HeaderLine$Arrival" "header" "LHeaderLine$Header;", .fieldLink RX1 29 "HeaderLine$Context" "isThere" "Z", .fieldLink RX1 33 "HeaderLine$Arrival" "kind" "I", .fieldLink RX1 37 "HeaderLine$Arrival" "round" "I", .fieldLink RX1 40 "HeaderLine$Context" "round" "I", .fieldLink RX1 41 "HeaderLine$Arrival" "strides" "[I", .fieldLink RX1 18 "HeaderLine$Context" "strides" "[I", .methodLink RX1 42 arraycopyName, .native arraycopyName, .static arraycopyName, .initialized "java/lang/System", .methodLink RX1 25 yX3_become, .instanceMethod yX3_become, .selects RX3 yX3_become yX3_become, .initialized RX3, .code yX3_become cX3_become 2 none, .fieldLink RX3 9 "HeaderLine$Header" "values" "[J", .methodLink RX3 15 arraycopyName, .fieldLink RX3 21 "HeaderLine$Header" "number" "I"] ++ wsX10 ++ wsX00 ++ wsX30)
def wsX2_init : List Cond := .code yX2_init cX2_init 1 none :: ([.methodLink RX2 3 objectInit, .instanceMethod objectInit, .code objectInit ⟨#[0xb1]⟩ 1 none, .classLink RX2 9 RX3, .instantiable RX3 2, .initialized RX3, .fieldLink RX2 12 "HeaderLine$Got" "header" "LHeaderLine$Header;", .arrayClass .int, .fieldLink RX2 18 "HeaderLine$Got" "ways" "[I", .instanceMethod yX3_init, .code yX3_init cX3_init 1 none, .methodLink RX3 3 objectInit, .arrayClass .long, .fieldLink RX3 9 "HeaderLine$Header" "values" "[J"] ++ wsX30 ++ wsX20)
def wsX2_accept : List Cond := .code yX2_accept cX2_accept 3 none :: ([.fieldLink RX2 12 "HeaderLine$Got" "header" "LHeaderLine$Header;", .fieldLink RX2 22 "HeaderLine$Arrival" "header" "LHeaderLine$Header;", .fieldLink RX2 29 "HeaderLine$Arrival" "ways" "[I", .fieldLink RX2 18 "HeaderLine$Got" "ways" "[I", .methodLink RX2 30 arraycopyName, .native arraycopyName, .static arraycopyName, .initialized "java/lang/System", .fieldLink RX2 36 "HeaderLine$Arrival" "flow" "I", .fieldLink RX2 40 "HeaderLine$Got" "flow" "I", .fieldLink RX2 41 "HeaderLine$Got" "hungOn" "I", .fieldLink RX2 44 "HeaderLine$Got" "total" "I", .methodLink RX2 25 yX3_become, .instanceMethod yX3_become, .selects RX3 yX3_become yX3_become, .initialized RX3, .code yX3_become cX3_become 2 none, .fieldLink RX3 9 "HeaderLine$Header" "values" "[J", .methodLink RX3 15 arraycopyName, .fieldLink RX3 21 "HeaderLine$Header" "number" "I"] ++ wsX20 ++ wsX00 ++ wsX30)
def wsX4_init : List Cond := .code yX4_init cX4_init 6 none :: ([.methodLink RX4 1 objectInit, .instanceMethod objectInit, .code objectInit ⟨#[0xb1]⟩ 1 none, .fieldLink RX4 7 "HeaderLine$Letter" "outcome" "I", .fieldLink RX4 13 "HeaderLine$Letter" "kind" "I", .fieldLink RX4 16 "HeaderLine$Letter" "flow" "I", .fieldLink RX4 19 "HeaderLine$Letter" "number" "I", .fieldLink RX4 22 "HeaderLine$Letter" "bytes" "[I", .fieldLink RX4 26 "HeaderLine$Letter" "bits" "I"] ++ wsX40)
def wsX4_hasByte : List Cond := .code yX4_hasByte cX4_hasByte 2 (some .boolean) :: ([.fieldLink RX4 22 "HeaderLine$Letter" "bytes" "[I"] ++ wsX40)
def wsX5_init : List Cond := .code yX5_init cX5_init 1 none :: ([.methodLink RX5 3 objectInit, .instanceMethod objectInit, .code objectInit ⟨#[0xb1]⟩ 1 none, .arrayClass .int, .fieldLink RX5 9 "HeaderLine$Pen" "bytes" "[I"] ++ wsX50)
def wsJ7_fill_53178 : List Cond := .code yJ7_fill_53178 cJ7_fill_53178 4 none :: ([])
def wsX5_write : List Cond := .code yX5_write cX5_write 6 none :: ([.fieldLink RX5 21 "HeaderLine$Pen" "bits" "I", .fieldLink RX5 9 "HeaderLine$Pen" "bytes" "[I", .static yX10_wholeBytes, .initialized RX10, .code yX10_wholeBytes cX10_wholeBytes 1 (some .int)] ++ wsX50)
def wsX5_begin : List Cond := .code yX5_begin cX5_begin 4 none :: ([.fieldLink RX5 9 "HeaderLine$Pen" "bytes" "[I", .fieldLink RX5 21 "HeaderLine$Pen" "bits" "I", .methodLink RX5 15 yJ7_fill_53178, .static yJ7_fill_53178, .initialized RJ7, .code yJ7_fill_53178 cJ7_fill_53178 4 none, .methodLink RX5 25 yX5_write, .instanceMethod yX5_write, .selects RX5 yX5_write yX5_write, .initialized RX5, .code yX5_write cX5_write 6 none, .static yX10_wholeBytes, .initialized RX10, .code yX10_wholeBytes cX10_wholeBytes 1 (some .int)] ++ wsX50)
def wsJ7_copyOf_59c91 : List Cond := .code yJ7_copyOf_59c91 cJ7_copyOf_59c91 3 (some (.array .int)) :: ([.methodLink RJ7 316 ⟨"[I", "clone", "()Ljava/lang/Object;"⟩, .sameMethod "[I" "java/lang/Object" "clone" "()Ljava/lang/Object;", .native ⟨"java/lang/Object", "clone", "()Ljava/lang/Object;"⟩, .instanceMethod ⟨"java/lang/Object", "clone", "()Ljava/lang/Object;"⟩, .selects "[I" ⟨"[I", "clone", "()Ljava/lang/Object;"⟩ ⟨"java/lang/Object", "clone", "()Ljava/lang/Object;"⟩, .classLink RJ7 317 "[I", .arrayClass .int, .methodLink RJ7 304 Lib.Math.min.name, .static Lib.Math.min.name, .initialized "java/lang/Math", .code Lib.Math.min.name Lib.Math.min.code 2 (some .int), .methodLink RJ7 150 arraycopyName, .native arraycopyName, .static arraycopyName, .initialized "java/lang/System"])
def wsX5_finished_r1 : List Cond := [Cond.fieldLink RX5 21 "HeaderLine$Pen" "bits" "I", Cond.fieldLink RX5 9 "HeaderLine$Pen" "bytes" "[I", Cond.static yX10_wholeBytes, Cond.initialized RX10, Cond.code yX10_wholeBytes cX10_wholeBytes 1 (some .int), Cond.methodLink RX5 33 yJ7_copyOf_59c91, Cond.static yJ7_copyOf_59c91, Cond.initialized RJ7, Cond.code yJ7_copyOf_59c91 cJ7_copyOf_59c91 3 (some (.array .int)), Cond.methodLink RJ7 316 ⟨"[I", "clone", "()Ljava/lang/Object;"⟩, Cond.sameMethod "[I" "java/lang/Object" "clone" "()Ljava/lang/Object;", Cond.native ⟨"java/lang/Object", "clone", "()Ljava/lang/Object;"⟩, Cond.instanceMethod ⟨"java/lang/Object", "clone", "()Ljava/lang/Object;"⟩, Cond.selects "[I" ⟨"[I", "clone", "()Ljava/lang/Object;"⟩ ⟨"java/lang/Object", "clone", "()Ljava/lang/Object;"⟩, Cond.classLink RJ7 317 "[I", Cond.arrayClass .int, Cond.methodLink RJ7 304 Lib.Math.min.name, Cond.static Lib.Math.min.name, Cond.initialized "java/lang/Math", Cond.code Lib.Math.min.name Lib.Math.min.code 2 (some .int), Cond.methodLink RJ7 150 arraycopyName, Cond.native arraycopyName, Cond.static arraycopyName, Cond.initialized "java/lang/System"]
def wsX5_finished_r2 : List Cond := [Cond.static yX10_checkOf, Cond.code yX10_checkOf cX10_checkOf 4 (some .int)]
def wsX5_finished : List Cond := .code yX5_finished cX5_finished 4 (some (.array .int)) :: ((wsX5_finished_r1 ++ wsX5_finished_r2) ++ wsX50)
def wsX6_init : List Cond := .code yX6_init cX6_init 1 none :: ([.methodLink RX6 3 objectInit, .instanceMethod objectInit, .code objectInit ⟨#[0xb1]⟩ 1 none, .arrayClass .int, .fieldLink RX6 9 "HeaderLine$Plan" "kinds" "[I", .fieldLink RX6 15 "HeaderLine$Plan" "widths" "[I", .fieldLink RX6 18 "HeaderLine$Plan" "ties" "[I", .fieldLink RX6 21 "HeaderLine$Plan" "extras" "[I"] ++ wsX60)
def wsX6_allows : List Cond := .code yX6_allows cX6_allows 5 (some .boolean) :: ([.methodLink RX6 24 yX6_has, .instanceMethod yX6_has, .selects RX6 yX6_has yX6_has, .initialized RX6, .code yX6_has cX6_has 2 (some .boolean), .fieldLink RX6 28 "HeaderLine$Plan" "size" "I"] ++ wsX60)
def wsX6_append : List Cond := .code yX6_append cX6_append 5 (some .int) :: ([.fieldLink RX6 28 "HeaderLine$Plan" "size" "I", .fieldLink RX6 9 "HeaderLine$Plan" "kinds" "[I", .fieldLink RX6 15 "HeaderLine$Plan" "widths" "[I", .fieldLink RX6 18 "HeaderLine$Plan" "ties" "[I", .fieldLink RX6 21 "HeaderLine$Plan" "extras" "[I"] ++ wsX60)
def wsX6_wholeBits : List Cond := .code yX6_wholeBits cX6_wholeBits 3 (some .int) :: ([.fieldLink RX6 28 "HeaderLine$Plan" "size" "I", .fieldLink RX6 15 "HeaderLine$Plan" "widths" "[I", .methodLink RX6 36 yX6_hasStride, .instanceMethod yX6_hasStride, .selects RX6 yX6_hasStride yX6_hasStride, .initialized RX6, .code yX6_hasStride cX6_hasStride 2 (some .boolean), .fieldLink RX6 9 "HeaderLine$Plan" "kinds" "[I", .methodLink RX6 24 yX6_has, .instanceMethod yX6_has, .selects RX6 yX6_has yX6_has, .code yX6_has cX6_has 2 (some .boolean)] ++ wsX60)
def wsX6_sumOf : List Cond := .code yX6_sumOf cX6_sumOf 5 (some .int) :: ([.constantLong RX6 39 (17), .fieldLink RX6 28 "HeaderLine$Plan" "size" "I", .constantLong RX6 41 (31), .fieldLink RX6 43 "HeaderLine$Header" "values" "[J", .static yX10_lowest, .initialized RX10, .code yX10_lowest cX10_lowest 3 (some .long)] ++ wsX60 ++ wsX30)
def wsX7_init : List Cond := .code yX7_init cX7_init 1 none :: ([.methodLink RX7 3 objectInit, .instanceMethod objectInit, .code objectInit ⟨#[0xb1]⟩ 1 none, .arrayClass .int, .fieldLink RX7 9 "HeaderLine$Proof" "lengths" "[I", .fieldLink RX7 15 "HeaderLine$Proof" "misses" "[I"] ++ wsX70)
def wsX8_init : List Cond := .code yX8_init cX8_init 1 none :: ([.methodLink RX8 3 objectInit, .instanceMethod objectInit, .code objectInit ⟨#[0xb1]⟩ 1 none, .arrayClass .long, .fieldLink RX8 9 "HeaderLine$Shelf" "row" "[J"] ++ wsX80)
def wsX8_holdLetter : List Cond := .code yX8_holdLetter cX8_holdLetter 2 none :: ([.fieldLink RX8 15 "HeaderLine$Shelf" "holds" "I", .fieldLink RX8 19 "HeaderLine$Letter" "kind" "I", .fieldLink RX8 24 "HeaderLine$Shelf" "letterKind" "I", .fieldLink RX8 27 "HeaderLine$Letter" "bytes" "[I", .fieldLink RX8 31 "HeaderLine$Shelf" "letterBytes" "I"] ++ wsX80 ++ wsX40)
def wsJ7_fill_d0a16 : List Cond := .code yJ7_fill_d0a16 cJ7_fill_d0a16 5 none :: ([])
def wsX8_holdRow : List Cond := .code yX8_holdRow cX8_holdRow 3 none :: ([.fieldLink RX8 15 "HeaderLine$Shelf" "holds" "I", .methodLink RX8 34 Lib.Math.min.name, .static Lib.Math.min.name, .initialized "java/lang/Math", .code Lib.Math.min.name Lib.Math.min.code 2 (some .int), .methodLink RX8 40 Lib.Math.max.name, .static Lib.Math.max.name, .code Lib.Math.max.name Lib.Math.max.code 2 (some .int), .fieldLink RX8 43 "HeaderLine$Shelf" "size" "I", .fieldLink RX8 9 "HeaderLine$Shelf" "row" "[J", .methodLink RX8 46 yJ7_fill_d0a16, .static yJ7_fill_d0a16, .initialized RJ7, .code yJ7_fill_d0a16 cJ7_fill_d0a16 5 none] ++ wsX80)
def wsX8_hasPlaces : List Cond := .code yX8_hasPlaces cX8_hasPlaces 3 (some .boolean) :: ([.fieldLink RX8 43 "HeaderLine$Shelf" "size" "I"] ++ wsX80)
def wsX9_init : List Cond := .code yX9_init cX9_init 2 none :: ([.methodLink RX9 3 objectInit, .instanceMethod objectInit, .code objectInit ⟨#[0xb1]⟩ 1 none, .arrayClass .int, .fieldLink RX9 9 "HeaderLine$Squeezer" "strides" "[I", .fieldLink RX9 15 "HeaderLine$Squeezer" "owes" "Z", .classLink RX9 19 RX3, .fieldLink RX9 21 "HeaderLine$Squeezer" "ring" "[LHeaderLine$Header;", .instantiable RX3 2, .initialized RX3, .methodLink RX9 25 yJ7_fill_53178, .static yJ7_fill_53178, .initialized RJ7, .code yJ7_fill_53178 cJ7_fill_53178 4 none, .instanceMethod yX3_init, .code yX3_init cX3_init 1 none, .methodLink RX3 3 objectInit, .arrayClass .long, .fieldLink RX3 9 "HeaderLine$Header" "values" "[J"] ++ wsX90 ++ wsX30)
def wsJ9_floorMod_7cf53 : List Cond := .code yJ9_floorMod_7cf53 cJ9_floorMod_7cf53 3 (some .int) :: ([])
def wsX9_reference : List Cond := .code yX9_reference cX9_reference 2 (some (.object "HeaderLine$Header")) :: ([.fieldLink RX9 21 "HeaderLine$Squeezer" "ring" "[LHeaderLine$Header;", .fieldLink RX9 32 "HeaderLine$Squeezer" "first" "I", .methodLink RX9 36 yJ9_floorMod_7cf53, .static yJ9_floorMod_7cf53, .initialized RJ9, .code yJ9_floorMod_7cf53 cJ9_floorMod_7cf53 3 (some .int)] ++ wsX90)
def wsX9_oldestNumber : List Cond := .code yX9_oldestNumber cX9_oldestNumber 1 (some .int) :: ([.fieldLink RX9 42 "HeaderLine$Squeezer" "held" "I", .fieldLink RX9 49 "HeaderLine$Header" "number" "I", .methodLink RX9 45 yX9_reference, .instanceMethod yX9_reference, .selects RX9 yX9_reference yX9_reference, .initialized RX9, .code yX9_reference cX9_reference 2 (some (.object "HeaderLine$Header")), .fieldLink RX9 21 "HeaderLine$Squeezer" "ring" "[LHeaderLine$Header;", .fieldLink RX9 32 "HeaderLine$Squeezer" "first" "I", .methodLink RX9 36 yJ9_floorMod_7cf53, .static yJ9_floorMod_7cf53, .initialized RJ9, .code yJ9_floorMod_7cf53 cJ9_floorMod_7cf53 3 (some .int)] ++ wsX90 ++ wsX30)
def wsX9_oldestMiss_r1 : List Cond := [Cond.fieldLink RX9 73 "HeaderLine$Header" "values" "[J", Cond.fieldLink RX9 42 "HeaderLine$Squeezer" "held" "I", Cond.fieldLink RX9 9 "HeaderLine$Squeezer" "strides" "[I", Cond.fieldLink RX9 49 "HeaderLine$Header" "number" "I", Cond.methodLink RX9 45 yX9_reference, Cond.instanceMethod yX9_reference, Cond.selects RX9 yX9_reference yX9_reference, Cond.initialized RX9, Cond.code yX9_reference cX9_reference 2 (some (.object "HeaderLine$Header")), Cond.fieldLink RX9 21 "HeaderLine$Squeezer" "ring" "[LHeaderLine$Header;", Cond.fieldLink RX9 32 "HeaderLine$Squeezer" "first" "I", Cond.methodLink RX9 36 yJ9_floorMod_7cf53, Cond.static yJ9_floorMod_7cf53, Cond.initialized RJ9, Cond.code yJ9_floorMod_7cf53 cJ9_floorMod_7cf53 3 (some .int), Cond.methodLink RX9 121 yX6_given, Cond.instanceMethod yX6_given, Cond.selects RX6 yX6_given yX6_given, Cond.initialized RX6, Cond.code yX6_given cX6_given 7 (some .long), Cond.fieldLink RX6 49 "HeaderLine$Header" "number" "I", Cond.fieldLink RX6 9 "HeaderLine$Plan" "kinds" "[I", Cond.fieldLink RX6 43 "HeaderLine$Header" "values" "[J", Cond.fieldLink RX6 18 "HeaderLine$Plan" "ties" "[I"]
def wsX9_oldestMiss_r2 : List Cond := [Cond.fieldLink RX6 21 "HeaderLine$Plan" "extras" "[I", Cond.methodLink RX6 52 yX6_lowBits, Cond.instanceMethod yX6_lowBits, Cond.selects RX6 yX6_lowBits yX6_lowBits, Cond.code yX6_lowBits cX6_lowBits 4 (some .long), Cond.fieldLink RX6 15 "HeaderLine$Plan" "widths" "[I", Cond.static yX10_lowest, Cond.initialized RX10, Cond.code yX10_lowest cX10_lowest 3 (some .long), Cond.methodLink RX9 125 yX6_found, Cond.instanceMethod yX6_found, Cond.selects RX6 yX6_found yX6_found, Cond.code yX6_found cX6_found 9 (some .long)]
def wsX9_oldestMiss : List Cond := .code yX9_oldestMiss cX9_oldestMiss 10 (some .int) :: ((wsX9_oldestMiss_r1 ++ wsX9_oldestMiss_r2) ++ wsX30 ++ wsX90 ++ wsX60)
def wsX9_isGivenByAll_r1 : List Cond := [Cond.methodLink RX9 117 yX9_oldestMiss, Cond.instanceMethod yX9_oldestMiss, Cond.selects RX9 yX9_oldestMiss yX9_oldestMiss, Cond.initialized RX9, Cond.code yX9_oldestMiss cX9_oldestMiss 10 (some .int), Cond.fieldLink RX9 73 "HeaderLine$Header" "values" "[J", Cond.fieldLink RX9 42 "HeaderLine$Squeezer" "held" "I", Cond.fieldLink RX9 9 "HeaderLine$Squeezer" "strides" "[I", Cond.fieldLink RX9 49 "HeaderLine$Header" "number" "I", Cond.methodLink RX9 45 yX9_reference, Cond.instanceMethod yX9_reference, Cond.selects RX9 yX9_reference yX9_reference, Cond.code yX9_reference cX9_reference 2 (some (.object "HeaderLine$Header")), Cond.fieldLink RX9 21 "HeaderLine$Squeezer" "ring" "[LHeaderLine$Header;", Cond.fieldLink RX9 32 "HeaderLine$Squeezer" "first" "I", Cond.methodLink RX9 36 yJ9_floorMod_7cf53, Cond.static yJ9_floorMod_7cf53, Cond.initialized RJ9, Cond.code yJ9_floorMod_7cf53 cJ9_floorMod_7cf53 3 (some .int), Cond.methodLink RX9 121 yX6_given, Cond.instanceMethod yX6_given, Cond.selects RX6 yX6_given yX6_given, Cond.initialized RX6, Cond.code yX6_given cX6_given 7 (some .long)]
def wsX9_isGivenByAll_r2 : List Cond := [Cond.fieldLink RX6 49 "HeaderLine$Header" "number" "I", Cond.fieldLink RX6 9 "HeaderLine$Plan" "kinds" "[I", Cond.fieldLink RX6 43 "HeaderLine$Header" "values" "[J", Cond.fieldLink RX6 18 "HeaderLine$Plan" "ties" "[I", Cond.fieldLink RX6 21 "HeaderLine$Plan" "extras" "[I", Cond.methodLink RX6 52 yX6_lowBits, Cond.instanceMethod yX6_lowBits, Cond.selects RX6 yX6_lowBits yX6_lowBits, Cond.code yX6_lowBits cX6_lowBits 4 (some .long), Cond.fieldLink RX6 15 "HeaderLine$Plan" "widths" "[I", Cond.static yX10_lowest, Cond.initialized RX10, Cond.code yX10_lowest cX10_lowest 3 (some .long), Cond.methodLink RX9 125 yX6_found, Cond.instanceMethod yX6_found, Cond.selects RX6 yX6_found yX6_found, Cond.code yX6_found cX6_found 9 (some .long)]
def wsX9_isGivenByAll : List Cond := .code yX9_isGivenByAll cX9_isGivenByAll 4 (some .boolean) :: ((wsX9_isGivenByAll_r1 ++ wsX9_isGivenByAll_r2) ++ wsX30 ++ wsX90 ++ wsX60)
def wsX9_kindFor_r1 : List Cond := [Cond.fieldLink RX9 15 "HeaderLine$Squeezer" "owes" "Z", Cond.fieldLink RX9 42 "HeaderLine$Squeezer" "held" "I", Cond.fieldLink RX9 52 "HeaderLine$Plan" "size" "I", Cond.fieldLink RX9 57 "HeaderLine$Plan" "kinds" "[I", Cond.methodLink RX9 60 yX9_isGivenByAll, Cond.instanceMethod yX9_isGivenByAll, Cond.selects RX9 yX9_isGivenByAll yX9_isGivenByAll, Cond.initialized RX9, Cond.code yX9_isGivenByAll cX9_isGivenByAll 4 (some .boolean), Cond.methodLink RX9 117 yX9_oldestMiss, Cond.instanceMethod yX9_oldestMiss, Cond.selects RX9 yX9_oldestMiss yX9_oldestMiss, Cond.code yX9_oldestMiss cX9_oldestMiss 10 (some .int), Cond.fieldLink RX9 73 "HeaderLine$Header" "values" "[J", Cond.fieldLink RX9 9 "HeaderLine$Squeezer" "strides" "[I", Cond.fieldLink RX9 49 "HeaderLine$Header" "number" "I", Cond.methodLink RX9 45 yX9_reference, Cond.instanceMethod yX9_reference, Cond.selects RX9 yX9_reference yX9_reference, Cond.code yX9_reference cX9_reference 2 (some (.object "HeaderLine$Header")), Cond.fieldLink RX9 21 "HeaderLine$Squeezer" "ring" "[LHeaderLine$Header;", Cond.fieldLink RX9 32 "HeaderLine$Squeezer" "first" "I", Cond.methodLink RX9 36 yJ9_floorMod_7cf53, Cond.static yJ9_floorMod_7cf53]
def wsX9_kindFor_r2 : List Cond := [Cond.initialized RJ9, Cond.code yJ9_floorMod_7cf53 cJ9_floorMod_7cf53 3 (some .int), Cond.methodLink RX9 121 yX6_given, Cond.instanceMethod yX6_given, Cond.selects RX6 yX6_given yX6_given, Cond.initialized RX6, Cond.code yX6_given cX6_given 7 (some .long), Cond.fieldLink RX6 49 "HeaderLine$Header" "number" "I", Cond.fieldLink RX6 9 "HeaderLine$Plan" "kinds" "[I", Cond.fieldLink RX6 43 "HeaderLine$Header" "values" "[J", Cond.fieldLink RX6 18 "HeaderLine$Plan" "ties" "[I", Cond.fieldLink RX6 21 "HeaderLine$Plan" "extras" "[I", Cond.methodLink RX6 52 yX6_lowBits, Cond.instanceMethod yX6_lowBits, Cond.selects RX6 yX6_lowBits yX6_lowBits, Cond.code yX6_lowBits cX6_lowBits 4 (some .long), Cond.fieldLink RX6 15 "HeaderLine$Plan" "widths" "[I", Cond.static yX10_lowest, Cond.initialized RX10, Cond.code yX10_lowest cX10_lowest 3 (some .long), Cond.methodLink RX9 125 yX6_found, Cond.instanceMethod yX6_found, Cond.selects RX6 yX6_found yX6_found, Cond.code yX6_found cX6_found 9 (some .long)]
def wsX9_kindFor : List Cond := .code yX9_kindFor cX9_kindFor 6 (some .int) :: ((wsX9_kindFor_r1 ++ wsX9_kindFor_r2) ++ wsX90 ++ wsX60 ++ wsX30)
def wsX9_beginRound : List Cond := .code yX9_beginRound cX9_beginRound 1 none :: ([.fieldLink RX9 64 "HeaderLine$Squeezer" "round" "I", .fieldLink RX9 42 "HeaderLine$Squeezer" "held" "I", .fieldLink RX9 15 "HeaderLine$Squeezer" "owes" "Z"] ++ wsX90)
def wsX9_writeWhole_r1 : List Cond := [Cond.fieldLink RX9 64 "HeaderLine$Squeezer" "round" "I", Cond.fieldLink RX9 52 "HeaderLine$Plan" "size" "I", Cond.fieldLink RX9 73 "HeaderLine$Header" "values" "[J", Cond.fieldLink RX9 77 "HeaderLine$Plan" "widths" "[I", Cond.fieldLink RX9 9 "HeaderLine$Squeezer" "strides" "[I", Cond.methodLink RX9 67 yX5_write, Cond.instanceMethod yX5_write, Cond.selects RX5 yX5_write yX5_write, Cond.initialized RX5, Cond.code yX5_write cX5_write 6 none, Cond.fieldLink RX5 21 "HeaderLine$Pen" "bits" "I", Cond.fieldLink RX5 9 "HeaderLine$Pen" "bytes" "[I", Cond.static yX10_wholeBytes, Cond.initialized RX10, Cond.code yX10_wholeBytes cX10_wholeBytes 1 (some .int), Cond.methodLink RX9 80 yX6_hasStride, Cond.instanceMethod yX6_hasStride, Cond.selects RX6 yX6_hasStride yX6_hasStride, Cond.initialized RX6, Cond.code yX6_hasStride cX6_hasStride 2 (some .boolean), Cond.fieldLink RX6 9 "HeaderLine$Plan" "kinds" "[I", Cond.methodLink RX6 24 yX6_has, Cond.instanceMethod yX6_has, Cond.selects RX6 yX6_has yX6_has]
def wsX9_writeWhole_r2 : List Cond := [Cond.code yX6_has cX6_has 2 (some .boolean), Cond.fieldLink RX6 28 "HeaderLine$Plan" "size" "I"]
def wsX9_writeWhole : List Cond := .code yX9_writeWhole cX9_writeWhole 5 none :: ((wsX9_writeWhole_r1 ++ wsX9_writeWhole_r2) ++ wsX90 ++ wsX60 ++ wsX30 ++ wsX50)
def wsX9_writePart_r1 : List Cond := [Cond.fieldLink RX9 64 "HeaderLine$Squeezer" "round" "I", Cond.fieldLink RX9 52 "HeaderLine$Plan" "size" "I", Cond.fieldLink RX9 57 "HeaderLine$Plan" "kinds" "[I", Cond.fieldLink RX9 73 "HeaderLine$Header" "values" "[J", Cond.fieldLink RX9 77 "HeaderLine$Plan" "widths" "[I", Cond.methodLink RX9 67 yX5_write, Cond.instanceMethod yX5_write, Cond.selects RX5 yX5_write yX5_write, Cond.initialized RX5, Cond.code yX5_write cX5_write 6 none, Cond.fieldLink RX5 21 "HeaderLine$Pen" "bits" "I", Cond.fieldLink RX5 9 "HeaderLine$Pen" "bytes" "[I", Cond.static yX10_wholeBytes, Cond.initialized RX10, Cond.code yX10_wholeBytes cX10_wholeBytes 1 (some .int), Cond.methodLink RX9 60 yX9_isGivenByAll, Cond.instanceMethod yX9_isGivenByAll, Cond.selects RX9 yX9_isGivenByAll yX9_isGivenByAll, Cond.initialized RX9, Cond.code yX9_isGivenByAll cX9_isGivenByAll 4 (some .boolean), Cond.methodLink RX9 117 yX9_oldestMiss, Cond.instanceMethod yX9_oldestMiss, Cond.selects RX9 yX9_oldestMiss yX9_oldestMiss, Cond.code yX9_oldestMiss cX9_oldestMiss 10 (some .int)]
def wsX9_writePart_r2 : List Cond := [Cond.fieldLink RX9 42 "HeaderLine$Squeezer" "held" "I", Cond.fieldLink RX9 9 "HeaderLine$Squeezer" "strides" "[I", Cond.fieldLink RX9 49 "HeaderLine$Header" "number" "I", Cond.methodLink RX9 45 yX9_reference, Cond.instanceMethod yX9_reference, Cond.selects RX9 yX9_reference yX9_reference, Cond.code yX9_reference cX9_reference 2 (some (.object "HeaderLine$Header")), Cond.fieldLink RX9 21 "HeaderLine$Squeezer" "ring" "[LHeaderLine$Header;", Cond.fieldLink RX9 32 "HeaderLine$Squeezer" "first" "I", Cond.methodLink RX9 36 yJ9_floorMod_7cf53, Cond.static yJ9_floorMod_7cf53, Cond.initialized RJ9, Cond.code yJ9_floorMod_7cf53 cJ9_floorMod_7cf53 3 (some .int), Cond.methodLink RX9 121 yX6_given, Cond.instanceMethod yX6_given, Cond.selects RX6 yX6_given yX6_given, Cond.initialized RX6, Cond.code yX6_given cX6_given 7 (some .long), Cond.fieldLink RX6 49 "HeaderLine$Header" "number" "I", Cond.fieldLink RX6 9 "HeaderLine$Plan" "kinds" "[I", Cond.fieldLink RX6 43 "HeaderLine$Header" "values" "[J", Cond.fieldLink RX6 18 "HeaderLine$Plan" "ties" "[I", Cond.fieldLink RX6 21 "HeaderLine$Plan" "extras" "[I", Cond.methodLink RX6 52 yX6_lowBits]
def wsX9_writePart_r3 : List Cond := [Cond.instanceMethod yX6_lowBits, Cond.selects RX6 yX6_lowBits yX6_lowBits, Cond.code yX6_lowBits cX6_lowBits 4 (some .long), Cond.fieldLink RX6 15 "HeaderLine$Plan" "widths" "[I", Cond.static yX10_lowest, Cond.code yX10_lowest cX10_lowest 3 (some .long), Cond.methodLink RX9 125 yX6_found, Cond.instanceMethod yX6_found, Cond.selects RX6 yX6_found yX6_found, Cond.code yX6_found cX6_found 9 (some .long), Cond.methodLink RX9 84 yX6_sumOf, Cond.instanceMethod yX6_sumOf, Cond.selects RX6 yX6_sumOf yX6_sumOf, Cond.code yX6_sumOf cX6_sumOf 5 (some .int), Cond.constantLong RX6 39 (17), Cond.fieldLink RX6 28 "HeaderLine$Plan" "size" "I", Cond.constantLong RX6 41 (31)]
def wsX9_writePart : List Cond := .code yX9_writePart cX9_writePart 7 none :: ((wsX9_writePart_r1 ++ (wsX9_writePart_r2 ++ wsX9_writePart_r3)) ++ wsX90 ++ wsX60 ++ wsX30 ++ wsX50)
def wsX9_findLeast_r1 : List Cond := [Cond.fieldLink RX9 77 "HeaderLine$Plan" "widths" "[I", Cond.fieldLink RX9 104 "HeaderLine$Proof" "lengths" "[I", Cond.fieldLink RX9 129 "HeaderLine$Proof" "misses" "[I", Cond.methodLink RX9 117 yX9_oldestMiss, Cond.instanceMethod yX9_oldestMiss, Cond.selects RX9 yX9_oldestMiss yX9_oldestMiss, Cond.initialized RX9, Cond.code yX9_oldestMiss cX9_oldestMiss 10 (some .int), Cond.fieldLink RX9 73 "HeaderLine$Header" "values" "[J", Cond.fieldLink RX9 42 "HeaderLine$Squeezer" "held" "I", Cond.fieldLink RX9 9 "HeaderLine$Squeezer" "strides" "[I", Cond.fieldLink RX9 49 "HeaderLine$Header" "number" "I", Cond.methodLink RX9 45 yX9_reference, Cond.instanceMethod yX9_reference, Cond.selects RX9 yX9_reference yX9_reference, Cond.code yX9_reference cX9_reference 2 (some (.object "HeaderLine$Header")), Cond.fieldLink RX9 21 "HeaderLine$Squeezer" "ring" "[LHeaderLine$Header;", Cond.fieldLink RX9 32 "HeaderLine$Squeezer" "first" "I", Cond.methodLink RX9 36 yJ9_floorMod_7cf53, Cond.static yJ9_floorMod_7cf53, Cond.initialized RJ9, Cond.code yJ9_floorMod_7cf53 cJ9_floorMod_7cf53 3 (some .int), Cond.methodLink RX9 121 yX6_given, Cond.instanceMethod yX6_given]
def wsX9_findLeast_r2 : List Cond := [Cond.selects RX6 yX6_given yX6_given, Cond.initialized RX6, Cond.code yX6_given cX6_given 7 (some .long), Cond.fieldLink RX6 49 "HeaderLine$Header" "number" "I", Cond.fieldLink RX6 9 "HeaderLine$Plan" "kinds" "[I", Cond.fieldLink RX6 43 "HeaderLine$Header" "values" "[J", Cond.fieldLink RX6 18 "HeaderLine$Plan" "ties" "[I", Cond.fieldLink RX6 21 "HeaderLine$Plan" "extras" "[I", Cond.methodLink RX6 52 yX6_lowBits, Cond.instanceMethod yX6_lowBits, Cond.selects RX6 yX6_lowBits yX6_lowBits, Cond.code yX6_lowBits cX6_lowBits 4 (some .long), Cond.fieldLink RX6 15 "HeaderLine$Plan" "widths" "[I", Cond.static yX10_lowest, Cond.initialized RX10, Cond.code yX10_lowest cX10_lowest 3 (some .long), Cond.methodLink RX9 125 yX6_found, Cond.instanceMethod yX6_found, Cond.selects RX6 yX6_found yX6_found, Cond.code yX6_found cX6_found 9 (some .long)]
def wsX9_findLeast : List Cond := .code yX9_findLeast cX9_findLeast 7 none :: ((wsX9_findLeast_r1 ++ wsX9_findLeast_r2) ++ wsX60 ++ wsX70 ++ wsX30 ++ wsX90)
def wsX9_writeShort_r1 : List Cond := [Cond.fieldLink RX9 42 "HeaderLine$Squeezer" "held" "I", Cond.fieldLink RX9 88 "HeaderLine$Proof" "references" "I", Cond.fieldLink RX9 97 "HeaderLine$Proof" "oldest" "I", Cond.fieldLink RX9 64 "HeaderLine$Squeezer" "round" "I", Cond.fieldLink RX9 52 "HeaderLine$Plan" "size" "I", Cond.fieldLink RX9 104 "HeaderLine$Proof" "lengths" "[I", Cond.fieldLink RX9 73 "HeaderLine$Header" "values" "[J", Cond.fieldLink RX9 57 "HeaderLine$Plan" "kinds" "[I", Cond.fieldLink RX9 77 "HeaderLine$Plan" "widths" "[I", Cond.methodLink RX9 93 yX9_oldestNumber, Cond.instanceMethod yX9_oldestNumber, Cond.selects RX9 yX9_oldestNumber yX9_oldestNumber, Cond.initialized RX9, Cond.code yX9_oldestNumber cX9_oldestNumber 1 (some .int), Cond.fieldLink RX9 49 "HeaderLine$Header" "number" "I", Cond.methodLink RX9 45 yX9_reference, Cond.instanceMethod yX9_reference, Cond.selects RX9 yX9_reference yX9_reference, Cond.code yX9_reference cX9_reference 2 (some (.object "HeaderLine$Header")), Cond.fieldLink RX9 21 "HeaderLine$Squeezer" "ring" "[LHeaderLine$Header;", Cond.fieldLink RX9 32 "HeaderLine$Squeezer" "first" "I", Cond.methodLink RX9 36 yJ9_floorMod_7cf53, Cond.static yJ9_floorMod_7cf53, Cond.initialized RJ9]
def wsX9_writeShort_r2 : List Cond := [Cond.code yJ9_floorMod_7cf53 cJ9_floorMod_7cf53 3 (some .int), Cond.methodLink RX9 67 yX5_write, Cond.instanceMethod yX5_write, Cond.selects RX5 yX5_write yX5_write, Cond.initialized RX5, Cond.code yX5_write cX5_write 6 none, Cond.fieldLink RX5 21 "HeaderLine$Pen" "bits" "I", Cond.fieldLink RX5 9 "HeaderLine$Pen" "bytes" "[I", Cond.static yX10_wholeBytes, Cond.initialized RX10, Cond.code yX10_wholeBytes cX10_wholeBytes 1 (some .int), Cond.methodLink RX9 80 yX6_hasStride, Cond.instanceMethod yX6_hasStride, Cond.selects RX6 yX6_hasStride yX6_hasStride, Cond.initialized RX6, Cond.code yX6_hasStride cX6_hasStride 2 (some .boolean), Cond.fieldLink RX6 9 "HeaderLine$Plan" "kinds" "[I", Cond.methodLink RX6 24 yX6_has, Cond.instanceMethod yX6_has, Cond.selects RX6 yX6_has yX6_has, Cond.code yX6_has cX6_has 2 (some .boolean), Cond.fieldLink RX6 28 "HeaderLine$Plan" "size" "I", Cond.methodLink RX9 100 yX9_findLeast, Cond.instanceMethod yX9_findLeast]
def wsX9_writeShort_r3 : List Cond := [Cond.selects RX9 yX9_findLeast yX9_findLeast, Cond.code yX9_findLeast cX9_findLeast 7 none, Cond.fieldLink RX9 129 "HeaderLine$Proof" "misses" "[I", Cond.methodLink RX9 117 yX9_oldestMiss, Cond.instanceMethod yX9_oldestMiss, Cond.selects RX9 yX9_oldestMiss yX9_oldestMiss, Cond.code yX9_oldestMiss cX9_oldestMiss 10 (some .int), Cond.fieldLink RX9 9 "HeaderLine$Squeezer" "strides" "[I", Cond.methodLink RX9 121 yX6_given, Cond.instanceMethod yX6_given, Cond.selects RX6 yX6_given yX6_given, Cond.code yX6_given cX6_given 7 (some .long), Cond.fieldLink RX6 49 "HeaderLine$Header" "number" "I", Cond.fieldLink RX6 43 "HeaderLine$Header" "values" "[J", Cond.fieldLink RX6 18 "HeaderLine$Plan" "ties" "[I", Cond.fieldLink RX6 21 "HeaderLine$Plan" "extras" "[I", Cond.methodLink RX6 52 yX6_lowBits, Cond.instanceMethod yX6_lowBits, Cond.selects RX6 yX6_lowBits yX6_lowBits, Cond.code yX6_lowBits cX6_lowBits 4 (some .long), Cond.fieldLink RX6 15 "HeaderLine$Plan" "widths" "[I", Cond.static yX10_lowest, Cond.code yX10_lowest cX10_lowest 3 (some .long), Cond.methodLink RX9 125 yX6_found]
def wsX9_writeShort_r4 : List Cond := [Cond.instanceMethod yX6_found, Cond.selects RX6 yX6_found yX6_found, Cond.code yX6_found cX6_found 9 (some .long), Cond.methodLink RX9 84 yX6_sumOf, Cond.instanceMethod yX6_sumOf, Cond.selects RX6 yX6_sumOf yX6_sumOf, Cond.code yX6_sumOf cX6_sumOf 5 (some .int), Cond.constantLong RX6 39 (17), Cond.constantLong RX6 41 (31)]
def wsX9_writeShort : List Cond := .code yX9_writeShort cX9_writeShort 6 none :: ((wsX9_writeShort_r1 ++ (wsX9_writeShort_r2 ++ (wsX9_writeShort_r3 ++ wsX9_writeShort_r4))) ++ wsX90 ++ wsX70 ++ wsX60 ++ wsX30 ++ wsX50)
def wsX9_dropOldest : List Cond := .code yX9_dropOldest cX9_dropOldest 2 none :: ([.fieldLink RX9 32 "HeaderLine$Squeezer" "first" "I", .fieldLink RX9 42 "HeaderLine$Squeezer" "held" "I", .methodLink RX9 36 yJ9_floorMod_7cf53, .static yJ9_floorMod_7cf53, .initialized RJ9, .code yJ9_floorMod_7cf53 cJ9_floorMod_7cf53 3 (some .int)] ++ wsX90)
def wsX9_remember_r1 : List Cond := [Cond.fieldLink RX9 42 "HeaderLine$Squeezer" "held" "I", Cond.fieldLink RX9 115 "HeaderLine$Squeezer" "number" "I", Cond.methodLink RX9 107 yX9_dropOldest, Cond.instanceMethod yX9_dropOldest, Cond.selects RX9 yX9_dropOldest yX9_dropOldest, Cond.initialized RX9, Cond.code yX9_dropOldest cX9_dropOldest 2 none, Cond.fieldLink RX9 32 "HeaderLine$Squeezer" "first" "I", Cond.methodLink RX9 36 yJ9_floorMod_7cf53, Cond.static yJ9_floorMod_7cf53, Cond.initialized RJ9, Cond.code yJ9_floorMod_7cf53 cJ9_floorMod_7cf53 3 (some .int), Cond.methodLink RX9 45 yX9_reference, Cond.instanceMethod yX9_reference, Cond.selects RX9 yX9_reference yX9_reference, Cond.code yX9_reference cX9_reference 2 (some (.object "HeaderLine$Header")), Cond.fieldLink RX9 21 "HeaderLine$Squeezer" "ring" "[LHeaderLine$Header;", Cond.methodLink RX9 111 yX3_become, Cond.instanceMethod yX3_become, Cond.selects RX3 yX3_become yX3_become, Cond.initialized RX3, Cond.code yX3_become cX3_become 2 none, Cond.fieldLink RX3 9 "HeaderLine$Header" "values" "[J", Cond.methodLink RX3 15 arraycopyName]
def wsX9_remember_r2 : List Cond := [Cond.native arraycopyName, Cond.static arraycopyName, Cond.initialized "java/lang/System", Cond.fieldLink RX3 21 "HeaderLine$Header" "number" "I"]
def wsX9_remember : List Cond := .code yX9_remember cX9_remember 3 none :: ((wsX9_remember_r1 ++ wsX9_remember_r2) ++ wsX90 ++ wsX30)
def wsX9_heed : List Cond := .code yX9_heed cX9_heed 4 (some .int) :: ([.fieldLink RX9 15 "HeaderLine$Squeezer" "owes" "Z", .fieldLink RX9 42 "HeaderLine$Squeezer" "held" "I", .fieldLink RX9 49 "HeaderLine$Header" "number" "I", .constant RX9 116 (65536), .methodLink RX9 45 yX9_reference, .instanceMethod yX9_reference, .selects RX9 yX9_reference yX9_reference, .initialized RX9, .code yX9_reference cX9_reference 2 (some (.object "HeaderLine$Header")), .fieldLink RX9 21 "HeaderLine$Squeezer" "ring" "[LHeaderLine$Header;", .fieldLink RX9 32 "HeaderLine$Squeezer" "first" "I", .methodLink RX9 36 yJ9_floorMod_7cf53, .static yJ9_floorMod_7cf53, .initialized RJ9, .code yJ9_floorMod_7cf53 cJ9_floorMod_7cf53 3 (some .int), .methodLink RX9 107 yX9_dropOldest, .instanceMethod yX9_dropOldest, .selects RX9 yX9_dropOldest yX9_dropOldest, .code yX9_dropOldest cX9_dropOldest 2 none] ++ wsX90 ++ wsX30)
def wsX10_init_r1 : List Cond := [Cond.methodLink RX10 1 objectInit, Cond.instanceMethod objectInit, Cond.code objectInit ⟨#[0xb1]⟩ 1 none, Cond.fieldLink RX10 15 "HeaderLine" "window" "I", Cond.classLink RX10 19 RX6, Cond.instantiable RX6 5, Cond.initialized RX6, Cond.fieldLink RX10 22 "HeaderLine" "plan" "LHeaderLine$Plan;", Cond.classLink RX10 26 RX3, Cond.instantiable RX3 2, Cond.initialized RX3, Cond.fieldLink RX10 29 "HeaderLine" "draft" "LHeaderLine$Header;", Cond.classLink RX10 33 RX9, Cond.fieldLink RX10 35 "HeaderLine" "squeezers" "[LHeaderLine$Squeezer;", Cond.classLink RX10 39 RX1, Cond.fieldLink RX10 41 "HeaderLine" "contexts" "[LHeaderLine$Context;", Cond.instantiable RX9 7, Cond.initialized RX9, Cond.instantiable RX1 4, Cond.initialized RX1, Cond.classLink RX10 47 RX4, Cond.fieldLink RX10 49 "HeaderLine" "letters" "[LHeaderLine$Letter;", Cond.classLink RX10 53 RX8, Cond.fieldLink RX10 55 "HeaderLine" "shelves" "[LHeaderLine$Shelf;"]
def wsX10_init_r2 : List Cond := [Cond.instantiable RX8 5, Cond.initialized RX8, Cond.classLink RX10 60 RX5, Cond.instantiable RX5 2, Cond.initialized RX5, Cond.fieldLink RX10 63 "HeaderLine" "pen" "LHeaderLine$Pen;", Cond.classLink RX10 67 RX0, Cond.instantiable RX0 12, Cond.initialized RX0, Cond.fieldLink RX10 70 "HeaderLine" "arrival" "LHeaderLine$Arrival;", Cond.classLink RX10 74 RX2, Cond.instantiable RX2 5, Cond.initialized RX2, Cond.fieldLink RX10 77 "HeaderLine" "latest" "LHeaderLine$Got;", Cond.methodLink RX10 9 yJ9_floorMod_7cf53, Cond.static yJ9_floorMod_7cf53, Cond.initialized RJ9, Cond.code yJ9_floorMod_7cf53 cJ9_floorMod_7cf53 3 (some .int), Cond.instanceMethod yX6_init, Cond.code yX6_init cX6_init 1 none, Cond.methodLink RX6 3 objectInit, Cond.arrayClass .int, Cond.fieldLink RX6 9 "HeaderLine$Plan" "kinds" "[I", Cond.fieldLink RX6 15 "HeaderLine$Plan" "widths" "[I"]
def wsX10_init_r3 : List Cond := [Cond.fieldLink RX6 18 "HeaderLine$Plan" "ties" "[I", Cond.fieldLink RX6 21 "HeaderLine$Plan" "extras" "[I", Cond.instanceMethod yX3_init, Cond.code yX3_init cX3_init 1 none, Cond.methodLink RX3 3 objectInit, Cond.arrayClass .long, Cond.fieldLink RX3 9 "HeaderLine$Header" "values" "[J", Cond.methodLink RX10 45 yX9_init, Cond.instanceMethod yX9_init, Cond.code yX9_init cX9_init 2 none, Cond.methodLink RX9 3 objectInit, Cond.fieldLink RX9 9 "HeaderLine$Squeezer" "strides" "[I", Cond.fieldLink RX9 15 "HeaderLine$Squeezer" "owes" "Z", Cond.classLink RX9 19 RX3, Cond.fieldLink RX9 21 "HeaderLine$Squeezer" "ring" "[LHeaderLine$Header;", Cond.methodLink RX9 25 yJ7_fill_53178, Cond.static yJ7_fill_53178, Cond.initialized RJ7, Cond.code yJ7_fill_53178 cJ7_fill_53178 4 none, Cond.instanceMethod yX1_init, Cond.code yX1_init cX1_init 1 none, Cond.methodLink RX1 3 objectInit, Cond.classLink RX1 9 RX3, Cond.fieldLink RX1 12 "HeaderLine$Context" "header" "LHeaderLine$Header;"]
def wsX10_init_r4 : List Cond := [Cond.fieldLink RX1 18 "HeaderLine$Context" "strides" "[I", Cond.instanceMethod yX8_init, Cond.code yX8_init cX8_init 1 none, Cond.methodLink RX8 3 objectInit, Cond.fieldLink RX8 9 "HeaderLine$Shelf" "row" "[J", Cond.instanceMethod yX5_init, Cond.code yX5_init cX5_init 1 none, Cond.methodLink RX5 3 objectInit, Cond.fieldLink RX5 9 "HeaderLine$Pen" "bytes" "[I", Cond.instanceMethod yX0_init, Cond.code yX0_init cX0_init 1 none, Cond.methodLink RX0 3 objectInit, Cond.classLink RX0 9 RX3, Cond.fieldLink RX0 12 "HeaderLine$Arrival" "header" "LHeaderLine$Header;", Cond.fieldLink RX0 18 "HeaderLine$Arrival" "strides" "[I", Cond.fieldLink RX0 22 "HeaderLine$Arrival" "ways" "[I", Cond.fieldLink RX0 25 "HeaderLine$Arrival" "lengths" "[I", Cond.fieldLink RX0 28 "HeaderLine$Arrival" "told" "[J", Cond.fieldLink RX0 32 "HeaderLine$Arrival" "bytes" "[I", Cond.instanceMethod yX2_init, Cond.code yX2_init cX2_init 1 none, Cond.methodLink RX2 3 objectInit, Cond.classLink RX2 9 RX3, Cond.fieldLink RX2 12 "HeaderLine$Got" "header" "LHeaderLine$Header;"]
def wsX10_init_r5 : List Cond := [Cond.fieldLink RX2 18 "HeaderLine$Got" "ways" "[I"]
def wsX10_init : List Cond := .code yX10_init cX10_init 3 none :: ((wsX10_init_r1 ++ (wsX10_init_r2 ++ (wsX10_init_r3 ++ (wsX10_init_r4 ++ wsX10_init_r5)))) ++ wsX100 ++ wsX60 ++ wsX30 ++ wsX90 ++ wsX10 ++ wsX80 ++ wsX50 ++ wsX00 ++ wsX20)
def wsX10_field : List Cond := .code yX10_field cX10_field 5 (some .int) :: ([.fieldLink RX10 22 "HeaderLine" "plan" "LHeaderLine$Plan;", .fieldLink RX10 85 "HeaderLine$Plan" "size" "I", .fieldLink RX10 88 "HeaderLine" "letterCount" "I", .methodLink RX10 81 yX6_allows, .instanceMethod yX6_allows, .selects RX6 yX6_allows yX6_allows, .initialized RX6, .code yX6_allows cX6_allows 5 (some .boolean), .methodLink RX6 24 yX6_has, .instanceMethod yX6_has, .selects RX6 yX6_has yX6_has, .code yX6_has cX6_has 2 (some .boolean), .fieldLink RX6 28 "HeaderLine$Plan" "size" "I", .methodLink RX10 91 yX6_append, .instanceMethod yX6_append, .selects RX6 yX6_append yX6_append, .code yX6_append cX6_append 5 (some .int), .fieldLink RX6 9 "HeaderLine$Plan" "kinds" "[I", .fieldLink RX6 15 "HeaderLine$Plan" "widths" "[I", .fieldLink RX6 18 "HeaderLine$Plan" "ties" "[I", .fieldLink RX6 21 "HeaderLine$Plan" "extras" "[I"] ++ wsX100 ++ wsX60)
def wsX10_set : List Cond := .code yX10_set cX10_set 6 (some .long) :: ([.fieldLink RX10 22 "HeaderLine" "plan" "LHeaderLine$Plan;", .constantLong RX10 99 (-1), .fieldLink RX10 29 "HeaderLine" "draft" "LHeaderLine$Header;", .fieldLink RX10 101 "HeaderLine$Header" "values" "[J", .methodLink RX10 95 yX6_has, .instanceMethod yX6_has, .selects RX6 yX6_has yX6_has, .initialized RX6, .code yX6_has cX6_has 2 (some .boolean), .fieldLink RX6 28 "HeaderLine$Plan" "size" "I", .methodLink RX10 105 yX6_lowBits, .instanceMethod yX6_lowBits, .selects RX6 yX6_lowBits yX6_lowBits, .code yX6_lowBits cX6_lowBits 4 (some .long), .fieldLink RX6 15 "HeaderLine$Plan" "widths" "[I", .static yX10_lowest, .initialized RX10, .code yX10_lowest cX10_lowest 3 (some .long)] ++ wsX100 ++ wsX30 ++ wsX60)
def wsX10_isFlow : List Cond := .code yX10_isFlow cX10_isFlow 1 (some .boolean) :: ([])
def wsX10_stride : List Cond := .code yX10_stride cX10_stride 6 (some .int) :: ([.fieldLink RX10 22 "HeaderLine" "plan" "LHeaderLine$Plan;", .fieldLink RX10 35 "HeaderLine" "squeezers" "[LHeaderLine$Squeezer;", .fieldLink RX10 115 "HeaderLine$Squeezer" "strides" "[I", .fieldLink RX10 119 "HeaderLine$Squeezer" "owes" "Z", .methodLink RX10 109 yX10_isFlow, .static yX10_isFlow, .initialized RX10, .code yX10_isFlow cX10_isFlow 1 (some .boolean), .methodLink RX10 112 yX6_hasStride, .instanceMethod yX6_hasStride, .selects RX6 yX6_hasStride yX6_hasStride, .initialized RX6, .code yX6_hasStride cX6_hasStride 2 (some .boolean), .fieldLink RX6 9 "HeaderLine$Plan" "kinds" "[I", .methodLink RX6 24 yX6_has, .instanceMethod yX6_has, .selects RX6 yX6_has yX6_has, .code yX6_has cX6_has 2 (some .boolean), .fieldLink RX6 28 "HeaderLine$Plan" "size" "I"] ++ wsX100 ++ wsX90 ++ wsX60)
def wsX10_isLineFull : List Cond := .code yX10_isLineFull cX10_isLineFull 1 (some .boolean) :: ([.fieldLink RX10 88 "HeaderLine" "letterCount" "I"] ++ wsX100)
def wsX10_add : List Cond := .code yX10_add cX10_add 2 (some .int) :: ([.fieldLink RX10 49 "HeaderLine" "letters" "[LHeaderLine$Letter;", .fieldLink RX10 88 "HeaderLine" "letterCount" "I", .methodLink RX10 123 yX10_isLineFull, .instanceMethod yX10_isLineFull, .selects RX10 yX10_isLineFull yX10_isLineFull, .initialized RX10, .code yX10_isLineFull cX10_isLineFull 1 (some .boolean)] ++ wsX100)
def wsX10_addWritten_r1 : List Cond := [Cond.fieldLink RX10 63 "HeaderLine" "pen" "LHeaderLine$Pen;", Cond.classLink RX10 47 RX4, Cond.instantiable RX4 9, Cond.initialized RX4, Cond.constant RX10 327 (65536), Cond.fieldLink RX10 328 "HeaderLine$Pen" "bits" "I", Cond.fieldLink RX10 226 "HeaderLine$Letter" "proof" "LHeaderLine$Proof;", Cond.methodLink RX10 320 yX10_endsInCheck, Cond.static yX10_endsInCheck, Cond.initialized RX10, Cond.code yX10_endsInCheck cX10_endsInCheck 1 (some .boolean), Cond.methodLink RX10 323 yX5_finished, Cond.instanceMethod yX5_finished, Cond.selects RX5 yX5_finished yX5_finished, Cond.initialized RX5, Cond.code yX5_finished cX5_finished 4 (some (.array .int)), Cond.fieldLink RX5 21 "HeaderLine$Pen" "bits" "I", Cond.fieldLink RX5 9 "HeaderLine$Pen" "bytes" "[I", Cond.static yX10_wholeBytes, Cond.code yX10_wholeBytes cX10_wholeBytes 1 (some .int), Cond.methodLink RX5 33 yJ7_copyOf_59c91, Cond.static yJ7_copyOf_59c91, Cond.initialized RJ7, Cond.code yJ7_copyOf_59c91 cJ7_copyOf_59c91 3 (some (.array .int))]
def wsX10_addWritten_r2 : List Cond := [Cond.methodLink RJ7 316 ⟨"[I", "clone", "()Ljava/lang/Object;"⟩, Cond.sameMethod "[I" "java/lang/Object" "clone" "()Ljava/lang/Object;", Cond.native ⟨"java/lang/Object", "clone", "()Ljava/lang/Object;"⟩, Cond.instanceMethod ⟨"java/lang/Object", "clone", "()Ljava/lang/Object;"⟩, Cond.selects "[I" ⟨"[I", "clone", "()Ljava/lang/Object;"⟩ ⟨"java/lang/Object", "clone", "()Ljava/lang/Object;"⟩, Cond.classLink RJ7 317 "[I", Cond.arrayClass .int, Cond.methodLink RJ7 304 Lib.Math.min.name, Cond.static Lib.Math.min.name, Cond.initialized "java/lang/Math", Cond.code Lib.Math.min.name Lib.Math.min.code 2 (some .int), Cond.methodLink RJ7 150 arraycopyName, Cond.native arraycopyName, Cond.static arraycopyName, Cond.initialized "java/lang/System", Cond.static yX10_checkOf, Cond.code yX10_checkOf cX10_checkOf 4 (some .int), Cond.methodLink RX10 210 yX4_init, Cond.instanceMethod yX4_init, Cond.code yX4_init cX4_init 6 none, Cond.methodLink RX4 1 objectInit, Cond.instanceMethod objectInit, Cond.code objectInit ⟨#[0xb1]⟩ 1 none, Cond.fieldLink RX4 7 "HeaderLine$Letter" "outcome" "I"]
def wsX10_addWritten_r3 : List Cond := [Cond.fieldLink RX4 13 "HeaderLine$Letter" "kind" "I", Cond.fieldLink RX4 16 "HeaderLine$Letter" "flow" "I", Cond.fieldLink RX4 19 "HeaderLine$Letter" "number" "I", Cond.fieldLink RX4 22 "HeaderLine$Letter" "bytes" "[I", Cond.fieldLink RX4 26 "HeaderLine$Letter" "bits" "I", Cond.methodLink RX10 216 yX10_add, Cond.instanceMethod yX10_add, Cond.selects RX10 yX10_add yX10_add, Cond.code yX10_add cX10_add 2 (some .int), Cond.fieldLink RX10 49 "HeaderLine" "letters" "[LHeaderLine$Letter;", Cond.fieldLink RX10 88 "HeaderLine" "letterCount" "I", Cond.methodLink RX10 123 yX10_isLineFull, Cond.instanceMethod yX10_isLineFull, Cond.selects RX10 yX10_isLineFull yX10_isLineFull, Cond.code yX10_isLineFull cX10_isLineFull 1 (some .boolean)]
def wsX10_addWritten : List Cond := .code yX10_addWritten cX10_addWritten 7 (some .int) :: ((wsX10_addWritten_r1 ++ (wsX10_addWritten_r2 ++ wsX10_addWritten_r3)) ++ wsX100 ++ wsX40 ++ wsX50)
def wsX10_send_r1 : List Cond := [Cond.fieldLink RX10 22 "HeaderLine" "plan" "LHeaderLine$Plan;", Cond.fieldLink RX10 85 "HeaderLine$Plan" "size" "I", Cond.fieldLink RX10 35 "HeaderLine" "squeezers" "[LHeaderLine$Squeezer;", Cond.fieldLink RX10 29 "HeaderLine" "draft" "LHeaderLine$Header;", Cond.fieldLink RX10 127 "HeaderLine$Squeezer" "number" "I", Cond.fieldLink RX10 130 "HeaderLine$Header" "number" "I", Cond.fieldLink RX10 63 "HeaderLine" "pen" "LHeaderLine$Pen;", Cond.classLink RX10 149 RX7, Cond.instantiable RX7 4, Cond.initialized RX7, Cond.fieldLink RX10 15 "HeaderLine" "window" "I", Cond.methodLink RX10 109 yX10_isFlow, Cond.static yX10_isFlow, Cond.initialized RX10, Cond.code yX10_isFlow cX10_isFlow 1 (some .boolean), Cond.methodLink RX10 123 yX10_isLineFull, Cond.instanceMethod yX10_isLineFull, Cond.selects RX10 yX10_isLineFull yX10_isLineFull, Cond.code yX10_isLineFull cX10_isLineFull 1 (some .boolean), Cond.fieldLink RX10 88 "HeaderLine" "letterCount" "I", Cond.methodLink RX10 131 yX9_kindFor, Cond.instanceMethod yX9_kindFor, Cond.selects RX9 yX9_kindFor yX9_kindFor, Cond.initialized RX9]
def wsX10_send_r2 : List Cond := [Cond.code yX9_kindFor cX9_kindFor 6 (some .int), Cond.fieldLink RX9 15 "HeaderLine$Squeezer" "owes" "Z", Cond.fieldLink RX9 42 "HeaderLine$Squeezer" "held" "I", Cond.fieldLink RX9 52 "HeaderLine$Plan" "size" "I", Cond.fieldLink RX9 57 "HeaderLine$Plan" "kinds" "[I", Cond.methodLink RX9 60 yX9_isGivenByAll, Cond.instanceMethod yX9_isGivenByAll, Cond.selects RX9 yX9_isGivenByAll yX9_isGivenByAll, Cond.code yX9_isGivenByAll cX9_isGivenByAll 4 (some .boolean), Cond.methodLink RX9 117 yX9_oldestMiss, Cond.instanceMethod yX9_oldestMiss, Cond.selects RX9 yX9_oldestMiss yX9_oldestMiss, Cond.code yX9_oldestMiss cX9_oldestMiss 10 (some .int), Cond.fieldLink RX9 73 "HeaderLine$Header" "values" "[J", Cond.fieldLink RX9 9 "HeaderLine$Squeezer" "strides" "[I", Cond.fieldLink RX9 49 "HeaderLine$Header" "number" "I", Cond.methodLink RX9 45 yX9_reference, Cond.instanceMethod yX9_reference, Cond.selects RX9 yX9_reference yX9_reference, Cond.code yX9_reference cX9_reference 2 (some (.object "HeaderLine$Header")), Cond.fieldLink RX9 21 "HeaderLine$Squeezer" "ring" "[LHeaderLine$Header;", Cond.fieldLink RX9 32 "HeaderLine$Squeezer" "first" "I", Cond.methodLink RX9 36 yJ9_floorMod_7cf53, Cond.static yJ9_floorMod_7cf53]
def wsX10_send_r3 : List Cond := [Cond.initialized RJ9, Cond.code yJ9_floorMod_7cf53 cJ9_floorMod_7cf53 3 (some .int), Cond.methodLink RX9 121 yX6_given, Cond.instanceMethod yX6_given, Cond.selects RX6 yX6_given yX6_given, Cond.initialized RX6, Cond.code yX6_given cX6_given 7 (some .long), Cond.fieldLink RX6 49 "HeaderLine$Header" "number" "I", Cond.fieldLink RX6 9 "HeaderLine$Plan" "kinds" "[I", Cond.fieldLink RX6 43 "HeaderLine$Header" "values" "[J", Cond.fieldLink RX6 18 "HeaderLine$Plan" "ties" "[I", Cond.fieldLink RX6 21 "HeaderLine$Plan" "extras" "[I", Cond.methodLink RX6 52 yX6_lowBits, Cond.instanceMethod yX6_lowBits, Cond.selects RX6 yX6_lowBits yX6_lowBits, Cond.code yX6_lowBits cX6_lowBits 4 (some .long), Cond.fieldLink RX6 15 "HeaderLine$Plan" "widths" "[I", Cond.static yX10_lowest, Cond.code yX10_lowest cX10_lowest 3 (some .long), Cond.methodLink RX9 125 yX6_found, Cond.instanceMethod yX6_found, Cond.selects RX6 yX6_found yX6_found, Cond.code yX6_found cX6_found 9 (some .long), Cond.methodLink RX10 135 yX5_begin]
def wsX10_send_r4 : List Cond := [Cond.instanceMethod yX5_begin, Cond.selects RX5 yX5_begin yX5_begin, Cond.initialized RX5, Cond.code yX5_begin cX5_begin 4 none, Cond.fieldLink RX5 9 "HeaderLine$Pen" "bytes" "[I", Cond.fieldLink RX5 21 "HeaderLine$Pen" "bits" "I", Cond.methodLink RX5 15 yJ7_fill_53178, Cond.static yJ7_fill_53178, Cond.initialized RJ7, Cond.code yJ7_fill_53178 cJ7_fill_53178 4 none, Cond.methodLink RX5 25 yX5_write, Cond.instanceMethod yX5_write, Cond.selects RX5 yX5_write yX5_write, Cond.code yX5_write cX5_write 6 none, Cond.static yX10_wholeBytes, Cond.code yX10_wholeBytes cX10_wholeBytes 1 (some .int), Cond.methodLink RX10 139 yX9_beginRound, Cond.instanceMethod yX9_beginRound, Cond.selects RX9 yX9_beginRound yX9_beginRound, Cond.code yX9_beginRound cX9_beginRound 1 none, Cond.fieldLink RX9 64 "HeaderLine$Squeezer" "round" "I", Cond.methodLink RX10 142 yX9_writeWhole, Cond.instanceMethod yX9_writeWhole, Cond.selects RX9 yX9_writeWhole yX9_writeWhole]
def wsX10_send_r5 : List Cond := [Cond.code yX9_writeWhole cX9_writeWhole 5 none, Cond.fieldLink RX9 77 "HeaderLine$Plan" "widths" "[I", Cond.methodLink RX9 67 yX5_write, Cond.methodLink RX9 80 yX6_hasStride, Cond.instanceMethod yX6_hasStride, Cond.selects RX6 yX6_hasStride yX6_hasStride, Cond.code yX6_hasStride cX6_hasStride 2 (some .boolean), Cond.methodLink RX6 24 yX6_has, Cond.instanceMethod yX6_has, Cond.selects RX6 yX6_has yX6_has, Cond.code yX6_has cX6_has 2 (some .boolean), Cond.fieldLink RX6 28 "HeaderLine$Plan" "size" "I", Cond.methodLink RX10 146 yX9_writePart, Cond.instanceMethod yX9_writePart, Cond.selects RX9 yX9_writePart yX9_writePart, Cond.code yX9_writePart cX9_writePart 7 none, Cond.methodLink RX9 84 yX6_sumOf, Cond.instanceMethod yX6_sumOf, Cond.selects RX6 yX6_sumOf yX6_sumOf, Cond.code yX6_sumOf cX6_sumOf 5 (some .int), Cond.constantLong RX6 39 (17), Cond.constantLong RX6 41 (31), Cond.instanceMethod yX7_init, Cond.code yX7_init cX7_init 1 none]
def wsX10_send_r6 : List Cond := [Cond.methodLink RX7 3 objectInit, Cond.instanceMethod objectInit, Cond.code objectInit ⟨#[0xb1]⟩ 1 none, Cond.arrayClass .int, Cond.fieldLink RX7 9 "HeaderLine$Proof" "lengths" "[I", Cond.fieldLink RX7 15 "HeaderLine$Proof" "misses" "[I", Cond.methodLink RX10 152 yX9_writeShort, Cond.instanceMethod yX9_writeShort, Cond.selects RX9 yX9_writeShort yX9_writeShort, Cond.code yX9_writeShort cX9_writeShort 6 none, Cond.fieldLink RX9 88 "HeaderLine$Proof" "references" "I", Cond.fieldLink RX9 97 "HeaderLine$Proof" "oldest" "I", Cond.fieldLink RX9 104 "HeaderLine$Proof" "lengths" "[I", Cond.methodLink RX9 93 yX9_oldestNumber, Cond.instanceMethod yX9_oldestNumber, Cond.selects RX9 yX9_oldestNumber yX9_oldestNumber, Cond.code yX9_oldestNumber cX9_oldestNumber 1 (some .int), Cond.methodLink RX9 100 yX9_findLeast, Cond.instanceMethod yX9_findLeast, Cond.selects RX9 yX9_findLeast yX9_findLeast, Cond.code yX9_findLeast cX9_findLeast 7 none, Cond.fieldLink RX9 129 "HeaderLine$Proof" "misses" "[I", Cond.methodLink RX10 156 yX9_remember, Cond.instanceMethod yX9_remember]
def wsX10_send_r7 : List Cond := [Cond.selects RX9 yX9_remember yX9_remember, Cond.code yX9_remember cX9_remember 3 none, Cond.fieldLink RX9 115 "HeaderLine$Squeezer" "number" "I", Cond.methodLink RX9 107 yX9_dropOldest, Cond.instanceMethod yX9_dropOldest, Cond.selects RX9 yX9_dropOldest yX9_dropOldest, Cond.code yX9_dropOldest cX9_dropOldest 2 none, Cond.methodLink RX9 111 yX3_become, Cond.instanceMethod yX3_become, Cond.selects RX3 yX3_become yX3_become, Cond.initialized RX3, Cond.code yX3_become cX3_become 2 none, Cond.fieldLink RX3 9 "HeaderLine$Header" "values" "[J", Cond.methodLink RX3 15 arraycopyName, Cond.native arraycopyName, Cond.static arraycopyName, Cond.initialized "java/lang/System", Cond.fieldLink RX3 21 "HeaderLine$Header" "number" "I", Cond.methodLink RX10 160 yX10_addWritten, Cond.instanceMethod yX10_addWritten, Cond.selects RX10 yX10_addWritten yX10_addWritten, Cond.code yX10_addWritten cX10_addWritten 7 (some .int), Cond.classLink RX10 47 RX4, Cond.instantiable RX4 9]
def wsX10_send_r8 : List Cond := [Cond.initialized RX4, Cond.constant RX10 327 (65536), Cond.fieldLink RX10 328 "HeaderLine$Pen" "bits" "I", Cond.fieldLink RX10 226 "HeaderLine$Letter" "proof" "LHeaderLine$Proof;", Cond.methodLink RX10 320 yX10_endsInCheck, Cond.static yX10_endsInCheck, Cond.code yX10_endsInCheck cX10_endsInCheck 1 (some .boolean), Cond.methodLink RX10 323 yX5_finished, Cond.instanceMethod yX5_finished, Cond.selects RX5 yX5_finished yX5_finished, Cond.code yX5_finished cX5_finished 4 (some (.array .int)), Cond.methodLink RX5 33 yJ7_copyOf_59c91, Cond.static yJ7_copyOf_59c91, Cond.code yJ7_copyOf_59c91 cJ7_copyOf_59c91 3 (some (.array .int)), Cond.methodLink RJ7 316 ⟨"[I", "clone", "()Ljava/lang/Object;"⟩, Cond.sameMethod "[I" "java/lang/Object" "clone" "()Ljava/lang/Object;", Cond.native ⟨"java/lang/Object", "clone", "()Ljava/lang/Object;"⟩, Cond.instanceMethod ⟨"java/lang/Object", "clone", "()Ljava/lang/Object;"⟩, Cond.selects "[I" ⟨"[I", "clone", "()Ljava/lang/Object;"⟩ ⟨"java/lang/Object", "clone", "()Ljava/lang/Object;"⟩, Cond.classLink RJ7 317 "[I", Cond.methodLink RJ7 304 Lib.Math.min.name, Cond.static Lib.Math.min.name, Cond.initialized "java/lang/Math", Cond.code Lib.Math.min.name Lib.Math.min.code 2 (some .int)]
def wsX10_send_r9 : List Cond := [Cond.methodLink RJ7 150 arraycopyName, Cond.static yX10_checkOf, Cond.code yX10_checkOf cX10_checkOf 4 (some .int), Cond.methodLink RX10 210 yX4_init, Cond.instanceMethod yX4_init, Cond.code yX4_init cX4_init 6 none, Cond.methodLink RX4 1 objectInit, Cond.fieldLink RX4 7 "HeaderLine$Letter" "outcome" "I", Cond.fieldLink RX4 13 "HeaderLine$Letter" "kind" "I", Cond.fieldLink RX4 16 "HeaderLine$Letter" "flow" "I", Cond.fieldLink RX4 19 "HeaderLine$Letter" "number" "I", Cond.fieldLink RX4 22 "HeaderLine$Letter" "bytes" "[I", Cond.fieldLink RX4 26 "HeaderLine$Letter" "bits" "I", Cond.methodLink RX10 216 yX10_add, Cond.instanceMethod yX10_add, Cond.selects RX10 yX10_add yX10_add, Cond.code yX10_add cX10_add 2 (some .int), Cond.fieldLink RX10 49 "HeaderLine" "letters" "[LHeaderLine$Letter;"]
def wsX10_send : List Cond := .code yX10_send cX10_send 6 (some .int) :: ((wsX10_send_r1 ++ (wsX10_send_r2 ++ (wsX10_send_r3 ++ (wsX10_send_r4 ++ (wsX10_send_r5 ++ (wsX10_send_r6 ++ (wsX10_send_r7 ++ (wsX10_send_r8 ++ wsX10_send_r9)))))))) ++ wsX100 ++ wsX60 ++ wsX90 ++ wsX30 ++ wsX70 ++ wsX50 ++ wsX40)
def wsX10_addAnswer_r1 : List Cond := [Cond.fieldLink RX10 63 "HeaderLine" "pen" "LHeaderLine$Pen;", Cond.methodLink RX10 135 yX5_begin, Cond.instanceMethod yX5_begin, Cond.selects RX5 yX5_begin yX5_begin, Cond.initialized RX5, Cond.code yX5_begin cX5_begin 4 none, Cond.fieldLink RX5 9 "HeaderLine$Pen" "bytes" "[I", Cond.fieldLink RX5 21 "HeaderLine$Pen" "bits" "I", Cond.methodLink RX5 15 yJ7_fill_53178, Cond.static yJ7_fill_53178, Cond.initialized RJ7, Cond.code yJ7_fill_53178 cJ7_fill_53178 4 none, Cond.methodLink RX5 25 yX5_write, Cond.instanceMethod yX5_write, Cond.selects RX5 yX5_write yX5_write, Cond.code yX5_write cX5_write 6 none, Cond.static yX10_wholeBytes, Cond.initialized RX10, Cond.code yX10_wholeBytes cX10_wholeBytes 1 (some .int), Cond.methodLink RX10 160 yX10_addWritten, Cond.instanceMethod yX10_addWritten, Cond.selects RX10 yX10_addWritten yX10_addWritten, Cond.code yX10_addWritten cX10_addWritten 7 (some .int), Cond.classLink RX10 47 RX4]
def wsX10_addAnswer_r2 : List Cond := [Cond.instantiable RX4 9, Cond.initialized RX4, Cond.constant RX10 327 (65536), Cond.fieldLink RX10 328 "HeaderLine$Pen" "bits" "I", Cond.fieldLink RX10 226 "HeaderLine$Letter" "proof" "LHeaderLine$Proof;", Cond.methodLink RX10 320 yX10_endsInCheck, Cond.static yX10_endsInCheck, Cond.code yX10_endsInCheck cX10_endsInCheck 1 (some .boolean), Cond.methodLink RX10 323 yX5_finished, Cond.instanceMethod yX5_finished, Cond.selects RX5 yX5_finished yX5_finished, Cond.code yX5_finished cX5_finished 4 (some (.array .int)), Cond.methodLink RX5 33 yJ7_copyOf_59c91, Cond.static yJ7_copyOf_59c91, Cond.code yJ7_copyOf_59c91 cJ7_copyOf_59c91 3 (some (.array .int)), Cond.methodLink RJ7 316 ⟨"[I", "clone", "()Ljava/lang/Object;"⟩, Cond.sameMethod "[I" "java/lang/Object" "clone" "()Ljava/lang/Object;", Cond.native ⟨"java/lang/Object", "clone", "()Ljava/lang/Object;"⟩, Cond.instanceMethod ⟨"java/lang/Object", "clone", "()Ljava/lang/Object;"⟩, Cond.selects "[I" ⟨"[I", "clone", "()Ljava/lang/Object;"⟩ ⟨"java/lang/Object", "clone", "()Ljava/lang/Object;"⟩, Cond.classLink RJ7 317 "[I", Cond.arrayClass .int, Cond.methodLink RJ7 304 Lib.Math.min.name, Cond.static Lib.Math.min.name]
def wsX10_addAnswer_r3 : List Cond := [Cond.initialized "java/lang/Math", Cond.code Lib.Math.min.name Lib.Math.min.code 2 (some .int), Cond.methodLink RJ7 150 arraycopyName, Cond.native arraycopyName, Cond.static arraycopyName, Cond.initialized "java/lang/System", Cond.static yX10_checkOf, Cond.code yX10_checkOf cX10_checkOf 4 (some .int), Cond.methodLink RX10 210 yX4_init, Cond.instanceMethod yX4_init, Cond.code yX4_init cX4_init 6 none, Cond.methodLink RX4 1 objectInit, Cond.instanceMethod objectInit, Cond.code objectInit ⟨#[0xb1]⟩ 1 none, Cond.fieldLink RX4 7 "HeaderLine$Letter" "outcome" "I", Cond.fieldLink RX4 13 "HeaderLine$Letter" "kind" "I", Cond.fieldLink RX4 16 "HeaderLine$Letter" "flow" "I", Cond.fieldLink RX4 19 "HeaderLine$Letter" "number" "I", Cond.fieldLink RX4 22 "HeaderLine$Letter" "bytes" "[I", Cond.fieldLink RX4 26 "HeaderLine$Letter" "bits" "I", Cond.methodLink RX10 216 yX10_add, Cond.instanceMethod yX10_add, Cond.selects RX10 yX10_add yX10_add, Cond.code yX10_add cX10_add 2 (some .int)]
def wsX10_addAnswer_r4 : List Cond := [Cond.fieldLink RX10 49 "HeaderLine" "letters" "[LHeaderLine$Letter;", Cond.fieldLink RX10 88 "HeaderLine" "letterCount" "I", Cond.methodLink RX10 123 yX10_isLineFull, Cond.instanceMethod yX10_isLineFull, Cond.selects RX10 yX10_isLineFull yX10_isLineFull, Cond.code yX10_isLineFull cX10_isLineFull 1 (some .boolean)]
def wsX10_addAnswer : List Cond := .code yX10_addAnswer cX10_addAnswer 4 (some .int) :: ((wsX10_addAnswer_r1 ++ (wsX10_addAnswer_r2 ++ (wsX10_addAnswer_r3 ++ wsX10_addAnswer_r4))) ++ wsX100 ++ wsX50 ++ wsX40)
def wsX10_ack_r1 : List Cond := [Cond.fieldLink RX10 41 "HeaderLine" "contexts" "[LHeaderLine$Context;", Cond.fieldLink RX10 164 "HeaderLine$Context" "isThere" "Z", Cond.fieldLink RX10 167 "HeaderLine$Context" "header" "LHeaderLine$Header;", Cond.fieldLink RX10 130 "HeaderLine$Header" "number" "I", Cond.methodLink RX10 109 yX10_isFlow, Cond.static yX10_isFlow, Cond.initialized RX10, Cond.code yX10_isFlow cX10_isFlow 1 (some .boolean), Cond.methodLink RX10 123 yX10_isLineFull, Cond.instanceMethod yX10_isLineFull, Cond.selects RX10 yX10_isLineFull yX10_isLineFull, Cond.code yX10_isLineFull cX10_isLineFull 1 (some .boolean), Cond.fieldLink RX10 88 "HeaderLine" "letterCount" "I", Cond.methodLink RX10 170 yX10_addAnswer, Cond.instanceMethod yX10_addAnswer, Cond.selects RX10 yX10_addAnswer yX10_addAnswer, Cond.code yX10_addAnswer cX10_addAnswer 4 (some .int), Cond.fieldLink RX10 63 "HeaderLine" "pen" "LHeaderLine$Pen;", Cond.methodLink RX10 135 yX5_begin, Cond.instanceMethod yX5_begin, Cond.selects RX5 yX5_begin yX5_begin, Cond.initialized RX5, Cond.code yX5_begin cX5_begin 4 none, Cond.fieldLink RX5 9 "HeaderLine$Pen" "bytes" "[I"]
def wsX10_ack_r2 : List Cond := [Cond.fieldLink RX5 21 "HeaderLine$Pen" "bits" "I", Cond.methodLink RX5 15 yJ7_fill_53178, Cond.static yJ7_fill_53178, Cond.initialized RJ7, Cond.code yJ7_fill_53178 cJ7_fill_53178 4 none, Cond.methodLink RX5 25 yX5_write, Cond.instanceMethod yX5_write, Cond.selects RX5 yX5_write yX5_write, Cond.code yX5_write cX5_write 6 none, Cond.static yX10_wholeBytes, Cond.code yX10_wholeBytes cX10_wholeBytes 1 (some .int), Cond.methodLink RX10 160 yX10_addWritten, Cond.instanceMethod yX10_addWritten, Cond.selects RX10 yX10_addWritten yX10_addWritten, Cond.code yX10_addWritten cX10_addWritten 7 (some .int), Cond.classLink RX10 47 RX4, Cond.instantiable RX4 9, Cond.initialized RX4, Cond.constant RX10 327 (65536), Cond.fieldLink RX10 328 "HeaderLine$Pen" "bits" "I", Cond.fieldLink RX10 226 "HeaderLine$Letter" "proof" "LHeaderLine$Proof;", Cond.methodLink RX10 320 yX10_endsInCheck, Cond.static yX10_endsInCheck, Cond.code yX10_endsInCheck cX10_endsInCheck 1 (some .boolean)]
def wsX10_ack_r3 : List Cond := [Cond.methodLink RX10 323 yX5_finished, Cond.instanceMethod yX5_finished, Cond.selects RX5 yX5_finished yX5_finished, Cond.code yX5_finished cX5_finished 4 (some (.array .int)), Cond.methodLink RX5 33 yJ7_copyOf_59c91, Cond.static yJ7_copyOf_59c91, Cond.code yJ7_copyOf_59c91 cJ7_copyOf_59c91 3 (some (.array .int)), Cond.methodLink RJ7 316 ⟨"[I", "clone", "()Ljava/lang/Object;"⟩, Cond.sameMethod "[I" "java/lang/Object" "clone" "()Ljava/lang/Object;", Cond.native ⟨"java/lang/Object", "clone", "()Ljava/lang/Object;"⟩, Cond.instanceMethod ⟨"java/lang/Object", "clone", "()Ljava/lang/Object;"⟩, Cond.selects "[I" ⟨"[I", "clone", "()Ljava/lang/Object;"⟩ ⟨"java/lang/Object", "clone", "()Ljava/lang/Object;"⟩, Cond.classLink RJ7 317 "[I", Cond.arrayClass .int, Cond.methodLink RJ7 304 Lib.Math.min.name, Cond.static Lib.Math.min.name, Cond.initialized "java/lang/Math", Cond.code Lib.Math.min.name Lib.Math.min.code 2 (some .int), Cond.methodLink RJ7 150 arraycopyName, Cond.native arraycopyName, Cond.static arraycopyName, Cond.initialized "java/lang/System", Cond.static yX10_checkOf, Cond.code yX10_checkOf cX10_checkOf 4 (some .int)]
def wsX10_ack_r4 : List Cond := [Cond.methodLink RX10 210 yX4_init, Cond.instanceMethod yX4_init, Cond.code yX4_init cX4_init 6 none, Cond.methodLink RX4 1 objectInit, Cond.instanceMethod objectInit, Cond.code objectInit ⟨#[0xb1]⟩ 1 none, Cond.fieldLink RX4 7 "HeaderLine$Letter" "outcome" "I", Cond.fieldLink RX4 13 "HeaderLine$Letter" "kind" "I", Cond.fieldLink RX4 16 "HeaderLine$Letter" "flow" "I", Cond.fieldLink RX4 19 "HeaderLine$Letter" "number" "I", Cond.fieldLink RX4 22 "HeaderLine$Letter" "bytes" "[I", Cond.fieldLink RX4 26 "HeaderLine$Letter" "bits" "I", Cond.methodLink RX10 216 yX10_add, Cond.instanceMethod yX10_add, Cond.selects RX10 yX10_add yX10_add, Cond.code yX10_add cX10_add 2 (some .int), Cond.fieldLink RX10 49 "HeaderLine" "letters" "[LHeaderLine$Letter;"]
def wsX10_ack : List Cond := .code yX10_ack cX10_ack 2 (some .int) :: ((wsX10_ack_r1 ++ (wsX10_ack_r2 ++ (wsX10_ack_r3 ++ wsX10_ack_r4))) ++ wsX100 ++ wsX10 ++ wsX30 ++ wsX50 ++ wsX40)
def wsX10_nack_r1 : List Cond := [Cond.fieldLink RX10 41 "HeaderLine" "contexts" "[LHeaderLine$Context;", Cond.fieldLink RX10 164 "HeaderLine$Context" "isThere" "Z", Cond.fieldLink RX10 167 "HeaderLine$Context" "header" "LHeaderLine$Header;", Cond.fieldLink RX10 130 "HeaderLine$Header" "number" "I", Cond.methodLink RX10 109 yX10_isFlow, Cond.static yX10_isFlow, Cond.initialized RX10, Cond.code yX10_isFlow cX10_isFlow 1 (some .boolean), Cond.methodLink RX10 123 yX10_isLineFull, Cond.instanceMethod yX10_isLineFull, Cond.selects RX10 yX10_isLineFull yX10_isLineFull, Cond.code yX10_isLineFull cX10_isLineFull 1 (some .boolean), Cond.fieldLink RX10 88 "HeaderLine" "letterCount" "I", Cond.methodLink RX10 170 yX10_addAnswer, Cond.instanceMethod yX10_addAnswer, Cond.selects RX10 yX10_addAnswer yX10_addAnswer, Cond.code yX10_addAnswer cX10_addAnswer 4 (some .int), Cond.fieldLink RX10 63 "HeaderLine" "pen" "LHeaderLine$Pen;", Cond.methodLink RX10 135 yX5_begin, Cond.instanceMethod yX5_begin, Cond.selects RX5 yX5_begin yX5_begin, Cond.initialized RX5, Cond.code yX5_begin cX5_begin 4 none, Cond.fieldLink RX5 9 "HeaderLine$Pen" "bytes" "[I"]
def wsX10_nack_r2 : List Cond := [Cond.fieldLink RX5 21 "HeaderLine$Pen" "bits" "I", Cond.methodLink RX5 15 yJ7_fill_53178, Cond.static yJ7_fill_53178, Cond.initialized RJ7, Cond.code yJ7_fill_53178 cJ7_fill_53178 4 none, Cond.methodLink RX5 25 yX5_write, Cond.instanceMethod yX5_write, Cond.selects RX5 yX5_write yX5_write, Cond.code yX5_write cX5_write 6 none, Cond.static yX10_wholeBytes, Cond.code yX10_wholeBytes cX10_wholeBytes 1 (some .int), Cond.methodLink RX10 160 yX10_addWritten, Cond.instanceMethod yX10_addWritten, Cond.selects RX10 yX10_addWritten yX10_addWritten, Cond.code yX10_addWritten cX10_addWritten 7 (some .int), Cond.classLink RX10 47 RX4, Cond.instantiable RX4 9, Cond.initialized RX4, Cond.constant RX10 327 (65536), Cond.fieldLink RX10 328 "HeaderLine$Pen" "bits" "I", Cond.fieldLink RX10 226 "HeaderLine$Letter" "proof" "LHeaderLine$Proof;", Cond.methodLink RX10 320 yX10_endsInCheck, Cond.static yX10_endsInCheck, Cond.code yX10_endsInCheck cX10_endsInCheck 1 (some .boolean)]
def wsX10_nack_r3 : List Cond := [Cond.methodLink RX10 323 yX5_finished, Cond.instanceMethod yX5_finished, Cond.selects RX5 yX5_finished yX5_finished, Cond.code yX5_finished cX5_finished 4 (some (.array .int)), Cond.methodLink RX5 33 yJ7_copyOf_59c91, Cond.static yJ7_copyOf_59c91, Cond.code yJ7_copyOf_59c91 cJ7_copyOf_59c91 3 (some (.array .int)), Cond.methodLink RJ7 316 ⟨"[I", "clone", "()Ljava/lang/Object;"⟩, Cond.sameMethod "[I" "java/lang/Object" "clone" "()Ljava/lang/Object;", Cond.native ⟨"java/lang/Object", "clone", "()Ljava/lang/Object;"⟩, Cond.instanceMethod ⟨"java/lang/Object", "clone", "()Ljava/lang/Object;"⟩, Cond.selects "[I" ⟨"[I", "clone", "()Ljava/lang/Object;"⟩ ⟨"java/lang/Object", "clone", "()Ljava/lang/Object;"⟩, Cond.classLink RJ7 317 "[I", Cond.arrayClass .int, Cond.methodLink RJ7 304 Lib.Math.min.name, Cond.static Lib.Math.min.name, Cond.initialized "java/lang/Math", Cond.code Lib.Math.min.name Lib.Math.min.code 2 (some .int), Cond.methodLink RJ7 150 arraycopyName, Cond.native arraycopyName, Cond.static arraycopyName, Cond.initialized "java/lang/System", Cond.static yX10_checkOf, Cond.code yX10_checkOf cX10_checkOf 4 (some .int)]
def wsX10_nack_r4 : List Cond := [Cond.methodLink RX10 210 yX4_init, Cond.instanceMethod yX4_init, Cond.code yX4_init cX4_init 6 none, Cond.methodLink RX4 1 objectInit, Cond.instanceMethod objectInit, Cond.code objectInit ⟨#[0xb1]⟩ 1 none, Cond.fieldLink RX4 7 "HeaderLine$Letter" "outcome" "I", Cond.fieldLink RX4 13 "HeaderLine$Letter" "kind" "I", Cond.fieldLink RX4 16 "HeaderLine$Letter" "flow" "I", Cond.fieldLink RX4 19 "HeaderLine$Letter" "number" "I", Cond.fieldLink RX4 22 "HeaderLine$Letter" "bytes" "[I", Cond.fieldLink RX4 26 "HeaderLine$Letter" "bits" "I", Cond.methodLink RX10 216 yX10_add, Cond.instanceMethod yX10_add, Cond.selects RX10 yX10_add yX10_add, Cond.code yX10_add cX10_add 2 (some .int), Cond.fieldLink RX10 49 "HeaderLine" "letters" "[LHeaderLine$Letter;"]
def wsX10_nack : List Cond := .code yX10_nack cX10_nack 2 (some .int) :: ((wsX10_nack_r1 ++ (wsX10_nack_r2 ++ (wsX10_nack_r3 ++ wsX10_nack_r4))) ++ wsX100 ++ wsX10 ++ wsX30 ++ wsX50 ++ wsX40)
def wsX10_letterAt : List Cond := .code yX10_letterAt cX10_letterAt 2 (some (.object "HeaderLine$Letter")) :: ([.fieldLink RX10 88 "HeaderLine" "letterCount" "I", .fieldLink RX10 49 "HeaderLine" "letters" "[LHeaderLine$Letter;"] ++ wsX100)
def wsX10_letterUnderWay : List Cond := .code yX10_letterUnderWay cX10_letterUnderWay 3 (some (.object "HeaderLine$Letter")) :: ([.fieldLink RX10 188 "HeaderLine$Letter" "isLost" "Z", .methodLink RX10 223 yX10_letterAt, .instanceMethod yX10_letterAt, .selects RX10 yX10_letterAt yX10_letterAt, .initialized RX10, .code yX10_letterAt cX10_letterAt 2 (some (.object "HeaderLine$Letter")), .fieldLink RX10 88 "HeaderLine" "letterCount" "I", .fieldLink RX10 49 "HeaderLine" "letters" "[LHeaderLine$Letter;"] ++ wsX40 ++ wsX100)
def wsX10_open_r1 : List Cond := [Cond.fieldLink RX10 70 "HeaderLine" "arrival" "LHeaderLine$Arrival;", Cond.fieldLink RX10 334 "HeaderLine$Arrival" "kind" "I", Cond.fieldLink RX10 164 "HeaderLine$Context" "isThere" "Z", Cond.fieldLink RX10 255 "HeaderLine$Context" "round" "I", Cond.fieldLink RX10 343 "HeaderLine$Arrival" "round" "I", Cond.fieldLink RX10 335 "HeaderLine$Arrival" "header" "LHeaderLine$Header;", Cond.fieldLink RX10 130 "HeaderLine$Header" "number" "I", Cond.fieldLink RX10 167 "HeaderLine$Context" "header" "LHeaderLine$Header;", Cond.fieldLink RX10 15 "HeaderLine" "window" "I", Cond.fieldLink RX10 22 "HeaderLine" "plan" "LHeaderLine$Plan;", Cond.fieldLink RX10 352 "HeaderLine$Arrival" "sum" "I", Cond.fieldLink RX10 77 "HeaderLine" "latest" "LHeaderLine$Got;", Cond.methodLink RX10 344 yX0_rebuild, Cond.instanceMethod yX0_rebuild, Cond.selects RX0 yX0_rebuild yX0_rebuild, Cond.initialized RX0, Cond.code yX0_rebuild cX0_rebuild 8 none, Cond.fieldLink RX0 59 "HeaderLine$Plan" "size" "I", Cond.fieldLink RX0 28 "HeaderLine$Arrival" "told" "[J", Cond.fieldLink RX0 22 "HeaderLine$Arrival" "ways" "[I", Cond.fieldLink RX0 79 "HeaderLine$Context" "header" "LHeaderLine$Header;", Cond.fieldLink RX0 82 "HeaderLine$Context" "strides" "[I", Cond.fieldLink RX0 12 "HeaderLine$Arrival" "header" "LHeaderLine$Header;", Cond.fieldLink RX0 25 "HeaderLine$Arrival" "lengths" "[I"]
def wsX10_open_r2 : List Cond := [Cond.fieldLink RX0 91 "HeaderLine$Header" "values" "[J", Cond.methodLink RX0 83 yX6_given, Cond.instanceMethod yX6_given, Cond.selects RX6 yX6_given yX6_given, Cond.initialized RX6, Cond.code yX6_given cX6_given 7 (some .long), Cond.fieldLink RX6 49 "HeaderLine$Header" "number" "I", Cond.fieldLink RX6 9 "HeaderLine$Plan" "kinds" "[I", Cond.fieldLink RX6 43 "HeaderLine$Header" "values" "[J", Cond.fieldLink RX6 18 "HeaderLine$Plan" "ties" "[I", Cond.fieldLink RX6 21 "HeaderLine$Plan" "extras" "[I", Cond.methodLink RX6 52 yX6_lowBits, Cond.instanceMethod yX6_lowBits, Cond.selects RX6 yX6_lowBits yX6_lowBits, Cond.code yX6_lowBits cX6_lowBits 4 (some .long), Cond.fieldLink RX6 15 "HeaderLine$Plan" "widths" "[I", Cond.static yX10_lowest, Cond.initialized RX10, Cond.code yX10_lowest cX10_lowest 3 (some .long), Cond.methodLink RX0 87 yX6_found, Cond.instanceMethod yX6_found, Cond.selects RX6 yX6_found yX6_found, Cond.code yX6_found cX6_found 9 (some .long), Cond.methodLink RX10 348 yX6_sumOf]
def wsX10_open_r3 : List Cond := [Cond.instanceMethod yX6_sumOf, Cond.selects RX6 yX6_sumOf yX6_sumOf, Cond.code yX6_sumOf cX6_sumOf 5 (some .int), Cond.constantLong RX6 39 (17), Cond.fieldLink RX6 28 "HeaderLine$Plan" "size" "I", Cond.constantLong RX6 41 (31), Cond.methodLink RX10 355 yX2_accept, Cond.instanceMethod yX2_accept, Cond.selects RX2 yX2_accept yX2_accept, Cond.initialized RX2, Cond.code yX2_accept cX2_accept 3 none, Cond.fieldLink RX2 12 "HeaderLine$Got" "header" "LHeaderLine$Header;", Cond.fieldLink RX2 22 "HeaderLine$Arrival" "header" "LHeaderLine$Header;", Cond.fieldLink RX2 29 "HeaderLine$Arrival" "ways" "[I", Cond.fieldLink RX2 18 "HeaderLine$Got" "ways" "[I", Cond.methodLink RX2 30 arraycopyName, Cond.native arraycopyName, Cond.static arraycopyName, Cond.initialized "java/lang/System", Cond.fieldLink RX2 36 "HeaderLine$Arrival" "flow" "I", Cond.fieldLink RX2 40 "HeaderLine$Got" "flow" "I", Cond.fieldLink RX2 41 "HeaderLine$Got" "hungOn" "I", Cond.fieldLink RX2 44 "HeaderLine$Got" "total" "I", Cond.methodLink RX2 25 yX3_become]
def wsX10_open_r4 : List Cond := [Cond.instanceMethod yX3_become, Cond.selects RX3 yX3_become yX3_become, Cond.initialized RX3, Cond.code yX3_become cX3_become 2 none, Cond.fieldLink RX3 9 "HeaderLine$Header" "values" "[J", Cond.methodLink RX3 15 arraycopyName, Cond.fieldLink RX3 21 "HeaderLine$Header" "number" "I", Cond.methodLink RX10 359 yX1_accept, Cond.instanceMethod yX1_accept, Cond.selects RX1 yX1_accept yX1_accept, Cond.initialized RX1, Cond.code yX1_accept cX1_accept 2 none, Cond.fieldLink RX1 12 "HeaderLine$Context" "header" "LHeaderLine$Header;", Cond.fieldLink RX1 22 "HeaderLine$Arrival" "header" "LHeaderLine$Header;", Cond.fieldLink RX1 29 "HeaderLine$Context" "isThere" "Z", Cond.fieldLink RX1 33 "HeaderLine$Arrival" "kind" "I", Cond.fieldLink RX1 37 "HeaderLine$Arrival" "round" "I", Cond.fieldLink RX1 40 "HeaderLine$Context" "round" "I", Cond.fieldLink RX1 41 "HeaderLine$Arrival" "strides" "[I", Cond.fieldLink RX1 18 "HeaderLine$Context" "strides" "[I", Cond.methodLink RX1 42 arraycopyName, Cond.methodLink RX1 25 yX3_become]
def wsX10_open : List Cond := .code yX10_open cX10_open 4 (some .int) :: ((wsX10_open_r1 ++ (wsX10_open_r2 ++ (wsX10_open_r3 ++ wsX10_open_r4))) ++ wsX100 ++ wsX00 ++ wsX10 ++ wsX30 ++ wsX60 ++ wsX20)
def wsX10_outcomeOf_r1 : List Cond := [Cond.fieldLink RX10 70 "HeaderLine" "arrival" "LHeaderLine$Arrival;", Cond.fieldLink RX10 22 "HeaderLine" "plan" "LHeaderLine$Plan;", Cond.fieldLink RX10 333 "HeaderLine$Arrival" "flow" "I", Cond.fieldLink RX10 334 "HeaderLine$Arrival" "kind" "I", Cond.fieldLink RX10 35 "HeaderLine" "squeezers" "[LHeaderLine$Squeezer;", Cond.fieldLink RX10 335 "HeaderLine$Arrival" "header" "LHeaderLine$Header;", Cond.fieldLink RX10 130 "HeaderLine$Header" "number" "I", Cond.fieldLink RX10 41 "HeaderLine" "contexts" "[LHeaderLine$Context;", Cond.methodLink RX10 329 yX0_parse, Cond.instanceMethod yX0_parse, Cond.selects RX0 yX0_parse yX0_parse, Cond.initialized RX0, Cond.code yX0_parse cX0_parse 4 (some .boolean), Cond.fieldLink RX0 32 "HeaderLine$Arrival" "bytes" "[I", Cond.fieldLink RX0 35 "HeaderLine$Arrival" "at" "I", Cond.fieldLink RX0 39 "HeaderLine$Arrival" "isBroken" "Z", Cond.fieldLink RX0 47 "HeaderLine$Arrival" "kind" "I", Cond.fieldLink RX0 50 "HeaderLine$Arrival" "flow" "I", Cond.fieldLink RX0 12 "HeaderLine$Arrival" "header" "LHeaderLine$Header;", Cond.fieldLink RX0 53 "HeaderLine$Header" "number" "I", Cond.fieldLink RX0 56 "HeaderLine$Arrival" "round" "I", Cond.fieldLink RX0 59 "HeaderLine$Plan" "size" "I", Cond.fieldLink RX0 72 "HeaderLine$Arrival" "sum" "I", Cond.methodLink RX0 43 yX0_read]
def wsX10_outcomeOf_r2 : List Cond := [Cond.instanceMethod yX0_read, Cond.selects RX0 yX0_read yX0_read, Cond.code yX0_read cX0_read 5 (some .long), Cond.methodLink RX0 64 yX0_readField, Cond.instanceMethod yX0_readField, Cond.selects RX0 yX0_readField yX0_readField, Cond.code yX0_readField cX0_readField 5 none, Cond.fieldLink RX0 94 "HeaderLine$Plan" "kinds" "[I", Cond.fieldLink RX0 97 "HeaderLine$Plan" "widths" "[I", Cond.fieldLink RX0 18 "HeaderLine$Arrival" "strides" "[I", Cond.methodLink RX0 100 yX0_readValue, Cond.instanceMethod yX0_readValue, Cond.selects RX0 yX0_readValue yX0_readValue, Cond.code yX0_readValue cX0_readValue 4 none, Cond.fieldLink RX0 22 "HeaderLine$Arrival" "ways" "[I", Cond.fieldLink RX0 25 "HeaderLine$Arrival" "lengths" "[I", Cond.fieldLink RX0 28 "HeaderLine$Arrival" "told" "[J", Cond.methodLink RX0 104 yX6_hasStride, Cond.instanceMethod yX6_hasStride, Cond.selects RX6 yX6_hasStride yX6_hasStride, Cond.initialized RX6, Cond.code yX6_hasStride cX6_hasStride 2 (some .boolean), Cond.fieldLink RX6 9 "HeaderLine$Plan" "kinds" "[I", Cond.methodLink RX6 24 yX6_has]
def wsX10_outcomeOf_r3 : List Cond := [Cond.instanceMethod yX6_has, Cond.selects RX6 yX6_has yX6_has, Cond.code yX6_has cX6_has 2 (some .boolean), Cond.fieldLink RX6 28 "HeaderLine$Plan" "size" "I", Cond.static yX10_endsInCheck, Cond.initialized RX10, Cond.code yX10_endsInCheck cX10_endsInCheck 1 (some .boolean), Cond.methodLink RX0 75 yX0_isEndRight, Cond.instanceMethod yX0_isEndRight, Cond.selects RX0 yX0_isEndRight yX0_isEndRight, Cond.code yX0_isEndRight cX0_isEndRight 3 (some .boolean), Cond.static yX10_wholeBytes, Cond.code yX10_wholeBytes cX10_wholeBytes 1 (some .int), Cond.static yX10_checkOf, Cond.code yX10_checkOf cX10_checkOf 4 (some .int), Cond.methodLink RX10 109 yX10_isFlow, Cond.static yX10_isFlow, Cond.code yX10_isFlow cX10_isFlow 1 (some .boolean), Cond.methodLink RX10 336 yX9_heed, Cond.instanceMethod yX9_heed, Cond.selects RX9 yX9_heed yX9_heed, Cond.initialized RX9, Cond.code yX9_heed cX9_heed 4 (some .int), Cond.fieldLink RX9 15 "HeaderLine$Squeezer" "owes" "Z"]
def wsX10_outcomeOf_r4 : List Cond := [Cond.fieldLink RX9 42 "HeaderLine$Squeezer" "held" "I", Cond.fieldLink RX9 49 "HeaderLine$Header" "number" "I", Cond.constant RX9 116 (65536), Cond.methodLink RX9 45 yX9_reference, Cond.instanceMethod yX9_reference, Cond.selects RX9 yX9_reference yX9_reference, Cond.code yX9_reference cX9_reference 2 (some (.object "HeaderLine$Header")), Cond.fieldLink RX9 21 "HeaderLine$Squeezer" "ring" "[LHeaderLine$Header;", Cond.fieldLink RX9 32 "HeaderLine$Squeezer" "first" "I", Cond.methodLink RX9 36 yJ9_floorMod_7cf53, Cond.static yJ9_floorMod_7cf53, Cond.initialized RJ9, Cond.code yJ9_floorMod_7cf53 cJ9_floorMod_7cf53 3 (some .int), Cond.methodLink RX9 107 yX9_dropOldest, Cond.instanceMethod yX9_dropOldest, Cond.selects RX9 yX9_dropOldest yX9_dropOldest, Cond.code yX9_dropOldest cX9_dropOldest 2 none, Cond.methodLink RX10 339 yX10_open, Cond.instanceMethod yX10_open, Cond.selects RX10 yX10_open yX10_open, Cond.code yX10_open cX10_open 4 (some .int), Cond.fieldLink RX10 164 "HeaderLine$Context" "isThere" "Z", Cond.fieldLink RX10 255 "HeaderLine$Context" "round" "I", Cond.fieldLink RX10 343 "HeaderLine$Arrival" "round" "I"]
def wsX10_outcomeOf_r5 : List Cond := [Cond.fieldLink RX10 167 "HeaderLine$Context" "header" "LHeaderLine$Header;", Cond.fieldLink RX10 15 "HeaderLine" "window" "I", Cond.fieldLink RX10 352 "HeaderLine$Arrival" "sum" "I", Cond.fieldLink RX10 77 "HeaderLine" "latest" "LHeaderLine$Got;", Cond.methodLink RX10 344 yX0_rebuild, Cond.instanceMethod yX0_rebuild, Cond.selects RX0 yX0_rebuild yX0_rebuild, Cond.code yX0_rebuild cX0_rebuild 8 none, Cond.fieldLink RX0 79 "HeaderLine$Context" "header" "LHeaderLine$Header;", Cond.fieldLink RX0 82 "HeaderLine$Context" "strides" "[I", Cond.fieldLink RX0 91 "HeaderLine$Header" "values" "[J", Cond.methodLink RX0 83 yX6_given, Cond.instanceMethod yX6_given, Cond.selects RX6 yX6_given yX6_given, Cond.code yX6_given cX6_given 7 (some .long), Cond.fieldLink RX6 49 "HeaderLine$Header" "number" "I", Cond.fieldLink RX6 43 "HeaderLine$Header" "values" "[J", Cond.fieldLink RX6 18 "HeaderLine$Plan" "ties" "[I", Cond.fieldLink RX6 21 "HeaderLine$Plan" "extras" "[I", Cond.methodLink RX6 52 yX6_lowBits, Cond.instanceMethod yX6_lowBits, Cond.selects RX6 yX6_lowBits yX6_lowBits, Cond.code yX6_lowBits cX6_lowBits 4 (some .long), Cond.fieldLink RX6 15 "HeaderLine$Plan" "widths" "[I"]
def wsX10_outcomeOf_r6 : List Cond := [Cond.static yX10_lowest, Cond.code yX10_lowest cX10_lowest 3 (some .long), Cond.methodLink RX0 87 yX6_found, Cond.instanceMethod yX6_found, Cond.selects RX6 yX6_found yX6_found, Cond.code yX6_found cX6_found 9 (some .long), Cond.methodLink RX10 348 yX6_sumOf, Cond.instanceMethod yX6_sumOf, Cond.selects RX6 yX6_sumOf yX6_sumOf, Cond.code yX6_sumOf cX6_sumOf 5 (some .int), Cond.constantLong RX6 39 (17), Cond.constantLong RX6 41 (31), Cond.methodLink RX10 355 yX2_accept, Cond.instanceMethod yX2_accept, Cond.selects RX2 yX2_accept yX2_accept, Cond.initialized RX2, Cond.code yX2_accept cX2_accept 3 none, Cond.fieldLink RX2 12 "HeaderLine$Got" "header" "LHeaderLine$Header;", Cond.fieldLink RX2 22 "HeaderLine$Arrival" "header" "LHeaderLine$Header;", Cond.fieldLink RX2 29 "HeaderLine$Arrival" "ways" "[I", Cond.fieldLink RX2 18 "HeaderLine$Got" "ways" "[I", Cond.methodLink RX2 30 arraycopyName, Cond.native arraycopyName, Cond.static arraycopyName]
def wsX10_outcomeOf_r7 : List Cond := [Cond.initialized "java/lang/System", Cond.fieldLink RX2 36 "HeaderLine$Arrival" "flow" "I", Cond.fieldLink RX2 40 "HeaderLine$Got" "flow" "I", Cond.fieldLink RX2 41 "HeaderLine$Got" "hungOn" "I", Cond.fieldLink RX2 44 "HeaderLine$Got" "total" "I", Cond.methodLink RX2 25 yX3_become, Cond.instanceMethod yX3_become, Cond.selects RX3 yX3_become yX3_become, Cond.initialized RX3, Cond.code yX3_become cX3_become 2 none, Cond.fieldLink RX3 9 "HeaderLine$Header" "values" "[J", Cond.methodLink RX3 15 arraycopyName, Cond.fieldLink RX3 21 "HeaderLine$Header" "number" "I", Cond.methodLink RX10 359 yX1_accept, Cond.instanceMethod yX1_accept, Cond.selects RX1 yX1_accept yX1_accept, Cond.initialized RX1, Cond.code yX1_accept cX1_accept 2 none, Cond.fieldLink RX1 12 "HeaderLine$Context" "header" "LHeaderLine$Header;", Cond.fieldLink RX1 22 "HeaderLine$Arrival" "header" "LHeaderLine$Header;", Cond.fieldLink RX1 29 "HeaderLine$Context" "isThere" "Z", Cond.fieldLink RX1 33 "HeaderLine$Arrival" "kind" "I", Cond.fieldLink RX1 37 "HeaderLine$Arrival" "round" "I", Cond.fieldLink RX1 40 "HeaderLine$Context" "round" "I"]
def wsX10_outcomeOf_r8 : List Cond := [Cond.fieldLink RX1 41 "HeaderLine$Arrival" "strides" "[I", Cond.fieldLink RX1 18 "HeaderLine$Context" "strides" "[I", Cond.methodLink RX1 42 arraycopyName, Cond.methodLink RX1 25 yX3_become]
def wsX10_outcomeOf : List Cond := .code yX10_outcomeOf cX10_outcomeOf 2 (some .int) :: ((wsX10_outcomeOf_r1 ++ (wsX10_outcomeOf_r2 ++ (wsX10_outcomeOf_r3 ++ (wsX10_outcomeOf_r4 ++ (wsX10_outcomeOf_r5 ++ (wsX10_outcomeOf_r6 ++ (wsX10_outcomeOf_r7 ++ wsX10_outcomeOf_r8))))))) ++ wsX100 ++ wsX00 ++ wsX30 ++ wsX60 ++ wsX90 ++ wsX10 ++ wsX20)
def wsX10_deliver_r1 : List Cond := [Cond.fieldLink RX10 178 "HeaderLine$Letter" "bytes" "[I", Cond.fieldLink RX10 185 "HeaderLine$Letter" "outcome" "I", Cond.methodLink RX10 174 yX10_letterUnderWay, Cond.instanceMethod yX10_letterUnderWay, Cond.selects RX10 yX10_letterUnderWay yX10_letterUnderWay, Cond.initialized RX10, Cond.code yX10_letterUnderWay cX10_letterUnderWay 3 (some (.object "HeaderLine$Letter")), Cond.fieldLink RX10 188 "HeaderLine$Letter" "isLost" "Z", Cond.methodLink RX10 223 yX10_letterAt, Cond.instanceMethod yX10_letterAt, Cond.selects RX10 yX10_letterAt yX10_letterAt, Cond.code yX10_letterAt cX10_letterAt 2 (some (.object "HeaderLine$Letter")), Cond.fieldLink RX10 88 "HeaderLine" "letterCount" "I", Cond.fieldLink RX10 49 "HeaderLine" "letters" "[LHeaderLine$Letter;", Cond.methodLink RX10 181 yX10_outcomeOf, Cond.instanceMethod yX10_outcomeOf, Cond.selects RX10 yX10_outcomeOf yX10_outcomeOf, Cond.code yX10_outcomeOf cX10_outcomeOf 2 (some .int), Cond.fieldLink RX10 70 "HeaderLine" "arrival" "LHeaderLine$Arrival;", Cond.fieldLink RX10 22 "HeaderLine" "plan" "LHeaderLine$Plan;", Cond.fieldLink RX10 333 "HeaderLine$Arrival" "flow" "I", Cond.fieldLink RX10 334 "HeaderLine$Arrival" "kind" "I", Cond.fieldLink RX10 35 "HeaderLine" "squeezers" "[LHeaderLine$Squeezer;", Cond.fieldLink RX10 335 "HeaderLine$Arrival" "header" "LHeaderLine$Header;"]
def wsX10_deliver_r2 : List Cond := [Cond.fieldLink RX10 130 "HeaderLine$Header" "number" "I", Cond.fieldLink RX10 41 "HeaderLine" "contexts" "[LHeaderLine$Context;", Cond.methodLink RX10 329 yX0_parse, Cond.instanceMethod yX0_parse, Cond.selects RX0 yX0_parse yX0_parse, Cond.initialized RX0, Cond.code yX0_parse cX0_parse 4 (some .boolean), Cond.fieldLink RX0 32 "HeaderLine$Arrival" "bytes" "[I", Cond.fieldLink RX0 35 "HeaderLine$Arrival" "at" "I", Cond.fieldLink RX0 39 "HeaderLine$Arrival" "isBroken" "Z", Cond.fieldLink RX0 47 "HeaderLine$Arrival" "kind" "I", Cond.fieldLink RX0 50 "HeaderLine$Arrival" "flow" "I", Cond.fieldLink RX0 12 "HeaderLine$Arrival" "header" "LHeaderLine$Header;", Cond.fieldLink RX0 53 "HeaderLine$Header" "number" "I", Cond.fieldLink RX0 56 "HeaderLine$Arrival" "round" "I", Cond.fieldLink RX0 59 "HeaderLine$Plan" "size" "I", Cond.fieldLink RX0 72 "HeaderLine$Arrival" "sum" "I", Cond.methodLink RX0 43 yX0_read, Cond.instanceMethod yX0_read, Cond.selects RX0 yX0_read yX0_read, Cond.code yX0_read cX0_read 5 (some .long), Cond.methodLink RX0 64 yX0_readField, Cond.instanceMethod yX0_readField, Cond.selects RX0 yX0_readField yX0_readField]
def wsX10_deliver_r3 : List Cond := [Cond.code yX0_readField cX0_readField 5 none, Cond.fieldLink RX0 94 "HeaderLine$Plan" "kinds" "[I", Cond.fieldLink RX0 97 "HeaderLine$Plan" "widths" "[I", Cond.fieldLink RX0 18 "HeaderLine$Arrival" "strides" "[I", Cond.methodLink RX0 100 yX0_readValue, Cond.instanceMethod yX0_readValue, Cond.selects RX0 yX0_readValue yX0_readValue, Cond.code yX0_readValue cX0_readValue 4 none, Cond.fieldLink RX0 22 "HeaderLine$Arrival" "ways" "[I", Cond.fieldLink RX0 25 "HeaderLine$Arrival" "lengths" "[I", Cond.fieldLink RX0 28 "HeaderLine$Arrival" "told" "[J", Cond.methodLink RX0 104 yX6_hasStride, Cond.instanceMethod yX6_hasStride, Cond.selects RX6 yX6_hasStride yX6_hasStride, Cond.initialized RX6, Cond.code yX6_hasStride cX6_hasStride 2 (some .boolean), Cond.fieldLink RX6 9 "HeaderLine$Plan" "kinds" "[I", Cond.methodLink RX6 24 yX6_has, Cond.instanceMethod yX6_has, Cond.selects RX6 yX6_has yX6_has, Cond.code yX6_has cX6_has 2 (some .boolean), Cond.fieldLink RX6 28 "HeaderLine$Plan" "size" "I", Cond.static yX10_endsInCheck, Cond.code yX10_endsInCheck cX10_endsInCheck 1 (some .boolean)]
def wsX10_deliver_r4 : List Cond := [Cond.methodLink RX0 75 yX0_isEndRight, Cond.instanceMethod yX0_isEndRight, Cond.selects RX0 yX0_isEndRight yX0_isEndRight, Cond.code yX0_isEndRight cX0_isEndRight 3 (some .boolean), Cond.static yX10_wholeBytes, Cond.code yX10_wholeBytes cX10_wholeBytes 1 (some .int), Cond.static yX10_checkOf, Cond.code yX10_checkOf cX10_checkOf 4 (some .int), Cond.methodLink RX10 109 yX10_isFlow, Cond.static yX10_isFlow, Cond.code yX10_isFlow cX10_isFlow 1 (some .boolean), Cond.methodLink RX10 336 yX9_heed, Cond.instanceMethod yX9_heed, Cond.selects RX9 yX9_heed yX9_heed, Cond.initialized RX9, Cond.code yX9_heed cX9_heed 4 (some .int), Cond.fieldLink RX9 15 "HeaderLine$Squeezer" "owes" "Z", Cond.fieldLink RX9 42 "HeaderLine$Squeezer" "held" "I", Cond.fieldLink RX9 49 "HeaderLine$Header" "number" "I", Cond.constant RX9 116 (65536), Cond.methodLink RX9 45 yX9_reference, Cond.instanceMethod yX9_reference, Cond.selects RX9 yX9_reference yX9_reference, Cond.code yX9_reference cX9_reference 2 (some (.object "HeaderLine$Header"))]
def wsX10_deliver_r5 : List Cond := [Cond.fieldLink RX9 21 "HeaderLine$Squeezer" "ring" "[LHeaderLine$Header;", Cond.fieldLink RX9 32 "HeaderLine$Squeezer" "first" "I", Cond.methodLink RX9 36 yJ9_floorMod_7cf53, Cond.static yJ9_floorMod_7cf53, Cond.initialized RJ9, Cond.code yJ9_floorMod_7cf53 cJ9_floorMod_7cf53 3 (some .int), Cond.methodLink RX9 107 yX9_dropOldest, Cond.instanceMethod yX9_dropOldest, Cond.selects RX9 yX9_dropOldest yX9_dropOldest, Cond.code yX9_dropOldest cX9_dropOldest 2 none, Cond.methodLink RX10 339 yX10_open, Cond.instanceMethod yX10_open, Cond.selects RX10 yX10_open yX10_open, Cond.code yX10_open cX10_open 4 (some .int), Cond.fieldLink RX10 164 "HeaderLine$Context" "isThere" "Z", Cond.fieldLink RX10 255 "HeaderLine$Context" "round" "I", Cond.fieldLink RX10 343 "HeaderLine$Arrival" "round" "I", Cond.fieldLink RX10 167 "HeaderLine$Context" "header" "LHeaderLine$Header;", Cond.fieldLink RX10 15 "HeaderLine" "window" "I", Cond.fieldLink RX10 352 "HeaderLine$Arrival" "sum" "I", Cond.fieldLink RX10 77 "HeaderLine" "latest" "LHeaderLine$Got;", Cond.methodLink RX10 344 yX0_rebuild, Cond.instanceMethod yX0_rebuild, Cond.selects RX0 yX0_rebuild yX0_rebuild]
def wsX10_deliver_r6 : List Cond := [Cond.code yX0_rebuild cX0_rebuild 8 none, Cond.fieldLink RX0 79 "HeaderLine$Context" "header" "LHeaderLine$Header;", Cond.fieldLink RX0 82 "HeaderLine$Context" "strides" "[I", Cond.fieldLink RX0 91 "HeaderLine$Header" "values" "[J", Cond.methodLink RX0 83 yX6_given, Cond.instanceMethod yX6_given, Cond.selects RX6 yX6_given yX6_given, Cond.code yX6_given cX6_given 7 (some .long), Cond.fieldLink RX6 49 "HeaderLine$Header" "number" "I", Cond.fieldLink RX6 43 "HeaderLine$Header" "values" "[J", Cond.fieldLink RX6 18 "HeaderLine$Plan" "ties" "[I", Cond.fieldLink RX6 21 "HeaderLine$Plan" "extras" "[I", Cond.methodLink RX6 52 yX6_lowBits, Cond.instanceMethod yX6_lowBits, Cond.selects RX6 yX6_lowBits yX6_lowBits, Cond.code yX6_lowBits cX6_lowBits 4 (some .long), Cond.fieldLink RX6 15 "HeaderLine$Plan" "widths" "[I", Cond.static yX10_lowest, Cond.code yX10_lowest cX10_lowest 3 (some .long), Cond.methodLink RX0 87 yX6_found, Cond.instanceMethod yX6_found, Cond.selects RX6 yX6_found yX6_found, Cond.code yX6_found cX6_found 9 (some .long), Cond.methodLink RX10 348 yX6_sumOf]
def wsX10_deliver_r7 : List Cond := [Cond.instanceMethod yX6_sumOf, Cond.selects RX6 yX6_sumOf yX6_sumOf, Cond.code yX6_sumOf cX6_sumOf 5 (some .int), Cond.constantLong RX6 39 (17), Cond.constantLong RX6 41 (31), Cond.methodLink RX10 355 yX2_accept, Cond.instanceMethod yX2_accept, Cond.selects RX2 yX2_accept yX2_accept, Cond.initialized RX2, Cond.code yX2_accept cX2_accept 3 none, Cond.fieldLink RX2 12 "HeaderLine$Got" "header" "LHeaderLine$Header;", Cond.fieldLink RX2 22 "HeaderLine$Arrival" "header" "LHeaderLine$Header;", Cond.fieldLink RX2 29 "HeaderLine$Arrival" "ways" "[I", Cond.fieldLink RX2 18 "HeaderLine$Got" "ways" "[I", Cond.methodLink RX2 30 arraycopyName, Cond.native arraycopyName, Cond.static arraycopyName, Cond.initialized "java/lang/System", Cond.fieldLink RX2 36 "HeaderLine$Arrival" "flow" "I", Cond.fieldLink RX2 40 "HeaderLine$Got" "flow" "I", Cond.fieldLink RX2 41 "HeaderLine$Got" "hungOn" "I", Cond.fieldLink RX2 44 "HeaderLine$Got" "total" "I", Cond.methodLink RX2 25 yX3_become, Cond.instanceMethod yX3_become]
def wsX10_deliver_r8 : List Cond := [Cond.selects RX3 yX3_become yX3_become, Cond.initialized RX3, Cond.code yX3_become cX3_become 2 none, Cond.fieldLink RX3 9 "HeaderLine$Header" "values" "[J", Cond.methodLink RX3 15 arraycopyName, Cond.fieldLink RX3 21 "HeaderLine$Header" "number" "I", Cond.methodLink RX10 359 yX1_accept, Cond.instanceMethod yX1_accept, Cond.selects RX1 yX1_accept yX1_accept, Cond.initialized RX1, Cond.code yX1_accept cX1_accept 2 none, Cond.fieldLink RX1 12 "HeaderLine$Context" "header" "LHeaderLine$Header;", Cond.fieldLink RX1 22 "HeaderLine$Arrival" "header" "LHeaderLine$Header;", Cond.fieldLink RX1 29 "HeaderLine$Context" "isThere" "Z", Cond.fieldLink RX1 33 "HeaderLine$Arrival" "kind" "I", Cond.fieldLink RX1 37 "HeaderLine$Arrival" "round" "I", Cond.fieldLink RX1 40 "HeaderLine$Context" "round" "I", Cond.fieldLink RX1 41 "HeaderLine$Arrival" "strides" "[I", Cond.fieldLink RX1 18 "HeaderLine$Context" "strides" "[I", Cond.methodLink RX1 42 arraycopyName, Cond.methodLink RX1 25 yX3_become]
def wsX10_deliver : List Cond := .code yX10_deliver cX10_deliver 3 (some .int) :: ((wsX10_deliver_r1 ++ (wsX10_deliver_r2 ++ (wsX10_deliver_r3 ++ (wsX10_deliver_r4 ++ (wsX10_deliver_r5 ++ (wsX10_deliver_r6 ++ (wsX10_deliver_r7 ++ wsX10_deliver_r8))))))) ++ wsX40 ++ wsX100 ++ wsX00 ++ wsX30 ++ wsX60 ++ wsX90 ++ wsX10 ++ wsX20)
def wsX10_lose : List Cond := .code yX10_lose cX10_lose 3 (some .int) :: ([.fieldLink RX10 188 "HeaderLine$Letter" "isLost" "Z", .fieldLink RX10 191 "HeaderLine" "lostCount" "I", .methodLink RX10 174 yX10_letterUnderWay, .instanceMethod yX10_letterUnderWay, .selects RX10 yX10_letterUnderWay yX10_letterUnderWay, .initialized RX10, .code yX10_letterUnderWay cX10_letterUnderWay 3 (some (.object "HeaderLine$Letter")), .methodLink RX10 223 yX10_letterAt, .instanceMethod yX10_letterAt, .selects RX10 yX10_letterAt yX10_letterAt, .code yX10_letterAt cX10_letterAt 2 (some (.object "HeaderLine$Letter")), .fieldLink RX10 88 "HeaderLine" "letterCount" "I", .fieldLink RX10 49 "HeaderLine" "letters" "[LHeaderLine$Letter;"] ++ wsX40 ++ wsX100)
def wsX10_twice_r1 : List Cond := [Cond.fieldLink RX10 178 "HeaderLine$Letter" "bytes" "[I", Cond.classLink RX10 47 RX4, Cond.instantiable RX4 9, Cond.initialized RX4, Cond.fieldLink RX10 200 "HeaderLine$Letter" "kind" "I", Cond.fieldLink RX10 203 "HeaderLine$Letter" "flow" "I", Cond.fieldLink RX10 206 "HeaderLine$Letter" "number" "I", Cond.fieldLink RX10 207 "HeaderLine$Letter" "bits" "I", Cond.fieldLink RX10 213 "HeaderLine$Letter" "isCopy" "Z", Cond.methodLink RX10 174 yX10_letterUnderWay, Cond.instanceMethod yX10_letterUnderWay, Cond.selects RX10 yX10_letterUnderWay yX10_letterUnderWay, Cond.initialized RX10, Cond.code yX10_letterUnderWay cX10_letterUnderWay 3 (some (.object "HeaderLine$Letter")), Cond.fieldLink RX10 188 "HeaderLine$Letter" "isLost" "Z", Cond.methodLink RX10 223 yX10_letterAt, Cond.instanceMethod yX10_letterAt, Cond.selects RX10 yX10_letterAt yX10_letterAt, Cond.code yX10_letterAt cX10_letterAt 2 (some (.object "HeaderLine$Letter")), Cond.fieldLink RX10 88 "HeaderLine" "letterCount" "I", Cond.fieldLink RX10 49 "HeaderLine" "letters" "[LHeaderLine$Letter;", Cond.methodLink RX10 123 yX10_isLineFull, Cond.instanceMethod yX10_isLineFull, Cond.selects RX10 yX10_isLineFull yX10_isLineFull]
def wsX10_twice_r2 : List Cond := [Cond.code yX10_isLineFull cX10_isLineFull 1 (some .boolean), Cond.methodLink RX10 194 yJ7_copyOf_59c91, Cond.static yJ7_copyOf_59c91, Cond.initialized RJ7, Cond.code yJ7_copyOf_59c91 cJ7_copyOf_59c91 3 (some (.array .int)), Cond.methodLink RJ7 316 ⟨"[I", "clone", "()Ljava/lang/Object;"⟩, Cond.sameMethod "[I" "java/lang/Object" "clone" "()Ljava/lang/Object;", Cond.native ⟨"java/lang/Object", "clone", "()Ljava/lang/Object;"⟩, Cond.instanceMethod ⟨"java/lang/Object", "clone", "()Ljava/lang/Object;"⟩, Cond.selects "[I" ⟨"[I", "clone", "()Ljava/lang/Object;"⟩ ⟨"java/lang/Object", "clone", "()Ljava/lang/Object;"⟩, Cond.classLink RJ7 317 "[I", Cond.arrayClass .int, Cond.methodLink RJ7 304 Lib.Math.min.name, Cond.static Lib.Math.min.name, Cond.initialized "java/lang/Math", Cond.code Lib.Math.min.name Lib.Math.min.code 2 (some .int), Cond.methodLink RJ7 150 arraycopyName, Cond.native arraycopyName, Cond.static arraycopyName, Cond.initialized "java/lang/System", Cond.methodLink RX10 210 yX4_init, Cond.instanceMethod yX4_init, Cond.code yX4_init cX4_init 6 none, Cond.methodLink RX4 1 objectInit]
def wsX10_twice_r3 : List Cond := [Cond.instanceMethod objectInit, Cond.code objectInit ⟨#[0xb1]⟩ 1 none, Cond.fieldLink RX4 7 "HeaderLine$Letter" "outcome" "I", Cond.fieldLink RX4 13 "HeaderLine$Letter" "kind" "I", Cond.fieldLink RX4 16 "HeaderLine$Letter" "flow" "I", Cond.fieldLink RX4 19 "HeaderLine$Letter" "number" "I", Cond.fieldLink RX4 22 "HeaderLine$Letter" "bytes" "[I", Cond.fieldLink RX4 26 "HeaderLine$Letter" "bits" "I", Cond.methodLink RX10 216 yX10_add, Cond.instanceMethod yX10_add, Cond.selects RX10 yX10_add yX10_add, Cond.code yX10_add cX10_add 2 (some .int)]
def wsX10_twice : List Cond := .code yX10_twice cX10_twice 5 (some .int) :: ((wsX10_twice_r1 ++ (wsX10_twice_r2 ++ wsX10_twice_r3)) ++ wsX40 ++ wsX100)
def wsX10_bend : List Cond := .code yX10_bend cX10_bend 5 (some .int) :: ([.fieldLink RX10 178 "HeaderLine$Letter" "bytes" "[I", .methodLink RX10 174 yX10_letterUnderWay, .instanceMethod yX10_letterUnderWay, .selects RX10 yX10_letterUnderWay yX10_letterUnderWay, .initialized RX10, .code yX10_letterUnderWay cX10_letterUnderWay 3 (some (.object "HeaderLine$Letter")), .fieldLink RX10 188 "HeaderLine$Letter" "isLost" "Z", .methodLink RX10 223 yX10_letterAt, .instanceMethod yX10_letterAt, .selects RX10 yX10_letterAt yX10_letterAt, .code yX10_letterAt cX10_letterAt 2 (some (.object "HeaderLine$Letter")), .fieldLink RX10 88 "HeaderLine" "letterCount" "I", .fieldLink RX10 49 "HeaderLine" "letters" "[LHeaderLine$Letter;", .methodLink RX10 220 yX4_hasByte, .instanceMethod yX4_hasByte, .selects RX4 yX4_hasByte yX4_hasByte, .initialized RX4, .code yX4_hasByte cX4_hasByte 2 (some .boolean), .fieldLink RX4 22 "HeaderLine$Letter" "bytes" "[I"] ++ wsX40 ++ wsX100)
def wsX10_octet : List Cond := .code yX10_octet cX10_octet 4 (some .int) :: ([.fieldLink RX10 178 "HeaderLine$Letter" "bytes" "[I", .methodLink RX10 223 yX10_letterAt, .instanceMethod yX10_letterAt, .selects RX10 yX10_letterAt yX10_letterAt, .initialized RX10, .code yX10_letterAt cX10_letterAt 2 (some (.object "HeaderLine$Letter")), .fieldLink RX10 88 "HeaderLine" "letterCount" "I", .fieldLink RX10 49 "HeaderLine" "letters" "[LHeaderLine$Letter;", .methodLink RX10 220 yX4_hasByte, .instanceMethod yX4_hasByte, .selects RX4 yX4_hasByte yX4_hasByte, .initialized RX4, .code yX4_hasByte cX4_hasByte 2 (some .boolean), .fieldLink RX4 22 "HeaderLine$Letter" "bytes" "[I"] ++ wsX40 ++ wsX100)
def wsX10_look : List Cond := .code yX10_look cX10_look 4 (some .int) :: ([.fieldLink RX10 200 "HeaderLine$Letter" "kind" "I", .fieldLink RX10 203 "HeaderLine$Letter" "flow" "I", .fieldLink RX10 206 "HeaderLine$Letter" "number" "I", .fieldLink RX10 178 "HeaderLine$Letter" "bytes" "[I", .fieldLink RX10 207 "HeaderLine$Letter" "bits" "I", .fieldLink RX10 185 "HeaderLine$Letter" "outcome" "I", .fieldLink RX10 188 "HeaderLine$Letter" "isLost" "Z", .methodLink RX10 223 yX10_letterAt, .instanceMethod yX10_letterAt, .selects RX10 yX10_letterAt yX10_letterAt, .initialized RX10, .code yX10_letterAt cX10_letterAt 2 (some (.object "HeaderLine$Letter")), .fieldLink RX10 88 "HeaderLine" "letterCount" "I", .fieldLink RX10 49 "HeaderLine" "letters" "[LHeaderLine$Letter;"] ++ wsX40 ++ wsX100)
def wsX10_prove : List Cond := .code yX10_prove cX10_prove 6 (some .int) :: ([.fieldLink RX10 226 "HeaderLine$Letter" "proof" "LHeaderLine$Proof;", .fieldLink RX10 22 "HeaderLine" "plan" "LHeaderLine$Plan;", .fieldLink RX10 230 "HeaderLine$Proof" "lengths" "[I", .fieldLink RX10 233 "HeaderLine$Proof" "misses" "[I", .fieldLink RX10 236 "HeaderLine$Proof" "references" "I", .fieldLink RX10 239 "HeaderLine$Proof" "oldest" "I", .methodLink RX10 223 yX10_letterAt, .instanceMethod yX10_letterAt, .selects RX10 yX10_letterAt yX10_letterAt, .initialized RX10, .code yX10_letterAt cX10_letterAt 2 (some (.object "HeaderLine$Letter")), .fieldLink RX10 88 "HeaderLine" "letterCount" "I", .fieldLink RX10 49 "HeaderLine" "letters" "[LHeaderLine$Letter;", .methodLink RX10 112 yX6_hasStride, .instanceMethod yX6_hasStride, .selects RX6 yX6_hasStride yX6_hasStride, .initialized RX6, .code yX6_hasStride cX6_hasStride 2 (some .boolean), .fieldLink RX6 9 "HeaderLine$Plan" "kinds" "[I", .methodLink RX6 24 yX6_has, .instanceMethod yX6_has, .selects RX6 yX6_has yX6_has, .code yX6_has cX6_has 2 (some .boolean), .fieldLink RX6 28 "HeaderLine$Plan" "size" "I"] ++ wsX40 ++ wsX100 ++ wsX70 ++ wsX60)
def wsX10_got : List Cond := .code yX10_got cX10_got 2 (some .long) :: ([.fieldLink RX10 22 "HeaderLine" "plan" "LHeaderLine$Plan;", .constantLong RX10 99 (-1), .fieldLink RX10 77 "HeaderLine" "latest" "LHeaderLine$Got;", .fieldLink RX10 242 "HeaderLine$Got" "total" "I", .constantLong RX10 245 (-2), .fieldLink RX10 247 "HeaderLine$Got" "header" "LHeaderLine$Header;", .fieldLink RX10 101 "HeaderLine$Header" "values" "[J", .methodLink RX10 95 yX6_has, .instanceMethod yX6_has, .selects RX6 yX6_has yX6_has, .initialized RX6, .code yX6_has cX6_has 2 (some .boolean), .fieldLink RX6 28 "HeaderLine$Plan" "size" "I"] ++ wsX100 ++ wsX20 ++ wsX30 ++ wsX60)
def wsX10_way : List Cond := .code yX10_way cX10_way 2 (some .int) :: ([.fieldLink RX10 22 "HeaderLine" "plan" "LHeaderLine$Plan;", .fieldLink RX10 77 "HeaderLine" "latest" "LHeaderLine$Got;", .fieldLink RX10 242 "HeaderLine$Got" "total" "I", .fieldLink RX10 248 "HeaderLine$Got" "ways" "[I", .methodLink RX10 95 yX6_has, .instanceMethod yX6_has, .selects RX6 yX6_has yX6_has, .initialized RX6, .code yX6_has cX6_has 2 (some .boolean), .fieldLink RX6 28 "HeaderLine$Plan" "size" "I"] ++ wsX100 ++ wsX20 ++ wsX60)
def wsX10_hung : List Cond := .code yX10_hung cX10_hung 2 (some .int) :: ([.fieldLink RX10 77 "HeaderLine" "latest" "LHeaderLine$Got;", .fieldLink RX10 242 "HeaderLine$Got" "total" "I", .fieldLink RX10 251 "HeaderLine$Got" "flow" "I", .fieldLink RX10 247 "HeaderLine$Got" "header" "LHeaderLine$Header;", .fieldLink RX10 130 "HeaderLine$Header" "number" "I", .fieldLink RX10 252 "HeaderLine$Got" "hungOn" "I"] ++ wsX100 ++ wsX20 ++ wsX30)
def wsX10_context : List Cond := .code yX10_context cX10_context 4 (some .int) :: ([.fieldLink RX10 41 "HeaderLine" "contexts" "[LHeaderLine$Context;", .fieldLink RX10 164 "HeaderLine$Context" "isThere" "Z", .fieldLink RX10 167 "HeaderLine$Context" "header" "LHeaderLine$Header;", .fieldLink RX10 130 "HeaderLine$Header" "number" "I", .fieldLink RX10 255 "HeaderLine$Context" "round" "I", .methodLink RX10 109 yX10_isFlow, .static yX10_isFlow, .initialized RX10, .code yX10_isFlow cX10_isFlow 1 (some .boolean)] ++ wsX100 ++ wsX10 ++ wsX30)
def wsX10_known : List Cond := .code yX10_known cX10_known 5 (some .long) :: ([.fieldLink RX10 22 "HeaderLine" "plan" "LHeaderLine$Plan;", .constantLong RX10 99 (-1), .fieldLink RX10 41 "HeaderLine" "contexts" "[LHeaderLine$Context;", .fieldLink RX10 164 "HeaderLine$Context" "isThere" "Z", .constantLong RX10 245 (-2), .fieldLink RX10 258 "HeaderLine$Context" "strides" "[I", .fieldLink RX10 167 "HeaderLine$Context" "header" "LHeaderLine$Header;", .fieldLink RX10 101 "HeaderLine$Header" "values" "[J", .methodLink RX10 109 yX10_isFlow, .static yX10_isFlow, .initialized RX10, .code yX10_isFlow cX10_isFlow 1 (some .boolean), .methodLink RX10 95 yX6_has, .instanceMethod yX6_has, .selects RX6 yX6_has yX6_has, .initialized RX6, .code yX6_has cX6_has 2 (some .boolean), .fieldLink RX6 28 "HeaderLine$Plan" "size" "I"] ++ wsX100 ++ wsX10 ++ wsX30 ++ wsX60)
def wsX10_squeezer_r1 : List Cond := [Cond.fieldLink RX10 35 "HeaderLine" "squeezers" "[LHeaderLine$Squeezer;", Cond.fieldLink RX10 127 "HeaderLine$Squeezer" "number" "I", Cond.fieldLink RX10 259 "HeaderLine$Squeezer" "round" "I", Cond.fieldLink RX10 260 "HeaderLine$Squeezer" "held" "I", Cond.fieldLink RX10 119 "HeaderLine$Squeezer" "owes" "Z", Cond.methodLink RX10 109 yX10_isFlow, Cond.static yX10_isFlow, Cond.initialized RX10, Cond.code yX10_isFlow cX10_isFlow 1 (some .boolean), Cond.methodLink RX10 263 yX9_oldestNumber, Cond.instanceMethod yX9_oldestNumber, Cond.selects RX9 yX9_oldestNumber yX9_oldestNumber, Cond.initialized RX9, Cond.code yX9_oldestNumber cX9_oldestNumber 1 (some .int), Cond.fieldLink RX9 42 "HeaderLine$Squeezer" "held" "I", Cond.fieldLink RX9 49 "HeaderLine$Header" "number" "I", Cond.methodLink RX9 45 yX9_reference, Cond.instanceMethod yX9_reference, Cond.selects RX9 yX9_reference yX9_reference, Cond.code yX9_reference cX9_reference 2 (some (.object "HeaderLine$Header")), Cond.fieldLink RX9 21 "HeaderLine$Squeezer" "ring" "[LHeaderLine$Header;", Cond.fieldLink RX9 32 "HeaderLine$Squeezer" "first" "I", Cond.methodLink RX9 36 yJ9_floorMod_7cf53, Cond.static yJ9_floorMod_7cf53]
def wsX10_squeezer_r2 : List Cond := [Cond.initialized RJ9, Cond.code yJ9_floorMod_7cf53 cJ9_floorMod_7cf53 3 (some .int)]
def wsX10_squeezer : List Cond := .code yX10_squeezer cX10_squeezer 4 (some .int) :: ((wsX10_squeezer_r1 ++ wsX10_squeezer_r2) ++ wsX100 ++ wsX90 ++ wsX30)
def wsX10_forget : List Cond := .code yX10_forget cX10_forget 4 (some .int) :: ([.fieldLink RX10 41 "HeaderLine" "contexts" "[LHeaderLine$Context;", .fieldLink RX10 164 "HeaderLine$Context" "isThere" "Z", .fieldLink RX10 35 "HeaderLine" "squeezers" "[LHeaderLine$Squeezer;", .fieldLink RX10 260 "HeaderLine$Squeezer" "held" "I", .fieldLink RX10 119 "HeaderLine$Squeezer" "owes" "Z", .methodLink RX10 109 yX10_isFlow, .static yX10_isFlow, .initialized RX10, .code yX10_isFlow cX10_isFlow 1 (some .boolean)] ++ wsX100 ++ wsX10 ++ wsX90)
def wsX10_spent_r1 : List Cond := [Cond.constantLong RX10 99 (-1), Cond.fieldLink RX10 88 "HeaderLine" "letterCount" "I", Cond.fieldLink RX10 49 "HeaderLine" "letters" "[LHeaderLine$Letter;", Cond.fieldLink RX10 213 "HeaderLine$Letter" "isCopy" "Z", Cond.fieldLink RX10 200 "HeaderLine$Letter" "kind" "I", Cond.fieldLink RX10 203 "HeaderLine$Letter" "flow" "I", Cond.fieldLink RX10 207 "HeaderLine$Letter" "bits" "I", Cond.fieldLink RX10 22 "HeaderLine" "plan" "LHeaderLine$Plan;", Cond.methodLink RX10 109 yX10_isFlow, Cond.static yX10_isFlow, Cond.initialized RX10, Cond.code yX10_isFlow cX10_isFlow 1 (some .boolean), Cond.methodLink RX10 267 yX6_wholeBits, Cond.instanceMethod yX6_wholeBits, Cond.selects RX6 yX6_wholeBits yX6_wholeBits, Cond.initialized RX6, Cond.code yX6_wholeBits cX6_wholeBits 3 (some .int), Cond.fieldLink RX6 28 "HeaderLine$Plan" "size" "I", Cond.fieldLink RX6 15 "HeaderLine$Plan" "widths" "[I", Cond.methodLink RX6 36 yX6_hasStride, Cond.instanceMethod yX6_hasStride, Cond.selects RX6 yX6_hasStride yX6_hasStride, Cond.code yX6_hasStride cX6_hasStride 2 (some .boolean), Cond.fieldLink RX6 9 "HeaderLine$Plan" "kinds" "[I"]
def wsX10_spent_r2 : List Cond := [Cond.methodLink RX6 24 yX6_has, Cond.instanceMethod yX6_has, Cond.selects RX6 yX6_has yX6_has, Cond.code yX6_has cX6_has 2 (some .boolean)]
def wsX10_spent : List Cond := .code yX10_spent cX10_spent 10 (some .long) :: ((wsX10_spent_r1 ++ wsX10_spent_r2) ++ wsX100 ++ wsX40 ++ wsX60)
def wsX10_isShelf : List Cond := .code yX10_isShelf cX10_isShelf 1 (some .boolean) :: ([])
def wsX10_keepLetter_r1 : List Cond := [Cond.fieldLink RX10 178 "HeaderLine$Letter" "bytes" "[I", Cond.fieldLink RX10 366 "HeaderLine$Shelf" "size" "I", Cond.fieldLink RX10 301 "HeaderLine$Shelf" "row" "[J", Cond.methodLink RX10 362 yX8_holdLetter, Cond.instanceMethod yX8_holdLetter, Cond.selects RX8 yX8_holdLetter yX8_holdLetter, Cond.initialized RX8, Cond.code yX8_holdLetter cX8_holdLetter 2 none, Cond.fieldLink RX8 15 "HeaderLine$Shelf" "holds" "I", Cond.fieldLink RX8 19 "HeaderLine$Letter" "kind" "I", Cond.fieldLink RX8 24 "HeaderLine$Shelf" "letterKind" "I", Cond.fieldLink RX8 27 "HeaderLine$Letter" "bytes" "[I", Cond.fieldLink RX8 31 "HeaderLine$Shelf" "letterBytes" "I", Cond.methodLink RX10 287 yX8_holdRow, Cond.instanceMethod yX8_holdRow, Cond.selects RX8 yX8_holdRow yX8_holdRow, Cond.code yX8_holdRow cX8_holdRow 3 none, Cond.methodLink RX8 34 Lib.Math.min.name, Cond.static Lib.Math.min.name, Cond.initialized "java/lang/Math", Cond.code Lib.Math.min.name Lib.Math.min.code 2 (some .int), Cond.methodLink RX8 40 Lib.Math.max.name, Cond.static Lib.Math.max.name, Cond.code Lib.Math.max.name Lib.Math.max.code 2 (some .int)]
def wsX10_keepLetter_r2 : List Cond := [Cond.fieldLink RX8 43 "HeaderLine$Shelf" "size" "I", Cond.fieldLink RX8 9 "HeaderLine$Shelf" "row" "[J", Cond.methodLink RX8 46 yJ7_fill_d0a16, Cond.static yJ7_fill_d0a16, Cond.initialized RJ7, Cond.code yJ7_fill_d0a16 cJ7_fill_d0a16 5 none]
def wsX10_keepLetter : List Cond := .code yX10_keepLetter cX10_keepLetter 4 (some .int) :: ((wsX10_keepLetter_r1 ++ wsX10_keepLetter_r2) ++ wsX40 ++ wsX80)
def wsX10_keepReferences_r1 : List Cond := [Cond.fieldLink RX10 35 "HeaderLine" "squeezers" "[LHeaderLine$Squeezer;", Cond.fieldLink RX10 260 "HeaderLine$Squeezer" "held" "I", Cond.fieldLink RX10 366 "HeaderLine$Shelf" "size" "I", Cond.fieldLink RX10 301 "HeaderLine$Shelf" "row" "[J", Cond.fieldLink RX10 130 "HeaderLine$Header" "number" "I", Cond.methodLink RX10 109 yX10_isFlow, Cond.static yX10_isFlow, Cond.initialized RX10, Cond.code yX10_isFlow cX10_isFlow 1 (some .boolean), Cond.methodLink RX10 287 yX8_holdRow, Cond.instanceMethod yX8_holdRow, Cond.selects RX8 yX8_holdRow yX8_holdRow, Cond.initialized RX8, Cond.code yX8_holdRow cX8_holdRow 3 none, Cond.fieldLink RX8 15 "HeaderLine$Shelf" "holds" "I", Cond.methodLink RX8 34 Lib.Math.min.name, Cond.static Lib.Math.min.name, Cond.initialized "java/lang/Math", Cond.code Lib.Math.min.name Lib.Math.min.code 2 (some .int), Cond.methodLink RX8 40 Lib.Math.max.name, Cond.static Lib.Math.max.name, Cond.code Lib.Math.max.name Lib.Math.max.code 2 (some .int), Cond.fieldLink RX8 43 "HeaderLine$Shelf" "size" "I", Cond.fieldLink RX8 9 "HeaderLine$Shelf" "row" "[J"]
def wsX10_keepReferences_r2 : List Cond := [Cond.methodLink RX8 46 yJ7_fill_d0a16, Cond.static yJ7_fill_d0a16, Cond.initialized RJ7, Cond.code yJ7_fill_d0a16 cJ7_fill_d0a16 5 none, Cond.methodLink RX10 367 yX9_reference, Cond.instanceMethod yX9_reference, Cond.selects RX9 yX9_reference yX9_reference, Cond.initialized RX9, Cond.code yX9_reference cX9_reference 2 (some (.object "HeaderLine$Header")), Cond.fieldLink RX9 21 "HeaderLine$Squeezer" "ring" "[LHeaderLine$Header;", Cond.fieldLink RX9 32 "HeaderLine$Squeezer" "first" "I", Cond.methodLink RX9 36 yJ9_floorMod_7cf53, Cond.static yJ9_floorMod_7cf53, Cond.initialized RJ9, Cond.code yJ9_floorMod_7cf53 cJ9_floorMod_7cf53 3 (some .int)]
def wsX10_keepReferences : List Cond := .code yX10_keepReferences cX10_keepReferences 5 (some .int) :: ((wsX10_keepReferences_r1 ++ wsX10_keepReferences_r2) ++ wsX100 ++ wsX90 ++ wsX80 ++ wsX30)
def wsX10_keepContext_r1 : List Cond := [Cond.fieldLink RX10 41 "HeaderLine" "contexts" "[LHeaderLine$Context;", Cond.fieldLink RX10 164 "HeaderLine$Context" "isThere" "Z", Cond.fieldLink RX10 22 "HeaderLine" "plan" "LHeaderLine$Plan;", Cond.fieldLink RX10 85 "HeaderLine$Plan" "size" "I", Cond.fieldLink RX10 366 "HeaderLine$Shelf" "size" "I", Cond.fieldLink RX10 301 "HeaderLine$Shelf" "row" "[J", Cond.fieldLink RX10 167 "HeaderLine$Context" "header" "LHeaderLine$Header;", Cond.fieldLink RX10 101 "HeaderLine$Header" "values" "[J", Cond.methodLink RX10 109 yX10_isFlow, Cond.static yX10_isFlow, Cond.initialized RX10, Cond.code yX10_isFlow cX10_isFlow 1 (some .boolean), Cond.methodLink RX10 287 yX8_holdRow, Cond.instanceMethod yX8_holdRow, Cond.selects RX8 yX8_holdRow yX8_holdRow, Cond.initialized RX8, Cond.code yX8_holdRow cX8_holdRow 3 none, Cond.fieldLink RX8 15 "HeaderLine$Shelf" "holds" "I", Cond.methodLink RX8 34 Lib.Math.min.name, Cond.static Lib.Math.min.name, Cond.initialized "java/lang/Math", Cond.code Lib.Math.min.name Lib.Math.min.code 2 (some .int), Cond.methodLink RX8 40 Lib.Math.max.name, Cond.static Lib.Math.max.name]
def wsX10_keepContext_r2 : List Cond := [Cond.code Lib.Math.max.name Lib.Math.max.code 2 (some .int), Cond.fieldLink RX8 43 "HeaderLine$Shelf" "size" "I", Cond.fieldLink RX8 9 "HeaderLine$Shelf" "row" "[J", Cond.methodLink RX8 46 yJ7_fill_d0a16, Cond.static yJ7_fill_d0a16, Cond.initialized RJ7, Cond.code yJ7_fill_d0a16 cJ7_fill_d0a16 5 none]
def wsX10_keepContext : List Cond := .code yX10_keepContext cX10_keepContext 4 (some .int) :: ((wsX10_keepContext_r1 ++ wsX10_keepContext_r2) ++ wsX100 ++ wsX10 ++ wsX60 ++ wsX80 ++ wsX30)
def wsX10_keep_r1 : List Cond := [Cond.fieldLink RX10 55 "HeaderLine" "shelves" "[LHeaderLine$Shelf;", Cond.fieldLink RX10 273 "HeaderLine$Shelf" "holds" "I", Cond.methodLink RX10 270 yX10_isShelf, Cond.static yX10_isShelf, Cond.initialized RX10, Cond.code yX10_isShelf cX10_isShelf 1 (some .boolean), Cond.methodLink RX10 223 yX10_letterAt, Cond.instanceMethod yX10_letterAt, Cond.selects RX10 yX10_letterAt yX10_letterAt, Cond.code yX10_letterAt cX10_letterAt 2 (some (.object "HeaderLine$Letter")), Cond.fieldLink RX10 88 "HeaderLine" "letterCount" "I", Cond.fieldLink RX10 49 "HeaderLine" "letters" "[LHeaderLine$Letter;", Cond.methodLink RX10 276 yX10_keepLetter, Cond.static yX10_keepLetter, Cond.code yX10_keepLetter cX10_keepLetter 4 (some .int), Cond.fieldLink RX10 178 "HeaderLine$Letter" "bytes" "[I", Cond.fieldLink RX10 366 "HeaderLine$Shelf" "size" "I", Cond.fieldLink RX10 301 "HeaderLine$Shelf" "row" "[J", Cond.methodLink RX10 362 yX8_holdLetter, Cond.instanceMethod yX8_holdLetter, Cond.selects RX8 yX8_holdLetter yX8_holdLetter, Cond.initialized RX8, Cond.code yX8_holdLetter cX8_holdLetter 2 none, Cond.fieldLink RX8 15 "HeaderLine$Shelf" "holds" "I"]
def wsX10_keep_r2 : List Cond := [Cond.fieldLink RX8 19 "HeaderLine$Letter" "kind" "I", Cond.fieldLink RX8 24 "HeaderLine$Shelf" "letterKind" "I", Cond.fieldLink RX8 27 "HeaderLine$Letter" "bytes" "[I", Cond.fieldLink RX8 31 "HeaderLine$Shelf" "letterBytes" "I", Cond.methodLink RX10 287 yX8_holdRow, Cond.instanceMethod yX8_holdRow, Cond.selects RX8 yX8_holdRow yX8_holdRow, Cond.code yX8_holdRow cX8_holdRow 3 none, Cond.methodLink RX8 34 Lib.Math.min.name, Cond.static Lib.Math.min.name, Cond.initialized "java/lang/Math", Cond.code Lib.Math.min.name Lib.Math.min.code 2 (some .int), Cond.methodLink RX8 40 Lib.Math.max.name, Cond.static Lib.Math.max.name, Cond.code Lib.Math.max.name Lib.Math.max.code 2 (some .int), Cond.fieldLink RX8 43 "HeaderLine$Shelf" "size" "I", Cond.fieldLink RX8 9 "HeaderLine$Shelf" "row" "[J", Cond.methodLink RX8 46 yJ7_fill_d0a16, Cond.static yJ7_fill_d0a16, Cond.initialized RJ7, Cond.code yJ7_fill_d0a16 cJ7_fill_d0a16 5 none, Cond.methodLink RX10 280 yX10_keepReferences, Cond.instanceMethod yX10_keepReferences, Cond.selects RX10 yX10_keepReferences yX10_keepReferences]
def wsX10_keep_r3 : List Cond := [Cond.code yX10_keepReferences cX10_keepReferences 5 (some .int), Cond.fieldLink RX10 35 "HeaderLine" "squeezers" "[LHeaderLine$Squeezer;", Cond.fieldLink RX10 260 "HeaderLine$Squeezer" "held" "I", Cond.fieldLink RX10 130 "HeaderLine$Header" "number" "I", Cond.methodLink RX10 109 yX10_isFlow, Cond.static yX10_isFlow, Cond.code yX10_isFlow cX10_isFlow 1 (some .boolean), Cond.methodLink RX10 367 yX9_reference, Cond.instanceMethod yX9_reference, Cond.selects RX9 yX9_reference yX9_reference, Cond.initialized RX9, Cond.code yX9_reference cX9_reference 2 (some (.object "HeaderLine$Header")), Cond.fieldLink RX9 21 "HeaderLine$Squeezer" "ring" "[LHeaderLine$Header;", Cond.fieldLink RX9 32 "HeaderLine$Squeezer" "first" "I", Cond.methodLink RX9 36 yJ9_floorMod_7cf53, Cond.static yJ9_floorMod_7cf53, Cond.initialized RJ9, Cond.code yJ9_floorMod_7cf53 cJ9_floorMod_7cf53 3 (some .int), Cond.methodLink RX10 284 yX10_keepContext, Cond.instanceMethod yX10_keepContext, Cond.selects RX10 yX10_keepContext yX10_keepContext, Cond.code yX10_keepContext cX10_keepContext 4 (some .int), Cond.fieldLink RX10 41 "HeaderLine" "contexts" "[LHeaderLine$Context;", Cond.fieldLink RX10 164 "HeaderLine$Context" "isThere" "Z"]
def wsX10_keep_r4 : List Cond := [Cond.fieldLink RX10 22 "HeaderLine" "plan" "LHeaderLine$Plan;", Cond.fieldLink RX10 85 "HeaderLine$Plan" "size" "I", Cond.fieldLink RX10 167 "HeaderLine$Context" "header" "LHeaderLine$Header;", Cond.fieldLink RX10 101 "HeaderLine$Header" "values" "[J"]
def wsX10_keep : List Cond := .code yX10_keep cX10_keep 5 (some .int) :: ((wsX10_keep_r1 ++ (wsX10_keep_r2 ++ (wsX10_keep_r3 ++ wsX10_keep_r4))) ++ wsX100 ++ wsX80 ++ wsX40 ++ wsX90 ++ wsX30 ++ wsX10 ++ wsX60)
def wsX10_make : List Cond := .code yX10_make cX10_make 4 (some .int) :: ([.fieldLink RX10 55 "HeaderLine" "shelves" "[LHeaderLine$Shelf;", .methodLink RX10 270 yX10_isShelf, .static yX10_isShelf, .initialized RX10, .code yX10_isShelf cX10_isShelf 1 (some .boolean), .methodLink RX10 287 yX8_holdRow, .instanceMethod yX8_holdRow, .selects RX8 yX8_holdRow yX8_holdRow, .initialized RX8, .code yX8_holdRow cX8_holdRow 3 none, .fieldLink RX8 15 "HeaderLine$Shelf" "holds" "I", .methodLink RX8 34 Lib.Math.min.name, .static Lib.Math.min.name, .initialized "java/lang/Math", .code Lib.Math.min.name Lib.Math.min.code 2 (some .int), .methodLink RX8 40 Lib.Math.max.name, .static Lib.Math.max.name, .code Lib.Math.max.name Lib.Math.max.code 2 (some .int), .fieldLink RX8 43 "HeaderLine$Shelf" "size" "I", .fieldLink RX8 9 "HeaderLine$Shelf" "row" "[J", .methodLink RX8 46 yJ7_fill_d0a16, .static yJ7_fill_d0a16, .initialized RJ7, .code yJ7_fill_d0a16 cJ7_fill_d0a16 5 none] ++ wsX100 ++ wsX80)
def wsX10_put : List Cond := .code yX10_put cX10_put 7 (some .long) :: ([.constantLong RX10 99 (-1), .fieldLink RX10 55 "HeaderLine" "shelves" "[LHeaderLine$Shelf;", .fieldLink RX10 273 "HeaderLine$Shelf" "holds" "I", .constantLong RX10 291 (-11), .constantLong RX10 293 (-12), .constantLong RX10 299 (-13), .fieldLink RX10 301 "HeaderLine$Shelf" "row" "[J", .methodLink RX10 270 yX10_isShelf, .static yX10_isShelf, .initialized RX10, .code yX10_isShelf cX10_isShelf 1 (some .boolean), .methodLink RX10 295 yX8_hasPlaces, .instanceMethod yX8_hasPlaces, .selects RX8 yX8_hasPlaces yX8_hasPlaces, .initialized RX8, .code yX8_hasPlaces cX8_hasPlaces 3 (some .boolean), .fieldLink RX8 43 "HeaderLine$Shelf" "size" "I"] ++ wsX100 ++ wsX80)
def wsX10_copy : List Cond := .code yX10_copy cX10_copy 8 (some .int) :: ([.fieldLink RX10 55 "HeaderLine" "shelves" "[LHeaderLine$Shelf;", .fieldLink RX10 273 "HeaderLine$Shelf" "holds" "I", .fieldLink RX10 301 "HeaderLine$Shelf" "row" "[J", .methodLink RX10 304 arraycopyName, .native arraycopyName, .static arraycopyName, .initialized "java/lang/System", .methodLink RX10 270 yX10_isShelf, .static yX10_isShelf, .initialized RX10, .code yX10_isShelf cX10_isShelf 1 (some .boolean), .methodLink RX10 295 yX8_hasPlaces, .instanceMethod yX8_hasPlaces, .selects RX8 yX8_hasPlaces yX8_hasPlaces, .initialized RX8, .code yX8_hasPlaces cX8_hasPlaces 3 (some .boolean), .fieldLink RX8 43 "HeaderLine$Shelf" "size" "I"] ++ wsX100 ++ wsX80)
def wsX10_refusalOfLetterOn : List Cond := .code yX10_refusalOfLetterOn cX10_refusalOfLetterOn 2 (some .int) :: ([.fieldLink RX10 55 "HeaderLine" "shelves" "[LHeaderLine$Shelf;", .fieldLink RX10 273 "HeaderLine$Shelf" "holds" "I", .methodLink RX10 270 yX10_isShelf, .static yX10_isShelf, .initialized RX10, .code yX10_isShelf cX10_isShelf 1 (some .boolean)] ++ wsX100 ++ wsX80)
def wsX10_worth : List Cond := .code yX10_worth cX10_worth 5 (some .int) :: ([.fieldLink RX10 55 "HeaderLine" "shelves" "[LHeaderLine$Shelf;", .fieldLink RX10 314 "HeaderLine$Shelf" "letterKind" "I", .fieldLink RX10 317 "HeaderLine$Shelf" "letterBytes" "I", .methodLink RX10 310 yX10_refusalOfLetterOn, .instanceMethod yX10_refusalOfLetterOn, .selects RX10 yX10_refusalOfLetterOn yX10_refusalOfLetterOn, .initialized RX10, .code yX10_refusalOfLetterOn cX10_refusalOfLetterOn 2 (some .int), .fieldLink RX10 273 "HeaderLine$Shelf" "holds" "I", .methodLink RX10 270 yX10_isShelf, .static yX10_isShelf, .code yX10_isShelf cX10_isShelf 1 (some .boolean)] ++ wsX100 ++ wsX80)
def wsX10_toss : List Cond := .code yX10_toss cX10_toss 4 (some .int) :: ([.fieldLink RX10 55 "HeaderLine" "shelves" "[LHeaderLine$Shelf;", .fieldLink RX10 314 "HeaderLine$Shelf" "letterKind" "I", .methodLink RX10 310 yX10_refusalOfLetterOn, .instanceMethod yX10_refusalOfLetterOn, .selects RX10 yX10_refusalOfLetterOn yX10_refusalOfLetterOn, .initialized RX10, .code yX10_refusalOfLetterOn cX10_refusalOfLetterOn 2 (some .int), .fieldLink RX10 273 "HeaderLine$Shelf" "holds" "I", .methodLink RX10 270 yX10_isShelf, .static yX10_isShelf, .code yX10_isShelf cX10_isShelf 1 (some .boolean)] ++ wsX100 ++ wsX80)
def wsX10_count : List Cond := .code yX10_count cX10_count 2 (some .int) :: ([.fieldLink RX10 22 "HeaderLine" "plan" "LHeaderLine$Plan;", .fieldLink RX10 85 "HeaderLine$Plan" "size" "I", .fieldLink RX10 88 "HeaderLine" "letterCount" "I", .fieldLink RX10 15 "HeaderLine" "window" "I", .fieldLink RX10 191 "HeaderLine" "lostCount" "I"] ++ wsX100 ++ wsX60)
def wsX11_init_r1 : List Cond := [Cond.methodLink RX11 1 objectInit, Cond.instanceMethod objectInit, Cond.code objectInit ⟨#[0xb1]⟩ 1 none, Cond.arrayClass .int, Cond.fieldLink RX11 7 "HeaderLineModel" "kind" "[I", Cond.fieldLink RX11 13 "HeaderLineModel" "width" "[I", Cond.fieldLink RX11 16 "HeaderLineModel" "tied" "[I", Cond.arrayClass .long, Cond.fieldLink RX11 19 "HeaderLineModel" "extra" "[J", Cond.fieldLink RX11 23 "HeaderLineModel" "draft" "[J", Cond.fieldLink RX11 26 "HeaderLineModel" "told" "[I", Cond.fieldLink RX11 29 "HeaderLineModel" "round" "[I", Cond.fieldLink RX11 32 "HeaderLineModel" "stride" "[I", Cond.arrayClass .boolean, Cond.fieldLink RX11 35 "HeaderLineModel" "owes" "[Z", Cond.fieldLink RX11 39 "HeaderLineModel" "references" "[I", Cond.fieldLink RX11 42 "HeaderLineModel" "number" "[I", Cond.fieldLink RX11 45 "HeaderLineModel" "header" "[J", Cond.fieldLink RX11 48 "HeaderLineModel" "bytes" "[I", Cond.fieldLink RX11 51 "HeaderLineModel" "row" "[I", Cond.fieldLink RX11 54 "HeaderLineModel" "letterKind" "[I", Cond.fieldLink RX11 57 "HeaderLineModel" "letterFlow" "[I", Cond.fieldLink RX11 60 "HeaderLineModel" "letterNumber" "[I", Cond.fieldLink RX11 63 "HeaderLineModel" "bits" "[I"]
def wsX11_init_r2 : List Cond := [Cond.fieldLink RX11 66 "HeaderLineModel" "outcome" "[I", Cond.fieldLink RX11 69 "HeaderLineModel" "lost" "[Z", Cond.fieldLink RX11 72 "HeaderLineModel" "copied" "[Z", Cond.fieldLink RX11 75 "HeaderLineModel" "proven" "[I", Cond.fieldLink RX11 78 "HeaderLineModel" "against" "[I", Cond.fieldLink RX11 81 "HeaderLineModel" "hangs" "[I", Cond.fieldLink RX11 84 "HeaderLineModel" "oldest" "[I", Cond.fieldLink RX11 87 "HeaderLineModel" "has" "[Z", Cond.fieldLink RX11 90 "HeaderLineModel" "contextNumber" "[I", Cond.fieldLink RX11 93 "HeaderLineModel" "contextRound" "[I", Cond.fieldLink RX11 96 "HeaderLineModel" "contextStride" "[I", Cond.fieldLink RX11 99 "HeaderLineModel" "context" "[J", Cond.fieldLink RX11 102 "HeaderLineModel" "got" "[J", Cond.fieldLink RX11 105 "HeaderLineModel" "way" "[I", Cond.fieldLink RX11 108 "HeaderLineModel" "bit" "[I", Cond.fieldLink RX11 111 "HeaderLineModel" "stands" "[I", Cond.fieldLink RX11 114 "HeaderLineModel" "by" "[I", Cond.fieldLink RX11 117 "HeaderLineModel" "value" "[J", Cond.fieldLink RX11 120 "HeaderLineModel" "steps" "[I", Cond.fieldLink RX11 123 "HeaderLineModel" "next" "[J", Cond.fieldLink RX11 126 "HeaderLineModel" "held" "[I", Cond.fieldLink RX11 129 "HeaderLineModel" "heldSize" "[I", Cond.fieldLink RX11 132 "HeaderLineModel" "heldKind" "[I", Cond.fieldLink RX11 135 "HeaderLineModel" "heldRow" "[J"]
def wsX11_init_r3 : List Cond := [Cond.fieldLink RX11 138 "HeaderLineModel" "between" "[J", Cond.fieldLink RX11 141 "HeaderLineModel" "window" "I"]
def wsX11_init : List Cond := .code yX11_init cX11_init 3 none :: ((wsX11_init_r1 ++ (wsX11_init_r2 ++ wsX11_init_r3)) ++ wsX110)
def wsX11_isIn : List Cond := .code yX11_isIn cX11_isIn 6 (some .boolean) :: ([])
def wsX11_isField : List Cond := .code yX11_isField cX11_isField 2 (some .boolean) :: ([.fieldLink RX11 148 "HeaderLineModel" "fields" "I"] ++ wsX110)
def wsX11_isFlow : List Cond := .code yX11_isFlow cX11_isFlow 1 (some .boolean) :: ([])
def wsX11_cut : List Cond := .code yX11_cut cX11_cut 4 (some .long) :: ([.fieldLink RX11 13 "HeaderLineModel" "width" "[I"] ++ wsX110)
def wsX11_runs : List Cond := .code yX11_runs cX11_runs 2 (some .boolean) :: ([.fieldLink RX11 7 "HeaderLineModel" "kind" "[I"] ++ wsX110)
def wsX11_field : List Cond := .code yX11_field cX11_field 6 (some .int) :: ([.fieldLink RX11 145 "HeaderLineModel" "thrown" "I", .constantLong RX11 151 (4), .constantLong RX11 157 (32), .constantLong RX11 163 (1000), .fieldLink RX11 148 "HeaderLineModel" "fields" "I", .fieldLink RX11 165 "HeaderLineModel" "closed" "Z", .fieldLink RX11 7 "HeaderLineModel" "kind" "[I", .fieldLink RX11 13 "HeaderLineModel" "width" "[I", .fieldLink RX11 16 "HeaderLineModel" "tied" "[I", .fieldLink RX11 19 "HeaderLineModel" "extra" "[J", .fieldLink RX11 23 "HeaderLineModel" "draft" "[J", .methodLink RX11 153 yX11_isIn, .static yX11_isIn, .initialized RX11, .code yX11_isIn cX11_isIn 6 (some .boolean), .methodLink RX11 159 yX11_isField, .instanceMethod yX11_isField, .selects RX11 yX11_isField yX11_isField, .code yX11_isField cX11_isField 2 (some .boolean)] ++ wsX110)
def wsX11_set : List Cond := .code yX11_set cX11_set 6 (some .long) :: ([.fieldLink RX11 145 "HeaderLineModel" "thrown" "I", .constantLong RX11 169 (-1), .fieldLink RX11 23 "HeaderLineModel" "draft" "[J", .methodLink RX11 159 yX11_isField, .instanceMethod yX11_isField, .selects RX11 yX11_isField yX11_isField, .initialized RX11, .code yX11_isField cX11_isField 2 (some .boolean), .fieldLink RX11 148 "HeaderLineModel" "fields" "I", .methodLink RX11 171 yX11_cut, .instanceMethod yX11_cut, .selects RX11 yX11_cut yX11_cut, .code yX11_cut cX11_cut 4 (some .long), .fieldLink RX11 13 "HeaderLineModel" "width" "[I"] ++ wsX110)
def wsX11_stride : List Cond := .code yX11_stride cX11_stride 5 (some .int) :: ([.fieldLink RX11 145 "HeaderLineModel" "thrown" "I", .constantLong RX11 181 (255), .fieldLink RX11 32 "HeaderLineModel" "stride" "[I", .fieldLink RX11 35 "HeaderLineModel" "owes" "[Z", .methodLink RX11 175 yX11_isFlow, .static yX11_isFlow, .initialized RX11, .code yX11_isFlow cX11_isFlow 1 (some .boolean), .methodLink RX11 159 yX11_isField, .instanceMethod yX11_isField, .selects RX11 yX11_isField yX11_isField, .code yX11_isField cX11_isField 2 (some .boolean), .fieldLink RX11 148 "HeaderLineModel" "fields" "I", .methodLink RX11 178 yX11_runs, .instanceMethod yX11_runs, .selects RX11 yX11_runs yX11_runs, .code yX11_runs cX11_runs 2 (some .boolean), .fieldLink RX11 7 "HeaderLineModel" "kind" "[I", .methodLink RX11 153 yX11_isIn, .static yX11_isIn, .code yX11_isIn cX11_isIn 6 (some .boolean)] ++ wsX110)
def wsX11_onwards : List Cond := .code yX11_onwards cX11_onwards 6 (some .long) :: ([.fieldLink RX11 7 "HeaderLineModel" "kind" "[I", .fieldLink RX11 19 "HeaderLineModel" "extra" "[J", .methodLink RX11 171 yX11_cut, .instanceMethod yX11_cut, .selects RX11 yX11_cut yX11_cut, .initialized RX11, .code yX11_cut cX11_cut 4 (some .long), .fieldLink RX11 13 "HeaderLineModel" "width" "[I"] ++ wsX110)
def wsX11_given : List Cond := .code yX11_given cX11_given 6 (some .long) :: ([.fieldLink RX11 7 "HeaderLineModel" "kind" "[I", .fieldLink RX11 23 "HeaderLineModel" "draft" "[J", .fieldLink RX11 16 "HeaderLineModel" "tied" "[I", .fieldLink RX11 19 "HeaderLineModel" "extra" "[J", .fieldLink RX11 45 "HeaderLineModel" "header" "[J", .fieldLink RX11 42 "HeaderLineModel" "number" "[I", .fieldLink RX11 32 "HeaderLineModel" "stride" "[I", .methodLink RX11 171 yX11_cut, .instanceMethod yX11_cut, .selects RX11 yX11_cut yX11_cut, .initialized RX11, .code yX11_cut cX11_cut 4 (some .long), .fieldLink RX11 13 "HeaderLineModel" "width" "[I", .methodLink RX11 183 yX11_onwards, .instanceMethod yX11_onwards, .selects RX11 yX11_onwards yX11_onwards, .code yX11_onwards cX11_onwards 6 (some .long)] ++ wsX110)
def wsX11_finds : List Cond := .code yX11_finds cX11_finds 7 (some .boolean) :: ([.methodLink RX11 171 yX11_cut, .instanceMethod yX11_cut, .selects RX11 yX11_cut yX11_cut, .initialized RX11, .code yX11_cut cX11_cut 4 (some .long), .fieldLink RX11 13 "HeaderLineModel" "width" "[I"] ++ wsX110)
def wsX11_giveAll : List Cond := .code yX11_giveAll cX11_giveAll 6 (some .boolean) :: ([.fieldLink RX11 39 "HeaderLineModel" "references" "[I", .fieldLink RX11 23 "HeaderLineModel" "draft" "[J", .methodLink RX11 187 yX11_given, .instanceMethod yX11_given, .selects RX11 yX11_given yX11_given, .initialized RX11, .code yX11_given cX11_given 6 (some .long), .fieldLink RX11 7 "HeaderLineModel" "kind" "[I", .fieldLink RX11 16 "HeaderLineModel" "tied" "[I", .fieldLink RX11 19 "HeaderLineModel" "extra" "[J", .fieldLink RX11 45 "HeaderLineModel" "header" "[J", .fieldLink RX11 42 "HeaderLineModel" "number" "[I", .fieldLink RX11 32 "HeaderLineModel" "stride" "[I", .methodLink RX11 171 yX11_cut, .instanceMethod yX11_cut, .selects RX11 yX11_cut yX11_cut, .code yX11_cut cX11_cut 4 (some .long), .fieldLink RX11 13 "HeaderLineModel" "width" "[I", .methodLink RX11 183 yX11_onwards, .instanceMethod yX11_onwards, .selects RX11 yX11_onwards yX11_onwards, .code yX11_onwards cX11_onwards 6 (some .long)] ++ wsX110)
def wsX11_serves_r1 : List Cond := [Cond.fieldLink RX11 39 "HeaderLineModel" "references" "[I", Cond.fieldLink RX11 23 "HeaderLineModel" "draft" "[J", Cond.methodLink RX11 187 yX11_given, Cond.instanceMethod yX11_given, Cond.selects RX11 yX11_given yX11_given, Cond.initialized RX11, Cond.code yX11_given cX11_given 6 (some .long), Cond.fieldLink RX11 7 "HeaderLineModel" "kind" "[I", Cond.fieldLink RX11 16 "HeaderLineModel" "tied" "[I", Cond.fieldLink RX11 19 "HeaderLineModel" "extra" "[J", Cond.fieldLink RX11 45 "HeaderLineModel" "header" "[J", Cond.fieldLink RX11 42 "HeaderLineModel" "number" "[I", Cond.fieldLink RX11 32 "HeaderLineModel" "stride" "[I", Cond.methodLink RX11 171 yX11_cut, Cond.instanceMethod yX11_cut, Cond.selects RX11 yX11_cut yX11_cut, Cond.code yX11_cut cX11_cut 4 (some .long), Cond.fieldLink RX11 13 "HeaderLineModel" "width" "[I", Cond.methodLink RX11 183 yX11_onwards, Cond.instanceMethod yX11_onwards, Cond.selects RX11 yX11_onwards yX11_onwards, Cond.code yX11_onwards cX11_onwards 6 (some .long), Cond.methodLink RX11 191 yX11_finds, Cond.instanceMethod yX11_finds]
def wsX11_serves_r2 : List Cond := [Cond.selects RX11 yX11_finds yX11_finds, Cond.code yX11_finds cX11_finds 7 (some .boolean)]
def wsX11_serves : List Cond := .code yX11_serves cX11_serves 7 (some .boolean) :: ((wsX11_serves_r1 ++ wsX11_serves_r2) ++ wsX110)
def wsX11_say : List Cond := .code yX11_say cX11_say 5 none :: ([.fieldLink RX11 108 "HeaderLineModel" "bit" "[I", .fieldLink RX11 195 "HeaderLineModel" "put" "I"] ++ wsX110)
def wsX11_sumOf : List Cond := .code yX11_sumOf cX11_sumOf 5 (some .int) :: ([.constantLong RX11 198 (31), .constantLong RX11 181 (255)])
def wsX11_draftSum : List Cond := .code yX11_draftSum cX11_draftSum 3 (some .int) :: ([.fieldLink RX11 148 "HeaderLineModel" "fields" "I", .fieldLink RX11 23 "HeaderLineModel" "draft" "[J", .methodLink RX11 200 yX11_sumOf, .instanceMethod yX11_sumOf, .selects RX11 yX11_sumOf yX11_sumOf, .initialized RX11, .code yX11_sumOf cX11_sumOf 5 (some .int), .constantLong RX11 198 (31), .constantLong RX11 181 (255)] ++ wsX110)
def wsX11_checkOf : List Cond := .code yX11_checkOf cX11_checkOf 5 (some .int) :: ([.fieldLink RX11 51 "HeaderLineModel" "row" "[I"] ++ wsX110)
def wsX11_laid : List Cond := .code yX11_laid cX11_laid 10 (some .int) :: ([.fieldLink RX11 204 "HeaderLineModel" "letters" "I", .fieldLink RX11 54 "HeaderLineModel" "letterKind" "[I", .fieldLink RX11 57 "HeaderLineModel" "letterFlow" "[I", .fieldLink RX11 60 "HeaderLineModel" "letterNumber" "[I", .constant RX11 207 (65536), .fieldLink RX11 63 "HeaderLineModel" "bits" "[I", .fieldLink RX11 195 "HeaderLineModel" "put" "I", .fieldLink RX11 66 "HeaderLineModel" "outcome" "[I", .fieldLink RX11 69 "HeaderLineModel" "lost" "[Z", .fieldLink RX11 72 "HeaderLineModel" "copied" "[Z", .fieldLink RX11 108 "HeaderLineModel" "bit" "[I", .fieldLink RX11 51 "HeaderLineModel" "row" "[I", .fieldLink RX11 48 "HeaderLineModel" "bytes" "[I", .fieldLink RX11 165 "HeaderLineModel" "closed" "Z", .methodLink RX11 208 yX11_checkOf, .instanceMethod yX11_checkOf, .selects RX11 yX11_checkOf yX11_checkOf, .initialized RX11, .code yX11_checkOf cX11_checkOf 5 (some .int)] ++ wsX110)
def wsX11_head : List Cond := .code yX11_head cX11_head 4 none :: ([.fieldLink RX11 195 "HeaderLineModel" "put" "I", .constant RX11 207 (65536), .methodLink RX11 212 yX11_say, .instanceMethod yX11_say, .selects RX11 yX11_say yX11_say, .initialized RX11, .code yX11_say cX11_say 5 none, .fieldLink RX11 108 "HeaderLineModel" "bit" "[I"] ++ wsX110)
def wsX11_sendWhole_r1 : List Cond := [Cond.fieldLink RX11 29 "HeaderLineModel" "round" "[I", Cond.fieldLink RX11 39 "HeaderLineModel" "references" "[I", Cond.fieldLink RX11 35 "HeaderLineModel" "owes" "[Z", Cond.fieldLink RX11 148 "HeaderLineModel" "fields" "I", Cond.fieldLink RX11 23 "HeaderLineModel" "draft" "[J", Cond.fieldLink RX11 13 "HeaderLineModel" "width" "[I", Cond.fieldLink RX11 32 "HeaderLineModel" "stride" "[I", Cond.methodLink RX11 216 yX11_head, Cond.instanceMethod yX11_head, Cond.selects RX11 yX11_head yX11_head, Cond.initialized RX11, Cond.code yX11_head cX11_head 4 none, Cond.fieldLink RX11 195 "HeaderLineModel" "put" "I", Cond.constant RX11 207 (65536), Cond.methodLink RX11 212 yX11_say, Cond.instanceMethod yX11_say, Cond.selects RX11 yX11_say yX11_say, Cond.code yX11_say cX11_say 5 none, Cond.fieldLink RX11 108 "HeaderLineModel" "bit" "[I", Cond.methodLink RX11 178 yX11_runs, Cond.instanceMethod yX11_runs, Cond.selects RX11 yX11_runs yX11_runs, Cond.code yX11_runs cX11_runs 2 (some .boolean), Cond.fieldLink RX11 7 "HeaderLineModel" "kind" "[I"]
def wsX11_sendWhole_r2 : List Cond := [Cond.methodLink RX11 220 yX11_laid, Cond.instanceMethod yX11_laid, Cond.selects RX11 yX11_laid yX11_laid, Cond.code yX11_laid cX11_laid 10 (some .int), Cond.fieldLink RX11 204 "HeaderLineModel" "letters" "I", Cond.fieldLink RX11 54 "HeaderLineModel" "letterKind" "[I", Cond.fieldLink RX11 57 "HeaderLineModel" "letterFlow" "[I", Cond.fieldLink RX11 60 "HeaderLineModel" "letterNumber" "[I", Cond.fieldLink RX11 63 "HeaderLineModel" "bits" "[I", Cond.fieldLink RX11 66 "HeaderLineModel" "outcome" "[I", Cond.fieldLink RX11 69 "HeaderLineModel" "lost" "[Z", Cond.fieldLink RX11 72 "HeaderLineModel" "copied" "[Z", Cond.fieldLink RX11 51 "HeaderLineModel" "row" "[I", Cond.fieldLink RX11 48 "HeaderLineModel" "bytes" "[I", Cond.fieldLink RX11 165 "HeaderLineModel" "closed" "Z", Cond.methodLink RX11 208 yX11_checkOf, Cond.instanceMethod yX11_checkOf, Cond.selects RX11 yX11_checkOf yX11_checkOf, Cond.code yX11_checkOf cX11_checkOf 5 (some .int)]
def wsX11_sendWhole : List Cond := .code yX11_sendWhole cX11_sendWhole 4 (some .int) :: ((wsX11_sendWhole_r1 ++ wsX11_sendWhole_r2) ++ wsX110)
def wsX11_sendPart_r1 : List Cond := [Cond.fieldLink RX11 29 "HeaderLineModel" "round" "[I", Cond.fieldLink RX11 148 "HeaderLineModel" "fields" "I", Cond.fieldLink RX11 7 "HeaderLineModel" "kind" "[I", Cond.fieldLink RX11 23 "HeaderLineModel" "draft" "[J", Cond.fieldLink RX11 13 "HeaderLineModel" "width" "[I", Cond.methodLink RX11 216 yX11_head, Cond.instanceMethod yX11_head, Cond.selects RX11 yX11_head yX11_head, Cond.initialized RX11, Cond.code yX11_head cX11_head 4 none, Cond.fieldLink RX11 195 "HeaderLineModel" "put" "I", Cond.constant RX11 207 (65536), Cond.methodLink RX11 212 yX11_say, Cond.instanceMethod yX11_say, Cond.selects RX11 yX11_say yX11_say, Cond.code yX11_say cX11_say 5 none, Cond.fieldLink RX11 108 "HeaderLineModel" "bit" "[I", Cond.methodLink RX11 224 yX11_giveAll, Cond.instanceMethod yX11_giveAll, Cond.selects RX11 yX11_giveAll yX11_giveAll, Cond.code yX11_giveAll cX11_giveAll 6 (some .boolean), Cond.fieldLink RX11 39 "HeaderLineModel" "references" "[I", Cond.methodLink RX11 187 yX11_given, Cond.instanceMethod yX11_given]
def wsX11_sendPart_r2 : List Cond := [Cond.selects RX11 yX11_given yX11_given, Cond.code yX11_given cX11_given 6 (some .long), Cond.fieldLink RX11 16 "HeaderLineModel" "tied" "[I", Cond.fieldLink RX11 19 "HeaderLineModel" "extra" "[J", Cond.fieldLink RX11 45 "HeaderLineModel" "header" "[J", Cond.fieldLink RX11 42 "HeaderLineModel" "number" "[I", Cond.fieldLink RX11 32 "HeaderLineModel" "stride" "[I", Cond.methodLink RX11 171 yX11_cut, Cond.instanceMethod yX11_cut, Cond.selects RX11 yX11_cut yX11_cut, Cond.code yX11_cut cX11_cut 4 (some .long), Cond.methodLink RX11 183 yX11_onwards, Cond.instanceMethod yX11_onwards, Cond.selects RX11 yX11_onwards yX11_onwards, Cond.code yX11_onwards cX11_onwards 6 (some .long), Cond.methodLink RX11 228 yX11_draftSum, Cond.instanceMethod yX11_draftSum, Cond.selects RX11 yX11_draftSum yX11_draftSum, Cond.code yX11_draftSum cX11_draftSum 3 (some .int), Cond.methodLink RX11 200 yX11_sumOf, Cond.instanceMethod yX11_sumOf, Cond.selects RX11 yX11_sumOf yX11_sumOf, Cond.code yX11_sumOf cX11_sumOf 5 (some .int), Cond.constantLong RX11 198 (31)]
def wsX11_sendPart_r3 : List Cond := [Cond.constantLong RX11 181 (255), Cond.methodLink RX11 220 yX11_laid, Cond.instanceMethod yX11_laid, Cond.selects RX11 yX11_laid yX11_laid, Cond.code yX11_laid cX11_laid 10 (some .int), Cond.fieldLink RX11 204 "HeaderLineModel" "letters" "I", Cond.fieldLink RX11 54 "HeaderLineModel" "letterKind" "[I", Cond.fieldLink RX11 57 "HeaderLineModel" "letterFlow" "[I", Cond.fieldLink RX11 60 "HeaderLineModel" "letterNumber" "[I", Cond.fieldLink RX11 63 "HeaderLineModel" "bits" "[I", Cond.fieldLink RX11 66 "HeaderLineModel" "outcome" "[I", Cond.fieldLink RX11 69 "HeaderLineModel" "lost" "[Z", Cond.fieldLink RX11 72 "HeaderLineModel" "copied" "[Z", Cond.fieldLink RX11 51 "HeaderLineModel" "row" "[I", Cond.fieldLink RX11 48 "HeaderLineModel" "bytes" "[I", Cond.fieldLink RX11 165 "HeaderLineModel" "closed" "Z", Cond.methodLink RX11 208 yX11_checkOf, Cond.instanceMethod yX11_checkOf, Cond.selects RX11 yX11_checkOf yX11_checkOf, Cond.code yX11_checkOf cX11_checkOf 5 (some .int)]
def wsX11_sendPart : List Cond := .code yX11_sendPart cX11_sendPart 5 (some .int) :: ((wsX11_sendPart_r1 ++ (wsX11_sendPart_r2 ++ wsX11_sendPart_r3)) ++ wsX110)
def wsX11_fails_r1 : List Cond := [Cond.fieldLink RX11 39 "HeaderLineModel" "references" "[I", Cond.fieldLink RX11 23 "HeaderLineModel" "draft" "[J", Cond.fieldLink RX11 42 "HeaderLineModel" "number" "[I", Cond.methodLink RX11 187 yX11_given, Cond.instanceMethod yX11_given, Cond.selects RX11 yX11_given yX11_given, Cond.initialized RX11, Cond.code yX11_given cX11_given 6 (some .long), Cond.fieldLink RX11 7 "HeaderLineModel" "kind" "[I", Cond.fieldLink RX11 16 "HeaderLineModel" "tied" "[I", Cond.fieldLink RX11 19 "HeaderLineModel" "extra" "[J", Cond.fieldLink RX11 45 "HeaderLineModel" "header" "[J", Cond.fieldLink RX11 32 "HeaderLineModel" "stride" "[I", Cond.methodLink RX11 171 yX11_cut, Cond.instanceMethod yX11_cut, Cond.selects RX11 yX11_cut yX11_cut, Cond.code yX11_cut cX11_cut 4 (some .long), Cond.fieldLink RX11 13 "HeaderLineModel" "width" "[I", Cond.methodLink RX11 183 yX11_onwards, Cond.instanceMethod yX11_onwards, Cond.selects RX11 yX11_onwards yX11_onwards, Cond.code yX11_onwards cX11_onwards 6 (some .long), Cond.methodLink RX11 191 yX11_finds, Cond.instanceMethod yX11_finds]
def wsX11_fails_r2 : List Cond := [Cond.selects RX11 yX11_finds yX11_finds, Cond.code yX11_finds cX11_finds 7 (some .boolean)]
def wsX11_fails : List Cond := .code yX11_fails cX11_fails 7 (some .int) :: ((wsX11_fails_r1 ++ wsX11_fails_r2) ++ wsX110)
def wsX11_sendShort_r1 : List Cond := [Cond.fieldLink RX11 29 "HeaderLineModel" "round" "[I", Cond.fieldLink RX11 148 "HeaderLineModel" "fields" "I", Cond.fieldLink RX11 23 "HeaderLineModel" "draft" "[J", Cond.fieldLink RX11 75 "HeaderLineModel" "proven" "[I", Cond.fieldLink RX11 204 "HeaderLineModel" "letters" "I", Cond.fieldLink RX11 78 "HeaderLineModel" "against" "[I", Cond.fieldLink RX11 7 "HeaderLineModel" "kind" "[I", Cond.fieldLink RX11 13 "HeaderLineModel" "width" "[I", Cond.fieldLink RX11 81 "HeaderLineModel" "hangs" "[I", Cond.fieldLink RX11 39 "HeaderLineModel" "references" "[I", Cond.fieldLink RX11 84 "HeaderLineModel" "oldest" "[I", Cond.fieldLink RX11 42 "HeaderLineModel" "number" "[I", Cond.methodLink RX11 216 yX11_head, Cond.instanceMethod yX11_head, Cond.selects RX11 yX11_head yX11_head, Cond.initialized RX11, Cond.code yX11_head cX11_head 4 none, Cond.fieldLink RX11 195 "HeaderLineModel" "put" "I", Cond.constant RX11 207 (65536), Cond.methodLink RX11 212 yX11_say, Cond.instanceMethod yX11_say, Cond.selects RX11 yX11_say yX11_say, Cond.code yX11_say cX11_say 5 none, Cond.fieldLink RX11 108 "HeaderLineModel" "bit" "[I"]
def wsX11_sendShort_r2 : List Cond := [Cond.methodLink RX11 178 yX11_runs, Cond.instanceMethod yX11_runs, Cond.selects RX11 yX11_runs yX11_runs, Cond.code yX11_runs cX11_runs 2 (some .boolean), Cond.methodLink RX11 232 yX11_serves, Cond.instanceMethod yX11_serves, Cond.selects RX11 yX11_serves yX11_serves, Cond.code yX11_serves cX11_serves 7 (some .boolean), Cond.methodLink RX11 187 yX11_given, Cond.instanceMethod yX11_given, Cond.selects RX11 yX11_given yX11_given, Cond.code yX11_given cX11_given 6 (some .long), Cond.fieldLink RX11 16 "HeaderLineModel" "tied" "[I", Cond.fieldLink RX11 19 "HeaderLineModel" "extra" "[J", Cond.fieldLink RX11 45 "HeaderLineModel" "header" "[J", Cond.fieldLink RX11 32 "HeaderLineModel" "stride" "[I", Cond.methodLink RX11 171 yX11_cut, Cond.instanceMethod yX11_cut, Cond.selects RX11 yX11_cut yX11_cut, Cond.code yX11_cut cX11_cut 4 (some .long), Cond.methodLink RX11 183 yX11_onwards, Cond.instanceMethod yX11_onwards, Cond.selects RX11 yX11_onwards yX11_onwards, Cond.code yX11_onwards cX11_onwards 6 (some .long)]
def wsX11_sendShort_r3 : List Cond := [Cond.methodLink RX11 191 yX11_finds, Cond.instanceMethod yX11_finds, Cond.selects RX11 yX11_finds yX11_finds, Cond.code yX11_finds cX11_finds 7 (some .boolean), Cond.methodLink RX11 236 yX11_fails, Cond.instanceMethod yX11_fails, Cond.selects RX11 yX11_fails yX11_fails, Cond.code yX11_fails cX11_fails 7 (some .int), Cond.methodLink RX11 228 yX11_draftSum, Cond.instanceMethod yX11_draftSum, Cond.selects RX11 yX11_draftSum yX11_draftSum, Cond.code yX11_draftSum cX11_draftSum 3 (some .int), Cond.methodLink RX11 200 yX11_sumOf, Cond.instanceMethod yX11_sumOf, Cond.selects RX11 yX11_sumOf yX11_sumOf, Cond.code yX11_sumOf cX11_sumOf 5 (some .int), Cond.constantLong RX11 198 (31), Cond.constantLong RX11 181 (255), Cond.methodLink RX11 220 yX11_laid, Cond.instanceMethod yX11_laid, Cond.selects RX11 yX11_laid yX11_laid, Cond.code yX11_laid cX11_laid 10 (some .int), Cond.fieldLink RX11 54 "HeaderLineModel" "letterKind" "[I", Cond.fieldLink RX11 57 "HeaderLineModel" "letterFlow" "[I"]
def wsX11_sendShort_r4 : List Cond := [Cond.fieldLink RX11 60 "HeaderLineModel" "letterNumber" "[I", Cond.fieldLink RX11 63 "HeaderLineModel" "bits" "[I", Cond.fieldLink RX11 66 "HeaderLineModel" "outcome" "[I", Cond.fieldLink RX11 69 "HeaderLineModel" "lost" "[Z", Cond.fieldLink RX11 72 "HeaderLineModel" "copied" "[Z", Cond.fieldLink RX11 51 "HeaderLineModel" "row" "[I", Cond.fieldLink RX11 48 "HeaderLineModel" "bytes" "[I", Cond.fieldLink RX11 165 "HeaderLineModel" "closed" "Z", Cond.methodLink RX11 208 yX11_checkOf, Cond.instanceMethod yX11_checkOf, Cond.selects RX11 yX11_checkOf yX11_checkOf, Cond.code yX11_checkOf cX11_checkOf 5 (some .int)]
def wsX11_sendShort : List Cond := .code yX11_sendShort cX11_sendShort 5 (some .int) :: ((wsX11_sendShort_r1 ++ (wsX11_sendShort_r2 ++ (wsX11_sendShort_r3 ++ wsX11_sendShort_r4))) ++ wsX110)
def wsX11_drop : List Cond := .code yX11_drop cX11_drop 6 none :: ([.fieldLink RX11 39 "HeaderLineModel" "references" "[I", .fieldLink RX11 42 "HeaderLineModel" "number" "[I", .fieldLink RX11 148 "HeaderLineModel" "fields" "I", .fieldLink RX11 45 "HeaderLineModel" "header" "[J"] ++ wsX110)
def wsX11_refer : List Cond := .code yX11_refer cX11_refer 5 none :: ([.fieldLink RX11 39 "HeaderLineModel" "references" "[I", .fieldLink RX11 42 "HeaderLineModel" "number" "[I", .fieldLink RX11 148 "HeaderLineModel" "fields" "I", .fieldLink RX11 45 "HeaderLineModel" "header" "[J", .fieldLink RX11 23 "HeaderLineModel" "draft" "[J", .fieldLink RX11 141 "HeaderLineModel" "window" "I", .methodLink RX11 253 yX11_drop, .instanceMethod yX11_drop, .selects RX11 yX11_drop yX11_drop, .initialized RX11, .code yX11_drop cX11_drop 6 none] ++ wsX110)
def wsX11_send_r1 : List Cond := [Cond.fieldLink RX11 145 "HeaderLineModel" "thrown" "I", Cond.fieldLink RX11 204 "HeaderLineModel" "letters" "I", Cond.fieldLink RX11 148 "HeaderLineModel" "fields" "I", Cond.fieldLink RX11 26 "HeaderLineModel" "told" "[I", Cond.fieldLink RX11 7 "HeaderLineModel" "kind" "[I", Cond.fieldLink RX11 35 "HeaderLineModel" "owes" "[Z", Cond.fieldLink RX11 39 "HeaderLineModel" "references" "[I", Cond.methodLink RX11 175 yX11_isFlow, Cond.static yX11_isFlow, Cond.initialized RX11, Cond.code yX11_isFlow cX11_isFlow 1 (some .boolean), Cond.methodLink RX11 224 yX11_giveAll, Cond.instanceMethod yX11_giveAll, Cond.selects RX11 yX11_giveAll yX11_giveAll, Cond.code yX11_giveAll cX11_giveAll 6 (some .boolean), Cond.fieldLink RX11 23 "HeaderLineModel" "draft" "[J", Cond.methodLink RX11 187 yX11_given, Cond.instanceMethod yX11_given, Cond.selects RX11 yX11_given yX11_given, Cond.code yX11_given cX11_given 6 (some .long), Cond.fieldLink RX11 16 "HeaderLineModel" "tied" "[I", Cond.fieldLink RX11 19 "HeaderLineModel" "extra" "[J", Cond.fieldLink RX11 45 "HeaderLineModel" "header" "[J", Cond.fieldLink RX11 42 "HeaderLineModel" "number" "[I"]
def wsX11_send_r2 : List Cond := [Cond.fieldLink RX11 32 "HeaderLineModel" "stride" "[I", Cond.methodLink RX11 171 yX11_cut, Cond.instanceMethod yX11_cut, Cond.selects RX11 yX11_cut yX11_cut, Cond.code yX11_cut cX11_cut 4 (some .long), Cond.fieldLink RX11 13 "HeaderLineModel" "width" "[I", Cond.methodLink RX11 183 yX11_onwards, Cond.instanceMethod yX11_onwards, Cond.selects RX11 yX11_onwards yX11_onwards, Cond.code yX11_onwards cX11_onwards 6 (some .long), Cond.methodLink RX11 240 yX11_sendWhole, Cond.instanceMethod yX11_sendWhole, Cond.selects RX11 yX11_sendWhole yX11_sendWhole, Cond.code yX11_sendWhole cX11_sendWhole 4 (some .int), Cond.fieldLink RX11 29 "HeaderLineModel" "round" "[I", Cond.methodLink RX11 216 yX11_head, Cond.instanceMethod yX11_head, Cond.selects RX11 yX11_head yX11_head, Cond.code yX11_head cX11_head 4 none, Cond.fieldLink RX11 195 "HeaderLineModel" "put" "I", Cond.constant RX11 207 (65536), Cond.methodLink RX11 212 yX11_say, Cond.instanceMethod yX11_say, Cond.selects RX11 yX11_say yX11_say]
def wsX11_send_r3 : List Cond := [Cond.code yX11_say cX11_say 5 none, Cond.fieldLink RX11 108 "HeaderLineModel" "bit" "[I", Cond.methodLink RX11 178 yX11_runs, Cond.instanceMethod yX11_runs, Cond.selects RX11 yX11_runs yX11_runs, Cond.code yX11_runs cX11_runs 2 (some .boolean), Cond.methodLink RX11 220 yX11_laid, Cond.instanceMethod yX11_laid, Cond.selects RX11 yX11_laid yX11_laid, Cond.code yX11_laid cX11_laid 10 (some .int), Cond.fieldLink RX11 54 "HeaderLineModel" "letterKind" "[I", Cond.fieldLink RX11 57 "HeaderLineModel" "letterFlow" "[I", Cond.fieldLink RX11 60 "HeaderLineModel" "letterNumber" "[I", Cond.fieldLink RX11 63 "HeaderLineModel" "bits" "[I", Cond.fieldLink RX11 66 "HeaderLineModel" "outcome" "[I", Cond.fieldLink RX11 69 "HeaderLineModel" "lost" "[Z", Cond.fieldLink RX11 72 "HeaderLineModel" "copied" "[Z", Cond.fieldLink RX11 51 "HeaderLineModel" "row" "[I", Cond.fieldLink RX11 48 "HeaderLineModel" "bytes" "[I", Cond.fieldLink RX11 165 "HeaderLineModel" "closed" "Z", Cond.methodLink RX11 208 yX11_checkOf, Cond.instanceMethod yX11_checkOf, Cond.selects RX11 yX11_checkOf yX11_checkOf, Cond.code yX11_checkOf cX11_checkOf 5 (some .int)]
def wsX11_send_r4 : List Cond := [Cond.methodLink RX11 243 yX11_sendShort, Cond.instanceMethod yX11_sendShort, Cond.selects RX11 yX11_sendShort yX11_sendShort, Cond.code yX11_sendShort cX11_sendShort 5 (some .int), Cond.fieldLink RX11 75 "HeaderLineModel" "proven" "[I", Cond.fieldLink RX11 78 "HeaderLineModel" "against" "[I", Cond.fieldLink RX11 81 "HeaderLineModel" "hangs" "[I", Cond.fieldLink RX11 84 "HeaderLineModel" "oldest" "[I", Cond.methodLink RX11 232 yX11_serves, Cond.instanceMethod yX11_serves, Cond.selects RX11 yX11_serves yX11_serves, Cond.code yX11_serves cX11_serves 7 (some .boolean), Cond.methodLink RX11 191 yX11_finds, Cond.instanceMethod yX11_finds, Cond.selects RX11 yX11_finds yX11_finds, Cond.code yX11_finds cX11_finds 7 (some .boolean), Cond.methodLink RX11 236 yX11_fails, Cond.instanceMethod yX11_fails, Cond.selects RX11 yX11_fails yX11_fails, Cond.code yX11_fails cX11_fails 7 (some .int), Cond.methodLink RX11 228 yX11_draftSum, Cond.instanceMethod yX11_draftSum, Cond.selects RX11 yX11_draftSum yX11_draftSum, Cond.code yX11_draftSum cX11_draftSum 3 (some .int)]
def wsX11_send_r5 : List Cond := [Cond.methodLink RX11 200 yX11_sumOf, Cond.instanceMethod yX11_sumOf, Cond.selects RX11 yX11_sumOf yX11_sumOf, Cond.code yX11_sumOf cX11_sumOf 5 (some .int), Cond.constantLong RX11 198 (31), Cond.constantLong RX11 181 (255), Cond.methodLink RX11 246 yX11_sendPart, Cond.instanceMethod yX11_sendPart, Cond.selects RX11 yX11_sendPart yX11_sendPart, Cond.code yX11_sendPart cX11_sendPart 5 (some .int), Cond.methodLink RX11 249 yX11_refer, Cond.instanceMethod yX11_refer, Cond.selects RX11 yX11_refer yX11_refer, Cond.code yX11_refer cX11_refer 5 none, Cond.fieldLink RX11 141 "HeaderLineModel" "window" "I", Cond.methodLink RX11 253 yX11_drop, Cond.instanceMethod yX11_drop, Cond.selects RX11 yX11_drop yX11_drop, Cond.code yX11_drop cX11_drop 6 none]
def wsX11_send : List Cond := .code yX11_send cX11_send 7 (some .int) :: ((wsX11_send_r1 ++ (wsX11_send_r2 ++ (wsX11_send_r3 ++ (wsX11_send_r4 ++ wsX11_send_r5)))) ++ wsX110)
def wsX11_ack_r1 : List Cond := [Cond.fieldLink RX11 145 "HeaderLineModel" "thrown" "I", Cond.fieldLink RX11 204 "HeaderLineModel" "letters" "I", Cond.fieldLink RX11 87 "HeaderLineModel" "has" "[Z", Cond.fieldLink RX11 90 "HeaderLineModel" "contextNumber" "[I", Cond.methodLink RX11 175 yX11_isFlow, Cond.static yX11_isFlow, Cond.initialized RX11, Cond.code yX11_isFlow cX11_isFlow 1 (some .boolean), Cond.methodLink RX11 216 yX11_head, Cond.instanceMethod yX11_head, Cond.selects RX11 yX11_head yX11_head, Cond.code yX11_head cX11_head 4 none, Cond.fieldLink RX11 195 "HeaderLineModel" "put" "I", Cond.constant RX11 207 (65536), Cond.methodLink RX11 212 yX11_say, Cond.instanceMethod yX11_say, Cond.selects RX11 yX11_say yX11_say, Cond.code yX11_say cX11_say 5 none, Cond.fieldLink RX11 108 "HeaderLineModel" "bit" "[I", Cond.methodLink RX11 220 yX11_laid, Cond.instanceMethod yX11_laid, Cond.selects RX11 yX11_laid yX11_laid, Cond.code yX11_laid cX11_laid 10 (some .int), Cond.fieldLink RX11 54 "HeaderLineModel" "letterKind" "[I"]
def wsX11_ack_r2 : List Cond := [Cond.fieldLink RX11 57 "HeaderLineModel" "letterFlow" "[I", Cond.fieldLink RX11 60 "HeaderLineModel" "letterNumber" "[I", Cond.fieldLink RX11 63 "HeaderLineModel" "bits" "[I", Cond.fieldLink RX11 66 "HeaderLineModel" "outcome" "[I", Cond.fieldLink RX11 69 "HeaderLineModel" "lost" "[Z", Cond.fieldLink RX11 72 "HeaderLineModel" "copied" "[Z", Cond.fieldLink RX11 51 "HeaderLineModel" "row" "[I", Cond.fieldLink RX11 48 "HeaderLineModel" "bytes" "[I", Cond.fieldLink RX11 165 "HeaderLineModel" "closed" "Z", Cond.methodLink RX11 208 yX11_checkOf, Cond.instanceMethod yX11_checkOf, Cond.selects RX11 yX11_checkOf yX11_checkOf, Cond.code yX11_checkOf cX11_checkOf 5 (some .int)]
def wsX11_ack : List Cond := .code yX11_ack cX11_ack 2 (some .int) :: ((wsX11_ack_r1 ++ wsX11_ack_r2) ++ wsX110)
def wsX11_nack_r1 : List Cond := [Cond.fieldLink RX11 145 "HeaderLineModel" "thrown" "I", Cond.fieldLink RX11 204 "HeaderLineModel" "letters" "I", Cond.fieldLink RX11 87 "HeaderLineModel" "has" "[Z", Cond.fieldLink RX11 90 "HeaderLineModel" "contextNumber" "[I", Cond.methodLink RX11 175 yX11_isFlow, Cond.static yX11_isFlow, Cond.initialized RX11, Cond.code yX11_isFlow cX11_isFlow 1 (some .boolean), Cond.methodLink RX11 216 yX11_head, Cond.instanceMethod yX11_head, Cond.selects RX11 yX11_head yX11_head, Cond.code yX11_head cX11_head 4 none, Cond.fieldLink RX11 195 "HeaderLineModel" "put" "I", Cond.constant RX11 207 (65536), Cond.methodLink RX11 212 yX11_say, Cond.instanceMethod yX11_say, Cond.selects RX11 yX11_say yX11_say, Cond.code yX11_say cX11_say 5 none, Cond.fieldLink RX11 108 "HeaderLineModel" "bit" "[I", Cond.methodLink RX11 220 yX11_laid, Cond.instanceMethod yX11_laid, Cond.selects RX11 yX11_laid yX11_laid, Cond.code yX11_laid cX11_laid 10 (some .int), Cond.fieldLink RX11 54 "HeaderLineModel" "letterKind" "[I"]
def wsX11_nack_r2 : List Cond := [Cond.fieldLink RX11 57 "HeaderLineModel" "letterFlow" "[I", Cond.fieldLink RX11 60 "HeaderLineModel" "letterNumber" "[I", Cond.fieldLink RX11 63 "HeaderLineModel" "bits" "[I", Cond.fieldLink RX11 66 "HeaderLineModel" "outcome" "[I", Cond.fieldLink RX11 69 "HeaderLineModel" "lost" "[Z", Cond.fieldLink RX11 72 "HeaderLineModel" "copied" "[Z", Cond.fieldLink RX11 51 "HeaderLineModel" "row" "[I", Cond.fieldLink RX11 48 "HeaderLineModel" "bytes" "[I", Cond.fieldLink RX11 165 "HeaderLineModel" "closed" "Z", Cond.methodLink RX11 208 yX11_checkOf, Cond.instanceMethod yX11_checkOf, Cond.selects RX11 yX11_checkOf yX11_checkOf, Cond.code yX11_checkOf cX11_checkOf 5 (some .int)]
def wsX11_nack : List Cond := .code yX11_nack cX11_nack 4 (some .int) :: ((wsX11_nack_r1 ++ wsX11_nack_r2) ++ wsX110)
def wsX11_take : List Cond := .code yX11_take cX11_take 6 (some .long) :: ([.fieldLink RX11 256 "HeaderLineModel" "read" "I", .fieldLink RX11 259 "HeaderLineModel" "end" "I", .fieldLink RX11 262 "HeaderLineModel" "broken" "Z", .constantLong RX11 265 (2), .fieldLink RX11 51 "HeaderLineModel" "row" "[I"] ++ wsX110)
def wsX11_takeEnd : List Cond := .code yX11_takeEnd cX11_takeEnd 4 none :: ([.fieldLink RX11 262 "HeaderLineModel" "broken" "Z", .fieldLink RX11 256 "HeaderLineModel" "read" "I", .fieldLink RX11 48 "HeaderLineModel" "bytes" "[I", .fieldLink RX11 51 "HeaderLineModel" "row" "[I", .methodLink RX11 267 yX11_take, .instanceMethod yX11_take, .selects RX11 yX11_take yX11_take, .initialized RX11, .code yX11_take cX11_take 6 (some .long), .fieldLink RX11 259 "HeaderLineModel" "end" "I", .constantLong RX11 265 (2), .methodLink RX11 208 yX11_checkOf, .instanceMethod yX11_checkOf, .selects RX11 yX11_checkOf yX11_checkOf, .code yX11_checkOf cX11_checkOf 5 (some .int)] ++ wsX110)
def wsX11_takeFields_r1 : List Cond := [Cond.fieldLink RX11 271 "HeaderLineModel" "cameRound" "I", Cond.fieldLink RX11 148 "HeaderLineModel" "fields" "I", Cond.fieldLink RX11 262 "HeaderLineModel" "broken" "Z", Cond.fieldLink RX11 120 "HeaderLineModel" "steps" "[I", Cond.fieldLink RX11 114 "HeaderLineModel" "by" "[I", Cond.fieldLink RX11 7 "HeaderLineModel" "kind" "[I", Cond.fieldLink RX11 111 "HeaderLineModel" "stands" "[I", Cond.fieldLink RX11 13 "HeaderLineModel" "width" "[I", Cond.fieldLink RX11 117 "HeaderLineModel" "value" "[J", Cond.fieldLink RX11 274 "HeaderLineModel" "cameSum" "J", Cond.methodLink RX11 267 yX11_take, Cond.instanceMethod yX11_take, Cond.selects RX11 yX11_take yX11_take, Cond.initialized RX11, Cond.code yX11_take cX11_take 6 (some .long), Cond.fieldLink RX11 256 "HeaderLineModel" "read" "I", Cond.fieldLink RX11 259 "HeaderLineModel" "end" "I", Cond.constantLong RX11 265 (2), Cond.fieldLink RX11 51 "HeaderLineModel" "row" "[I", Cond.methodLink RX11 178 yX11_runs, Cond.instanceMethod yX11_runs, Cond.selects RX11 yX11_runs yX11_runs, Cond.code yX11_runs cX11_runs 2 (some .boolean), Cond.methodLink RX11 278 yX11_takeEnd]
def wsX11_takeFields_r2 : List Cond := [Cond.instanceMethod yX11_takeEnd, Cond.selects RX11 yX11_takeEnd yX11_takeEnd, Cond.code yX11_takeEnd cX11_takeEnd 4 none, Cond.fieldLink RX11 48 "HeaderLineModel" "bytes" "[I", Cond.methodLink RX11 208 yX11_checkOf, Cond.instanceMethod yX11_checkOf, Cond.selects RX11 yX11_checkOf yX11_checkOf, Cond.code yX11_checkOf cX11_checkOf 5 (some .int)]
def wsX11_takeFields : List Cond := .code yX11_takeFields cX11_takeFields 5 none :: ((wsX11_takeFields_r1 ++ wsX11_takeFields_r2) ++ wsX110)
def wsX11_found : List Cond := .code yX11_found cX11_found 11 (some .long) :: ([.methodLink RX11 171 yX11_cut, .instanceMethod yX11_cut, .selects RX11 yX11_cut yX11_cut, .initialized RX11, .code yX11_cut cX11_cut 4 (some .long), .fieldLink RX11 13 "HeaderLineModel" "width" "[I"] ++ wsX110)
def wsX11_open_r1 : List Cond := [Cond.fieldLink RX11 148 "HeaderLineModel" "fields" "I", Cond.fieldLink RX11 7 "HeaderLineModel" "kind" "[I", Cond.fieldLink RX11 123 "HeaderLineModel" "next" "[J", Cond.fieldLink RX11 16 "HeaderLineModel" "tied" "[I", Cond.fieldLink RX11 19 "HeaderLineModel" "extra" "[J", Cond.fieldLink RX11 99 "HeaderLineModel" "context" "[J", Cond.fieldLink RX11 90 "HeaderLineModel" "contextNumber" "[I", Cond.fieldLink RX11 96 "HeaderLineModel" "contextStride" "[I", Cond.fieldLink RX11 111 "HeaderLineModel" "stands" "[I", Cond.fieldLink RX11 117 "HeaderLineModel" "value" "[J", Cond.fieldLink RX11 114 "HeaderLineModel" "by" "[I", Cond.methodLink RX11 171 yX11_cut, Cond.instanceMethod yX11_cut, Cond.selects RX11 yX11_cut yX11_cut, Cond.initialized RX11, Cond.code yX11_cut cX11_cut 4 (some .long), Cond.fieldLink RX11 13 "HeaderLineModel" "width" "[I", Cond.methodLink RX11 183 yX11_onwards, Cond.instanceMethod yX11_onwards, Cond.selects RX11 yX11_onwards yX11_onwards, Cond.code yX11_onwards cX11_onwards 6 (some .long), Cond.methodLink RX11 282 yX11_found, Cond.instanceMethod yX11_found, Cond.selects RX11 yX11_found yX11_found]
def wsX11_open_r2 : List Cond := [Cond.code yX11_found cX11_found 11 (some .long)]
def wsX11_open : List Cond := .code yX11_open cX11_open 6 none :: ((wsX11_open_r1 ++ wsX11_open_r2) ++ wsX110)
def wsX11_isUnlike : List Cond := .code yX11_isUnlike cX11_isUnlike 3 (some .boolean) :: ([.fieldLink RX11 148 "HeaderLineModel" "fields" "I", .fieldLink RX11 123 "HeaderLineModel" "next" "[J", .fieldLink RX11 274 "HeaderLineModel" "cameSum" "J", .methodLink RX11 200 yX11_sumOf, .instanceMethod yX11_sumOf, .selects RX11 yX11_sumOf yX11_sumOf, .initialized RX11, .code yX11_sumOf cX11_sumOf 5 (some .int), .constantLong RX11 198 (31), .constantLong RX11 181 (255)] ++ wsX110)
def wsX11_opened_r1 : List Cond := [Cond.fieldLink RX11 262 "HeaderLineModel" "broken" "Z", Cond.fieldLink RX11 87 "HeaderLineModel" "has" "[Z", Cond.fieldLink RX11 93 "HeaderLineModel" "contextRound" "[I", Cond.fieldLink RX11 271 "HeaderLineModel" "cameRound" "I", Cond.fieldLink RX11 90 "HeaderLineModel" "contextNumber" "[I", Cond.fieldLink RX11 141 "HeaderLineModel" "window" "I", Cond.fieldLink RX11 296 "HeaderLineModel" "gotFrom" "I", Cond.fieldLink RX11 299 "HeaderLineModel" "gotFlow" "I", Cond.fieldLink RX11 302 "HeaderLineModel" "gotNumber" "I", Cond.fieldLink RX11 305 "HeaderLineModel" "gets" "I", Cond.fieldLink RX11 148 "HeaderLineModel" "fields" "I", Cond.fieldLink RX11 102 "HeaderLineModel" "got" "[J", Cond.fieldLink RX11 123 "HeaderLineModel" "next" "[J", Cond.fieldLink RX11 105 "HeaderLineModel" "way" "[I", Cond.fieldLink RX11 111 "HeaderLineModel" "stands" "[I", Cond.fieldLink RX11 99 "HeaderLineModel" "context" "[J", Cond.fieldLink RX11 96 "HeaderLineModel" "contextStride" "[I", Cond.fieldLink RX11 120 "HeaderLineModel" "steps" "[I", Cond.methodLink RX11 286 yX11_takeFields, Cond.instanceMethod yX11_takeFields, Cond.selects RX11 yX11_takeFields yX11_takeFields, Cond.initialized RX11, Cond.code yX11_takeFields cX11_takeFields 5 none, Cond.fieldLink RX11 114 "HeaderLineModel" "by" "[I"]
def wsX11_opened_r2 : List Cond := [Cond.fieldLink RX11 7 "HeaderLineModel" "kind" "[I", Cond.fieldLink RX11 13 "HeaderLineModel" "width" "[I", Cond.fieldLink RX11 117 "HeaderLineModel" "value" "[J", Cond.fieldLink RX11 274 "HeaderLineModel" "cameSum" "J", Cond.methodLink RX11 267 yX11_take, Cond.instanceMethod yX11_take, Cond.selects RX11 yX11_take yX11_take, Cond.code yX11_take cX11_take 6 (some .long), Cond.fieldLink RX11 256 "HeaderLineModel" "read" "I", Cond.fieldLink RX11 259 "HeaderLineModel" "end" "I", Cond.constantLong RX11 265 (2), Cond.fieldLink RX11 51 "HeaderLineModel" "row" "[I", Cond.methodLink RX11 178 yX11_runs, Cond.instanceMethod yX11_runs, Cond.selects RX11 yX11_runs yX11_runs, Cond.code yX11_runs cX11_runs 2 (some .boolean), Cond.methodLink RX11 278 yX11_takeEnd, Cond.instanceMethod yX11_takeEnd, Cond.selects RX11 yX11_takeEnd yX11_takeEnd, Cond.code yX11_takeEnd cX11_takeEnd 4 none, Cond.fieldLink RX11 48 "HeaderLineModel" "bytes" "[I", Cond.methodLink RX11 208 yX11_checkOf, Cond.instanceMethod yX11_checkOf, Cond.selects RX11 yX11_checkOf yX11_checkOf]
def wsX11_opened_r3 : List Cond := [Cond.code yX11_checkOf cX11_checkOf 5 (some .int), Cond.methodLink RX11 289 yX11_open, Cond.instanceMethod yX11_open, Cond.selects RX11 yX11_open yX11_open, Cond.code yX11_open cX11_open 6 none, Cond.fieldLink RX11 16 "HeaderLineModel" "tied" "[I", Cond.fieldLink RX11 19 "HeaderLineModel" "extra" "[J", Cond.methodLink RX11 171 yX11_cut, Cond.instanceMethod yX11_cut, Cond.selects RX11 yX11_cut yX11_cut, Cond.code yX11_cut cX11_cut 4 (some .long), Cond.methodLink RX11 183 yX11_onwards, Cond.instanceMethod yX11_onwards, Cond.selects RX11 yX11_onwards yX11_onwards, Cond.code yX11_onwards cX11_onwards 6 (some .long), Cond.methodLink RX11 282 yX11_found, Cond.instanceMethod yX11_found, Cond.selects RX11 yX11_found yX11_found, Cond.code yX11_found cX11_found 11 (some .long), Cond.methodLink RX11 292 yX11_isUnlike, Cond.instanceMethod yX11_isUnlike, Cond.selects RX11 yX11_isUnlike yX11_isUnlike, Cond.code yX11_isUnlike cX11_isUnlike 3 (some .boolean), Cond.methodLink RX11 200 yX11_sumOf]
def wsX11_opened_r4 : List Cond := [Cond.instanceMethod yX11_sumOf, Cond.selects RX11 yX11_sumOf yX11_sumOf, Cond.code yX11_sumOf cX11_sumOf 5 (some .int), Cond.constantLong RX11 198 (31), Cond.constantLong RX11 181 (255)]
def wsX11_opened : List Cond := .code yX11_opened cX11_opened 6 (some .int) :: ((wsX11_opened_r1 ++ (wsX11_opened_r2 ++ (wsX11_opened_r3 ++ wsX11_opened_r4))) ++ wsX110)
def wsX11_answered_r1 : List Cond := [Cond.fieldLink RX11 262 "HeaderLineModel" "broken" "Z", Cond.fieldLink RX11 35 "HeaderLineModel" "owes" "[Z", Cond.fieldLink RX11 39 "HeaderLineModel" "references" "[I", Cond.fieldLink RX11 42 "HeaderLineModel" "number" "[I", Cond.constant RX11 207 (65536), Cond.methodLink RX11 278 yX11_takeEnd, Cond.instanceMethod yX11_takeEnd, Cond.selects RX11 yX11_takeEnd yX11_takeEnd, Cond.initialized RX11, Cond.code yX11_takeEnd cX11_takeEnd 4 none, Cond.fieldLink RX11 256 "HeaderLineModel" "read" "I", Cond.fieldLink RX11 48 "HeaderLineModel" "bytes" "[I", Cond.fieldLink RX11 51 "HeaderLineModel" "row" "[I", Cond.methodLink RX11 267 yX11_take, Cond.instanceMethod yX11_take, Cond.selects RX11 yX11_take yX11_take, Cond.code yX11_take cX11_take 6 (some .long), Cond.fieldLink RX11 259 "HeaderLineModel" "end" "I", Cond.constantLong RX11 265 (2), Cond.methodLink RX11 208 yX11_checkOf, Cond.instanceMethod yX11_checkOf, Cond.selects RX11 yX11_checkOf yX11_checkOf, Cond.code yX11_checkOf cX11_checkOf 5 (some .int), Cond.methodLink RX11 253 yX11_drop]
def wsX11_answered_r2 : List Cond := [Cond.instanceMethod yX11_drop, Cond.selects RX11 yX11_drop yX11_drop, Cond.code yX11_drop cX11_drop 6 none, Cond.fieldLink RX11 148 "HeaderLineModel" "fields" "I", Cond.fieldLink RX11 45 "HeaderLineModel" "header" "[J"]
def wsX11_answered : List Cond := .code yX11_answered cX11_answered 6 (some .int) :: ((wsX11_answered_r1 ++ wsX11_answered_r2) ++ wsX110)
def wsX11_isUnderWay : List Cond := .code yX11_isUnderWay cX11_isUnderWay 2 (some .boolean) :: ([.fieldLink RX11 204 "HeaderLineModel" "letters" "I", .fieldLink RX11 69 "HeaderLineModel" "lost" "[Z"] ++ wsX110)
def wsX11_deliver_r1 : List Cond := [Cond.fieldLink RX11 145 "HeaderLineModel" "thrown" "I", Cond.fieldLink RX11 256 "HeaderLineModel" "read" "I", Cond.fieldLink RX11 48 "HeaderLineModel" "bytes" "[I", Cond.fieldLink RX11 259 "HeaderLineModel" "end" "I", Cond.fieldLink RX11 262 "HeaderLineModel" "broken" "Z", Cond.fieldLink RX11 66 "HeaderLineModel" "outcome" "[I", Cond.methodLink RX11 308 yX11_isUnderWay, Cond.instanceMethod yX11_isUnderWay, Cond.selects RX11 yX11_isUnderWay yX11_isUnderWay, Cond.initialized RX11, Cond.code yX11_isUnderWay cX11_isUnderWay 2 (some .boolean), Cond.fieldLink RX11 204 "HeaderLineModel" "letters" "I", Cond.fieldLink RX11 69 "HeaderLineModel" "lost" "[Z", Cond.methodLink RX11 267 yX11_take, Cond.instanceMethod yX11_take, Cond.selects RX11 yX11_take yX11_take, Cond.code yX11_take cX11_take 6 (some .long), Cond.constantLong RX11 265 (2), Cond.fieldLink RX11 51 "HeaderLineModel" "row" "[I", Cond.methodLink RX11 311 yX11_answered, Cond.instanceMethod yX11_answered, Cond.selects RX11 yX11_answered yX11_answered, Cond.code yX11_answered cX11_answered 6 (some .int), Cond.fieldLink RX11 35 "HeaderLineModel" "owes" "[Z"]
def wsX11_deliver_r2 : List Cond := [Cond.fieldLink RX11 39 "HeaderLineModel" "references" "[I", Cond.fieldLink RX11 42 "HeaderLineModel" "number" "[I", Cond.constant RX11 207 (65536), Cond.methodLink RX11 278 yX11_takeEnd, Cond.instanceMethod yX11_takeEnd, Cond.selects RX11 yX11_takeEnd yX11_takeEnd, Cond.code yX11_takeEnd cX11_takeEnd 4 none, Cond.methodLink RX11 208 yX11_checkOf, Cond.instanceMethod yX11_checkOf, Cond.selects RX11 yX11_checkOf yX11_checkOf, Cond.code yX11_checkOf cX11_checkOf 5 (some .int), Cond.methodLink RX11 253 yX11_drop, Cond.instanceMethod yX11_drop, Cond.selects RX11 yX11_drop yX11_drop, Cond.code yX11_drop cX11_drop 6 none, Cond.fieldLink RX11 148 "HeaderLineModel" "fields" "I", Cond.fieldLink RX11 45 "HeaderLineModel" "header" "[J", Cond.methodLink RX11 314 yX11_opened, Cond.instanceMethod yX11_opened, Cond.selects RX11 yX11_opened yX11_opened, Cond.code yX11_opened cX11_opened 6 (some .int), Cond.fieldLink RX11 87 "HeaderLineModel" "has" "[Z", Cond.fieldLink RX11 93 "HeaderLineModel" "contextRound" "[I", Cond.fieldLink RX11 271 "HeaderLineModel" "cameRound" "I"]
def wsX11_deliver_r3 : List Cond := [Cond.fieldLink RX11 90 "HeaderLineModel" "contextNumber" "[I", Cond.fieldLink RX11 141 "HeaderLineModel" "window" "I", Cond.fieldLink RX11 296 "HeaderLineModel" "gotFrom" "I", Cond.fieldLink RX11 299 "HeaderLineModel" "gotFlow" "I", Cond.fieldLink RX11 302 "HeaderLineModel" "gotNumber" "I", Cond.fieldLink RX11 305 "HeaderLineModel" "gets" "I", Cond.fieldLink RX11 102 "HeaderLineModel" "got" "[J", Cond.fieldLink RX11 123 "HeaderLineModel" "next" "[J", Cond.fieldLink RX11 105 "HeaderLineModel" "way" "[I", Cond.fieldLink RX11 111 "HeaderLineModel" "stands" "[I", Cond.fieldLink RX11 99 "HeaderLineModel" "context" "[J", Cond.fieldLink RX11 96 "HeaderLineModel" "contextStride" "[I", Cond.fieldLink RX11 120 "HeaderLineModel" "steps" "[I", Cond.methodLink RX11 286 yX11_takeFields, Cond.instanceMethod yX11_takeFields, Cond.selects RX11 yX11_takeFields yX11_takeFields, Cond.code yX11_takeFields cX11_takeFields 5 none, Cond.fieldLink RX11 114 "HeaderLineModel" "by" "[I", Cond.fieldLink RX11 7 "HeaderLineModel" "kind" "[I", Cond.fieldLink RX11 13 "HeaderLineModel" "width" "[I", Cond.fieldLink RX11 117 "HeaderLineModel" "value" "[J", Cond.fieldLink RX11 274 "HeaderLineModel" "cameSum" "J", Cond.methodLink RX11 178 yX11_runs, Cond.instanceMethod yX11_runs]
def wsX11_deliver_r4 : List Cond := [Cond.selects RX11 yX11_runs yX11_runs, Cond.code yX11_runs cX11_runs 2 (some .boolean), Cond.methodLink RX11 289 yX11_open, Cond.instanceMethod yX11_open, Cond.selects RX11 yX11_open yX11_open, Cond.code yX11_open cX11_open 6 none, Cond.fieldLink RX11 16 "HeaderLineModel" "tied" "[I", Cond.fieldLink RX11 19 "HeaderLineModel" "extra" "[J", Cond.methodLink RX11 171 yX11_cut, Cond.instanceMethod yX11_cut, Cond.selects RX11 yX11_cut yX11_cut, Cond.code yX11_cut cX11_cut 4 (some .long), Cond.methodLink RX11 183 yX11_onwards, Cond.instanceMethod yX11_onwards, Cond.selects RX11 yX11_onwards yX11_onwards, Cond.code yX11_onwards cX11_onwards 6 (some .long), Cond.methodLink RX11 282 yX11_found, Cond.instanceMethod yX11_found, Cond.selects RX11 yX11_found yX11_found, Cond.code yX11_found cX11_found 11 (some .long), Cond.methodLink RX11 292 yX11_isUnlike, Cond.instanceMethod yX11_isUnlike, Cond.selects RX11 yX11_isUnlike yX11_isUnlike, Cond.code yX11_isUnlike cX11_isUnlike 3 (some .boolean)]
def wsX11_deliver_r5 : List Cond := [Cond.methodLink RX11 200 yX11_sumOf, Cond.instanceMethod yX11_sumOf, Cond.selects RX11 yX11_sumOf yX11_sumOf, Cond.code yX11_sumOf cX11_sumOf 5 (some .int), Cond.constantLong RX11 198 (31), Cond.constantLong RX11 181 (255)]
def wsX11_deliver : List Cond := .code yX11_deliver cX11_deliver 5 (some .int) :: ((wsX11_deliver_r1 ++ (wsX11_deliver_r2 ++ (wsX11_deliver_r3 ++ (wsX11_deliver_r4 ++ wsX11_deliver_r5)))) ++ wsX110)
def wsX11_lose : List Cond := .code yX11_lose cX11_lose 2 (some .int) :: ([.fieldLink RX11 145 "HeaderLineModel" "thrown" "I", .fieldLink RX11 69 "HeaderLineModel" "lost" "[Z", .methodLink RX11 308 yX11_isUnderWay, .instanceMethod yX11_isUnderWay, .selects RX11 yX11_isUnderWay yX11_isUnderWay, .initialized RX11, .code yX11_isUnderWay cX11_isUnderWay 2 (some .boolean), .fieldLink RX11 204 "HeaderLineModel" "letters" "I"] ++ wsX110)
def wsX11_twice : List Cond := .code yX11_twice cX11_twice 4 (some .int) :: ([.fieldLink RX11 145 "HeaderLineModel" "thrown" "I", .fieldLink RX11 204 "HeaderLineModel" "letters" "I", .fieldLink RX11 54 "HeaderLineModel" "letterKind" "[I", .fieldLink RX11 57 "HeaderLineModel" "letterFlow" "[I", .fieldLink RX11 60 "HeaderLineModel" "letterNumber" "[I", .fieldLink RX11 63 "HeaderLineModel" "bits" "[I", .fieldLink RX11 48 "HeaderLineModel" "bytes" "[I", .fieldLink RX11 66 "HeaderLineModel" "outcome" "[I", .fieldLink RX11 69 "HeaderLineModel" "lost" "[Z", .fieldLink RX11 72 "HeaderLineModel" "copied" "[Z", .fieldLink RX11 51 "HeaderLineModel" "row" "[I", .methodLink RX11 308 yX11_isUnderWay, .instanceMethod yX11_isUnderWay, .selects RX11 yX11_isUnderWay yX11_isUnderWay, .initialized RX11, .code yX11_isUnderWay cX11_isUnderWay 2 (some .boolean)] ++ wsX110)
def wsX11_bend : List Cond := .code yX11_bend cX11_bend 4 (some .int) :: ([.fieldLink RX11 145 "HeaderLineModel" "thrown" "I", .fieldLink RX11 48 "HeaderLineModel" "bytes" "[I", .constantLong RX11 181 (255), .fieldLink RX11 51 "HeaderLineModel" "row" "[I", .methodLink RX11 308 yX11_isUnderWay, .instanceMethod yX11_isUnderWay, .selects RX11 yX11_isUnderWay yX11_isUnderWay, .initialized RX11, .code yX11_isUnderWay cX11_isUnderWay 2 (some .boolean), .fieldLink RX11 204 "HeaderLineModel" "letters" "I", .fieldLink RX11 69 "HeaderLineModel" "lost" "[Z", .methodLink RX11 153 yX11_isIn, .static yX11_isIn, .code yX11_isIn cX11_isIn 6 (some .boolean)] ++ wsX110)
def wsX11_octet : List Cond := .code yX11_octet cX11_octet 3 (some .int) :: ([.fieldLink RX11 145 "HeaderLineModel" "thrown" "I", .fieldLink RX11 204 "HeaderLineModel" "letters" "I", .fieldLink RX11 48 "HeaderLineModel" "bytes" "[I", .fieldLink RX11 51 "HeaderLineModel" "row" "[I"] ++ wsX110)
def wsX11_look : List Cond := .code yX11_look cX11_look 3 (some .int) :: ([.fieldLink RX11 145 "HeaderLineModel" "thrown" "I", .fieldLink RX11 204 "HeaderLineModel" "letters" "I", .fieldLink RX11 54 "HeaderLineModel" "letterKind" "[I", .fieldLink RX11 57 "HeaderLineModel" "letterFlow" "[I", .fieldLink RX11 60 "HeaderLineModel" "letterNumber" "[I", .fieldLink RX11 48 "HeaderLineModel" "bytes" "[I", .fieldLink RX11 63 "HeaderLineModel" "bits" "[I", .fieldLink RX11 66 "HeaderLineModel" "outcome" "[I", .fieldLink RX11 69 "HeaderLineModel" "lost" "[Z"] ++ wsX110)
def wsX11_prove : List Cond := .code yX11_prove cX11_prove 4 (some .int) :: ([.fieldLink RX11 145 "HeaderLineModel" "thrown" "I", .fieldLink RX11 204 "HeaderLineModel" "letters" "I", .fieldLink RX11 72 "HeaderLineModel" "copied" "[Z", .fieldLink RX11 54 "HeaderLineModel" "letterKind" "[I", .constantLong RX11 317 (3), .fieldLink RX11 75 "HeaderLineModel" "proven" "[I", .fieldLink RX11 78 "HeaderLineModel" "against" "[I", .fieldLink RX11 81 "HeaderLineModel" "hangs" "[I", .fieldLink RX11 84 "HeaderLineModel" "oldest" "[I", .methodLink RX11 159 yX11_isField, .instanceMethod yX11_isField, .selects RX11 yX11_isField yX11_isField, .initialized RX11, .code yX11_isField cX11_isField 2 (some .boolean), .fieldLink RX11 148 "HeaderLineModel" "fields" "I", .methodLink RX11 178 yX11_runs, .instanceMethod yX11_runs, .selects RX11 yX11_runs yX11_runs, .code yX11_runs cX11_runs 2 (some .boolean), .fieldLink RX11 7 "HeaderLineModel" "kind" "[I", .methodLink RX11 153 yX11_isIn, .static yX11_isIn, .code yX11_isIn cX11_isIn 6 (some .boolean)] ++ wsX110)
def wsX11_got : List Cond := .code yX11_got cX11_got 2 (some .long) :: ([.fieldLink RX11 145 "HeaderLineModel" "thrown" "I", .constantLong RX11 169 (-1), .fieldLink RX11 305 "HeaderLineModel" "gets" "I", .constantLong RX11 319 (-2), .fieldLink RX11 102 "HeaderLineModel" "got" "[J", .methodLink RX11 159 yX11_isField, .instanceMethod yX11_isField, .selects RX11 yX11_isField yX11_isField, .initialized RX11, .code yX11_isField cX11_isField 2 (some .boolean), .fieldLink RX11 148 "HeaderLineModel" "fields" "I"] ++ wsX110)
def wsX11_way : List Cond := .code yX11_way cX11_way 2 (some .int) :: ([.fieldLink RX11 145 "HeaderLineModel" "thrown" "I", .fieldLink RX11 305 "HeaderLineModel" "gets" "I", .fieldLink RX11 105 "HeaderLineModel" "way" "[I", .methodLink RX11 159 yX11_isField, .instanceMethod yX11_isField, .selects RX11 yX11_isField yX11_isField, .initialized RX11, .code yX11_isField cX11_isField 2 (some .boolean), .fieldLink RX11 148 "HeaderLineModel" "fields" "I"] ++ wsX110)
def wsX11_hung : List Cond := .code yX11_hung cX11_hung 2 (some .int) :: ([.fieldLink RX11 145 "HeaderLineModel" "thrown" "I", .constantLong RX11 317 (3), .fieldLink RX11 305 "HeaderLineModel" "gets" "I", .fieldLink RX11 299 "HeaderLineModel" "gotFlow" "I", .fieldLink RX11 302 "HeaderLineModel" "gotNumber" "I", .fieldLink RX11 296 "HeaderLineModel" "gotFrom" "I", .methodLink RX11 153 yX11_isIn, .static yX11_isIn, .initialized RX11, .code yX11_isIn cX11_isIn 6 (some .boolean)] ++ wsX110)
def wsX11_context : List Cond := .code yX11_context cX11_context 3 (some .int) :: ([.fieldLink RX11 145 "HeaderLineModel" "thrown" "I", .constantLong RX11 265 (2), .fieldLink RX11 87 "HeaderLineModel" "has" "[Z", .fieldLink RX11 90 "HeaderLineModel" "contextNumber" "[I", .fieldLink RX11 93 "HeaderLineModel" "contextRound" "[I", .methodLink RX11 175 yX11_isFlow, .static yX11_isFlow, .initialized RX11, .code yX11_isFlow cX11_isFlow 1 (some .boolean), .methodLink RX11 153 yX11_isIn, .static yX11_isIn, .code yX11_isIn cX11_isIn 6 (some .boolean)] ++ wsX110)
def wsX11_known : List Cond := .code yX11_known cX11_known 4 (some .long) :: ([.fieldLink RX11 145 "HeaderLineModel" "thrown" "I", .constantLong RX11 169 (-1), .fieldLink RX11 87 "HeaderLineModel" "has" "[Z", .constantLong RX11 319 (-2), .fieldLink RX11 96 "HeaderLineModel" "contextStride" "[I", .fieldLink RX11 99 "HeaderLineModel" "context" "[J", .methodLink RX11 175 yX11_isFlow, .static yX11_isFlow, .initialized RX11, .code yX11_isFlow cX11_isFlow 1 (some .boolean), .methodLink RX11 159 yX11_isField, .instanceMethod yX11_isField, .selects RX11 yX11_isField yX11_isField, .code yX11_isField cX11_isField 2 (some .boolean), .fieldLink RX11 148 "HeaderLineModel" "fields" "I"] ++ wsX110)
def wsX11_squeezer : List Cond := .code yX11_squeezer cX11_squeezer 3 (some .int) :: ([.fieldLink RX11 145 "HeaderLineModel" "thrown" "I", .constantLong RX11 151 (4), .fieldLink RX11 26 "HeaderLineModel" "told" "[I", .fieldLink RX11 29 "HeaderLineModel" "round" "[I", .fieldLink RX11 39 "HeaderLineModel" "references" "[I", .fieldLink RX11 42 "HeaderLineModel" "number" "[I", .fieldLink RX11 35 "HeaderLineModel" "owes" "[Z", .methodLink RX11 175 yX11_isFlow, .static yX11_isFlow, .initialized RX11, .code yX11_isFlow cX11_isFlow 1 (some .boolean), .methodLink RX11 153 yX11_isIn, .static yX11_isIn, .code yX11_isIn cX11_isIn 6 (some .boolean)] ++ wsX110)
def wsX11_forget : List Cond := .code yX11_forget cX11_forget 4 (some .int) :: ([.fieldLink RX11 145 "HeaderLineModel" "thrown" "I", .fieldLink RX11 87 "HeaderLineModel" "has" "[Z", .fieldLink RX11 39 "HeaderLineModel" "references" "[I", .fieldLink RX11 35 "HeaderLineModel" "owes" "[Z", .methodLink RX11 175 yX11_isFlow, .static yX11_isFlow, .initialized RX11, .code yX11_isFlow cX11_isFlow 1 (some .boolean), .methodLink RX11 153 yX11_isIn, .static yX11_isIn, .code yX11_isIn cX11_isIn 6 (some .boolean)] ++ wsX110)
def wsX11_wholeBits : List Cond := .code yX11_wholeBits cX11_wholeBits 3 (some .int) :: ([.fieldLink RX11 148 "HeaderLineModel" "fields" "I", .fieldLink RX11 13 "HeaderLineModel" "width" "[I", .methodLink RX11 178 yX11_runs, .instanceMethod yX11_runs, .selects RX11 yX11_runs yX11_runs, .initialized RX11, .code yX11_runs cX11_runs 2 (some .boolean), .fieldLink RX11 7 "HeaderLineModel" "kind" "[I"] ++ wsX110)
def wsX11_spent_r1 : List Cond := [Cond.fieldLink RX11 145 "HeaderLineModel" "thrown" "I", Cond.constantLong RX11 321 (5), Cond.constantLong RX11 265 (2), Cond.constantLong RX11 169 (-1), Cond.fieldLink RX11 204 "HeaderLineModel" "letters" "I", Cond.fieldLink RX11 72 "HeaderLineModel" "copied" "[Z", Cond.fieldLink RX11 57 "HeaderLineModel" "letterFlow" "[I", Cond.fieldLink RX11 54 "HeaderLineModel" "letterKind" "[I", Cond.fieldLink RX11 63 "HeaderLineModel" "bits" "[I", Cond.methodLink RX11 175 yX11_isFlow, Cond.static yX11_isFlow, Cond.initialized RX11, Cond.code yX11_isFlow cX11_isFlow 1 (some .boolean), Cond.methodLink RX11 153 yX11_isIn, Cond.static yX11_isIn, Cond.code yX11_isIn cX11_isIn 6 (some .boolean), Cond.methodLink RX11 323 yX11_wholeBits, Cond.instanceMethod yX11_wholeBits, Cond.selects RX11 yX11_wholeBits yX11_wholeBits, Cond.code yX11_wholeBits cX11_wholeBits 3 (some .int), Cond.fieldLink RX11 148 "HeaderLineModel" "fields" "I", Cond.fieldLink RX11 13 "HeaderLineModel" "width" "[I", Cond.methodLink RX11 178 yX11_runs, Cond.instanceMethod yX11_runs]
def wsX11_spent_r2 : List Cond := [Cond.selects RX11 yX11_runs yX11_runs, Cond.code yX11_runs cX11_runs 2 (some .boolean), Cond.fieldLink RX11 7 "HeaderLineModel" "kind" "[I"]
def wsX11_spent : List Cond := .code yX11_spent cX11_spent 7 (some .long) :: ((wsX11_spent_r1 ++ wsX11_spent_r2) ++ wsX110)
def wsX11_isShelf : List Cond := .code yX11_isShelf cX11_isShelf 1 (some .boolean) :: ([])
def wsX11_canKeep : List Cond := .code yX11_canKeep cX11_canKeep 3 (some .boolean) :: ([.fieldLink RX11 204 "HeaderLineModel" "letters" "I", .fieldLink RX11 87 "HeaderLineModel" "has" "[Z", .methodLink RX11 175 yX11_isFlow, .static yX11_isFlow, .initialized RX11, .code yX11_isFlow cX11_isFlow 1 (some .boolean)] ++ wsX110)
def wsX11_keep_r1 : List Cond := [Cond.fieldLink RX11 145 "HeaderLineModel" "thrown" "I", Cond.constantLong RX11 151 (4), Cond.fieldLink RX11 126 "HeaderLineModel" "held" "[I", Cond.fieldLink RX11 129 "HeaderLineModel" "heldSize" "[I", Cond.fieldLink RX11 48 "HeaderLineModel" "bytes" "[I", Cond.fieldLink RX11 39 "HeaderLineModel" "references" "[I", Cond.fieldLink RX11 148 "HeaderLineModel" "fields" "I", Cond.fieldLink RX11 132 "HeaderLineModel" "heldKind" "[I", Cond.fieldLink RX11 54 "HeaderLineModel" "letterKind" "[I", Cond.fieldLink RX11 135 "HeaderLineModel" "heldRow" "[J", Cond.fieldLink RX11 51 "HeaderLineModel" "row" "[I", Cond.fieldLink RX11 42 "HeaderLineModel" "number" "[I", Cond.fieldLink RX11 99 "HeaderLineModel" "context" "[J", Cond.methodLink RX11 326 yX11_isShelf, Cond.static yX11_isShelf, Cond.initialized RX11, Cond.code yX11_isShelf cX11_isShelf 1 (some .boolean), Cond.methodLink RX11 153 yX11_isIn, Cond.static yX11_isIn, Cond.code yX11_isIn cX11_isIn 6 (some .boolean), Cond.methodLink RX11 329 yX11_canKeep, Cond.instanceMethod yX11_canKeep, Cond.selects RX11 yX11_canKeep yX11_canKeep, Cond.code yX11_canKeep cX11_canKeep 3 (some .boolean)]
def wsX11_keep_r2 : List Cond := [Cond.fieldLink RX11 204 "HeaderLineModel" "letters" "I", Cond.fieldLink RX11 87 "HeaderLineModel" "has" "[Z", Cond.methodLink RX11 175 yX11_isFlow, Cond.static yX11_isFlow, Cond.code yX11_isFlow cX11_isFlow 1 (some .boolean)]
def wsX11_keep : List Cond := .code yX11_keep cX11_keep 5 (some .int) :: ((wsX11_keep_r1 ++ wsX11_keep_r2) ++ wsX110)
def wsX11_make : List Cond := .code yX11_make cX11_make 5 (some .int) :: ([.fieldLink RX11 145 "HeaderLineModel" "thrown" "I", .constantLong RX11 265 (2), .constantLong RX11 151 (4), .fieldLink RX11 126 "HeaderLineModel" "held" "[I", .fieldLink RX11 129 "HeaderLineModel" "heldSize" "[I", .fieldLink RX11 135 "HeaderLineModel" "heldRow" "[J", .methodLink RX11 326 yX11_isShelf, .static yX11_isShelf, .initialized RX11, .code yX11_isShelf cX11_isShelf 1 (some .boolean), .methodLink RX11 153 yX11_isIn, .static yX11_isIn, .code yX11_isIn cX11_isIn 6 (some .boolean)] ++ wsX110)
def wsX11_put : List Cond := .code yX11_put cX11_put 6 (some .long) :: ([.fieldLink RX11 145 "HeaderLineModel" "thrown" "I", .constantLong RX11 333 (30000), .constantLong RX11 169 (-1), .fieldLink RX11 126 "HeaderLineModel" "held" "[I", .constantLong RX11 335 (-11), .constantLong RX11 337 (-12), .fieldLink RX11 129 "HeaderLineModel" "heldSize" "[I", .constantLong RX11 339 (-13), .fieldLink RX11 135 "HeaderLineModel" "heldRow" "[J", .methodLink RX11 326 yX11_isShelf, .static yX11_isShelf, .initialized RX11, .code yX11_isShelf cX11_isShelf 1 (some .boolean), .methodLink RX11 153 yX11_isIn, .static yX11_isIn, .code yX11_isIn cX11_isIn 6 (some .boolean)] ++ wsX110)
def wsX11_hasPlaces : List Cond := .code yX11_hasPlaces cX11_hasPlaces 4 (some .boolean) :: ([.fieldLink RX11 129 "HeaderLineModel" "heldSize" "[I"] ++ wsX110)
def wsX11_copy : List Cond := .code yX11_copy cX11_copy 7 (some .int) :: ([.fieldLink RX11 145 "HeaderLineModel" "thrown" "I", .fieldLink RX11 126 "HeaderLineModel" "held" "[I", .fieldLink RX11 138 "HeaderLineModel" "between" "[J", .fieldLink RX11 135 "HeaderLineModel" "heldRow" "[J", .methodLink RX11 326 yX11_isShelf, .static yX11_isShelf, .initialized RX11, .code yX11_isShelf cX11_isShelf 1 (some .boolean), .methodLink RX11 341 yX11_hasPlaces, .instanceMethod yX11_hasPlaces, .selects RX11 yX11_hasPlaces yX11_hasPlaces, .code yX11_hasPlaces cX11_hasPlaces 4 (some .boolean), .fieldLink RX11 129 "HeaderLineModel" "heldSize" "[I"] ++ wsX110)
def wsX11_denied : List Cond := .code yX11_denied cX11_denied 2 (some .int) :: ([.fieldLink RX11 126 "HeaderLineModel" "held" "[I", .methodLink RX11 326 yX11_isShelf, .static yX11_isShelf, .initialized RX11, .code yX11_isShelf cX11_isShelf 1 (some .boolean)] ++ wsX110)
def wsX11_worth : List Cond := .code yX11_worth cX11_worth 5 (some .int) :: ([.fieldLink RX11 145 "HeaderLineModel" "thrown" "I", .fieldLink RX11 132 "HeaderLineModel" "heldKind" "[I", .fieldLink RX11 129 "HeaderLineModel" "heldSize" "[I", .methodLink RX11 344 yX11_denied, .instanceMethod yX11_denied, .selects RX11 yX11_denied yX11_denied, .initialized RX11, .code yX11_denied cX11_denied 2 (some .int), .fieldLink RX11 126 "HeaderLineModel" "held" "[I", .methodLink RX11 326 yX11_isShelf, .static yX11_isShelf, .code yX11_isShelf cX11_isShelf 1 (some .boolean)] ++ wsX110)
def wsX11_toss : List Cond := .code yX11_toss cX11_toss 3 (some .int) :: ([.fieldLink RX11 145 "HeaderLineModel" "thrown" "I", .fieldLink RX11 132 "HeaderLineModel" "heldKind" "[I", .methodLink RX11 344 yX11_denied, .instanceMethod yX11_denied, .selects RX11 yX11_denied yX11_denied, .initialized RX11, .code yX11_denied cX11_denied 2 (some .int), .fieldLink RX11 126 "HeaderLineModel" "held" "[I", .methodLink RX11 326 yX11_isShelf, .static yX11_isShelf, .code yX11_isShelf cX11_isShelf 1 (some .boolean)] ++ wsX110)
def wsX11_count : List Cond := .code yX11_count cX11_count 4 (some .int) :: ([.fieldLink RX11 145 "HeaderLineModel" "thrown" "I", .fieldLink RX11 204 "HeaderLineModel" "letters" "I", .fieldLink RX11 69 "HeaderLineModel" "lost" "[Z", .fieldLink RX11 148 "HeaderLineModel" "fields" "I", .fieldLink RX11 141 "HeaderLineModel" "window" "I"] ++ wsX110)
def wsJ9_max_7cf53 : List Cond := .code yJ9_max_7cf53 cJ9_max_7cf53 2 (some .int) :: ([])
def wsJ9_min_7cf53 : List Cond := .code yJ9_min_7cf53 cJ9_min_7cf53 2 (some .int) :: ([])
def wsL_cell : List Cond := .code yL_cell cL_cell 2 (some .int) :: ([])
def wsL_law_r1 : List Cond := [Cond.classLink RL 7 RX10, Cond.instantiable RX10 12, Cond.initialized RX10, Cond.classLink RL 18 RX11, Cond.instantiable RX11 58, Cond.initialized RX11, Cond.constantLong RL 26 (4294967295), Cond.methodLink RL 9 yL_cell, Cond.static yL_cell, Cond.initialized RL, Cond.code yL_cell cL_cell 2 (some .int), Cond.methodLink RL 15 yX10_init, Cond.instanceMethod yX10_init, Cond.code yX10_init cX10_init 3 none, Cond.methodLink RX10 1 objectInit, Cond.instanceMethod objectInit, Cond.code objectInit ⟨#[0xb1]⟩ 1 none, Cond.fieldLink RX10 15 "HeaderLine" "window" "I", Cond.classLink RX10 19 RX6, Cond.instantiable RX6 5, Cond.initialized RX6, Cond.fieldLink RX10 22 "HeaderLine" "plan" "LHeaderLine$Plan;", Cond.classLink RX10 26 RX3, Cond.instantiable RX3 2]
def wsL_law_r2 : List Cond := [Cond.initialized RX3, Cond.fieldLink RX10 29 "HeaderLine" "draft" "LHeaderLine$Header;", Cond.classLink RX10 33 RX9, Cond.fieldLink RX10 35 "HeaderLine" "squeezers" "[LHeaderLine$Squeezer;", Cond.classLink RX10 39 RX1, Cond.fieldLink RX10 41 "HeaderLine" "contexts" "[LHeaderLine$Context;", Cond.instantiable RX9 7, Cond.initialized RX9, Cond.instantiable RX1 4, Cond.initialized RX1, Cond.classLink RX10 47 RX4, Cond.fieldLink RX10 49 "HeaderLine" "letters" "[LHeaderLine$Letter;", Cond.classLink RX10 53 RX8, Cond.fieldLink RX10 55 "HeaderLine" "shelves" "[LHeaderLine$Shelf;", Cond.instantiable RX8 5, Cond.initialized RX8, Cond.classLink RX10 60 RX5, Cond.instantiable RX5 2, Cond.initialized RX5, Cond.fieldLink RX10 63 "HeaderLine" "pen" "LHeaderLine$Pen;", Cond.classLink RX10 67 RX0, Cond.instantiable RX0 12, Cond.initialized RX0, Cond.fieldLink RX10 70 "HeaderLine" "arrival" "LHeaderLine$Arrival;"]
def wsL_law_r3 : List Cond := [Cond.classLink RX10 74 RX2, Cond.instantiable RX2 5, Cond.initialized RX2, Cond.fieldLink RX10 77 "HeaderLine" "latest" "LHeaderLine$Got;", Cond.methodLink RX10 9 yJ9_floorMod_7cf53, Cond.static yJ9_floorMod_7cf53, Cond.initialized RJ9, Cond.code yJ9_floorMod_7cf53 cJ9_floorMod_7cf53 3 (some .int), Cond.instanceMethod yX6_init, Cond.code yX6_init cX6_init 1 none, Cond.methodLink RX6 3 objectInit, Cond.arrayClass .int, Cond.fieldLink RX6 9 "HeaderLine$Plan" "kinds" "[I", Cond.fieldLink RX6 15 "HeaderLine$Plan" "widths" "[I", Cond.fieldLink RX6 18 "HeaderLine$Plan" "ties" "[I", Cond.fieldLink RX6 21 "HeaderLine$Plan" "extras" "[I", Cond.instanceMethod yX3_init, Cond.code yX3_init cX3_init 1 none, Cond.methodLink RX3 3 objectInit, Cond.arrayClass .long, Cond.fieldLink RX3 9 "HeaderLine$Header" "values" "[J", Cond.methodLink RX10 45 yX9_init, Cond.instanceMethod yX9_init, Cond.code yX9_init cX9_init 2 none]
def wsL_law_r4 : List Cond := [Cond.methodLink RX9 3 objectInit, Cond.fieldLink RX9 9 "HeaderLine$Squeezer" "strides" "[I", Cond.fieldLink RX9 15 "HeaderLine$Squeezer" "owes" "Z", Cond.classLink RX9 19 RX3, Cond.fieldLink RX9 21 "HeaderLine$Squeezer" "ring" "[LHeaderLine$Header;", Cond.methodLink RX9 25 yJ7_fill_53178, Cond.static yJ7_fill_53178, Cond.initialized RJ7, Cond.code yJ7_fill_53178 cJ7_fill_53178 4 none, Cond.instanceMethod yX1_init, Cond.code yX1_init cX1_init 1 none, Cond.methodLink RX1 3 objectInit, Cond.classLink RX1 9 RX3, Cond.fieldLink RX1 12 "HeaderLine$Context" "header" "LHeaderLine$Header;", Cond.fieldLink RX1 18 "HeaderLine$Context" "strides" "[I", Cond.instanceMethod yX8_init, Cond.code yX8_init cX8_init 1 none, Cond.methodLink RX8 3 objectInit, Cond.fieldLink RX8 9 "HeaderLine$Shelf" "row" "[J", Cond.instanceMethod yX5_init, Cond.code yX5_init cX5_init 1 none, Cond.methodLink RX5 3 objectInit, Cond.fieldLink RX5 9 "HeaderLine$Pen" "bytes" "[I", Cond.instanceMethod yX0_init]
def wsL_law_r5 : List Cond := [Cond.code yX0_init cX0_init 1 none, Cond.methodLink RX0 3 objectInit, Cond.classLink RX0 9 RX3, Cond.fieldLink RX0 12 "HeaderLine$Arrival" "header" "LHeaderLine$Header;", Cond.fieldLink RX0 18 "HeaderLine$Arrival" "strides" "[I", Cond.fieldLink RX0 22 "HeaderLine$Arrival" "ways" "[I", Cond.fieldLink RX0 25 "HeaderLine$Arrival" "lengths" "[I", Cond.fieldLink RX0 28 "HeaderLine$Arrival" "told" "[J", Cond.fieldLink RX0 32 "HeaderLine$Arrival" "bytes" "[I", Cond.instanceMethod yX2_init, Cond.code yX2_init cX2_init 1 none, Cond.methodLink RX2 3 objectInit, Cond.classLink RX2 9 RX3, Cond.fieldLink RX2 12 "HeaderLine$Got" "header" "LHeaderLine$Header;", Cond.fieldLink RX2 18 "HeaderLine$Got" "ways" "[I", Cond.methodLink RL 20 yX11_init, Cond.instanceMethod yX11_init, Cond.code yX11_init cX11_init 3 none, Cond.methodLink RX11 1 objectInit, Cond.fieldLink RX11 7 "HeaderLineModel" "kind" "[I", Cond.fieldLink RX11 13 "HeaderLineModel" "width" "[I", Cond.fieldLink RX11 16 "HeaderLineModel" "tied" "[I", Cond.fieldLink RX11 19 "HeaderLineModel" "extra" "[J", Cond.fieldLink RX11 23 "HeaderLineModel" "draft" "[J"]
def wsL_law_r6 : List Cond := [Cond.fieldLink RX11 26 "HeaderLineModel" "told" "[I", Cond.fieldLink RX11 29 "HeaderLineModel" "round" "[I", Cond.fieldLink RX11 32 "HeaderLineModel" "stride" "[I", Cond.arrayClass .boolean, Cond.fieldLink RX11 35 "HeaderLineModel" "owes" "[Z", Cond.fieldLink RX11 39 "HeaderLineModel" "references" "[I", Cond.fieldLink RX11 42 "HeaderLineModel" "number" "[I", Cond.fieldLink RX11 45 "HeaderLineModel" "header" "[J", Cond.fieldLink RX11 48 "HeaderLineModel" "bytes" "[I", Cond.fieldLink RX11 51 "HeaderLineModel" "row" "[I", Cond.fieldLink RX11 54 "HeaderLineModel" "letterKind" "[I", Cond.fieldLink RX11 57 "HeaderLineModel" "letterFlow" "[I", Cond.fieldLink RX11 60 "HeaderLineModel" "letterNumber" "[I", Cond.fieldLink RX11 63 "HeaderLineModel" "bits" "[I", Cond.fieldLink RX11 66 "HeaderLineModel" "outcome" "[I", Cond.fieldLink RX11 69 "HeaderLineModel" "lost" "[Z", Cond.fieldLink RX11 72 "HeaderLineModel" "copied" "[Z", Cond.fieldLink RX11 75 "HeaderLineModel" "proven" "[I", Cond.fieldLink RX11 78 "HeaderLineModel" "against" "[I", Cond.fieldLink RX11 81 "HeaderLineModel" "hangs" "[I", Cond.fieldLink RX11 84 "HeaderLineModel" "oldest" "[I", Cond.fieldLink RX11 87 "HeaderLineModel" "has" "[Z", Cond.fieldLink RX11 90 "HeaderLineModel" "contextNumber" "[I", Cond.fieldLink RX11 93 "HeaderLineModel" "contextRound" "[I"]
def wsL_law_r7 : List Cond := [Cond.fieldLink RX11 96 "HeaderLineModel" "contextStride" "[I", Cond.fieldLink RX11 99 "HeaderLineModel" "context" "[J", Cond.fieldLink RX11 102 "HeaderLineModel" "got" "[J", Cond.fieldLink RX11 105 "HeaderLineModel" "way" "[I", Cond.fieldLink RX11 108 "HeaderLineModel" "bit" "[I", Cond.fieldLink RX11 111 "HeaderLineModel" "stands" "[I", Cond.fieldLink RX11 114 "HeaderLineModel" "by" "[I", Cond.fieldLink RX11 117 "HeaderLineModel" "value" "[J", Cond.fieldLink RX11 120 "HeaderLineModel" "steps" "[I", Cond.fieldLink RX11 123 "HeaderLineModel" "next" "[J", Cond.fieldLink RX11 126 "HeaderLineModel" "held" "[I", Cond.fieldLink RX11 129 "HeaderLineModel" "heldSize" "[I", Cond.fieldLink RX11 132 "HeaderLineModel" "heldKind" "[I", Cond.fieldLink RX11 135 "HeaderLineModel" "heldRow" "[J", Cond.fieldLink RX11 138 "HeaderLineModel" "between" "[J", Cond.fieldLink RX11 141 "HeaderLineModel" "window" "I", Cond.methodLink RL 21 yX10_field, Cond.instanceMethod yX10_field, Cond.selects RX10 yX10_field yX10_field, Cond.code yX10_field cX10_field 5 (some .int), Cond.fieldLink RX10 85 "HeaderLine$Plan" "size" "I", Cond.fieldLink RX10 88 "HeaderLine" "letterCount" "I", Cond.methodLink RX10 81 yX6_allows, Cond.instanceMethod yX6_allows]
def wsL_law_r8 : List Cond := [Cond.selects RX6 yX6_allows yX6_allows, Cond.code yX6_allows cX6_allows 5 (some .boolean), Cond.methodLink RX6 24 yX6_has, Cond.instanceMethod yX6_has, Cond.selects RX6 yX6_has yX6_has, Cond.code yX6_has cX6_has 2 (some .boolean), Cond.fieldLink RX6 28 "HeaderLine$Plan" "size" "I", Cond.methodLink RX10 91 yX6_append, Cond.instanceMethod yX6_append, Cond.selects RX6 yX6_append yX6_append, Cond.code yX6_append cX6_append 5 (some .int), Cond.methodLink RL 25 yX11_field, Cond.instanceMethod yX11_field, Cond.selects RX11 yX11_field yX11_field, Cond.code yX11_field cX11_field 6 (some .int), Cond.fieldLink RX11 145 "HeaderLineModel" "thrown" "I", Cond.constantLong RX11 151 (4), Cond.constantLong RX11 157 (32), Cond.constantLong RX11 163 (1000), Cond.fieldLink RX11 148 "HeaderLineModel" "fields" "I", Cond.fieldLink RX11 165 "HeaderLineModel" "closed" "Z", Cond.methodLink RX11 153 yX11_isIn, Cond.static yX11_isIn, Cond.code yX11_isIn cX11_isIn 6 (some .boolean)]
def wsL_law_r9 : List Cond := [Cond.methodLink RX11 159 yX11_isField, Cond.instanceMethod yX11_isField, Cond.selects RX11 yX11_isField yX11_isField, Cond.code yX11_isField cX11_isField 2 (some .boolean), Cond.methodLink RL 28 yX10_set, Cond.instanceMethod yX10_set, Cond.selects RX10 yX10_set yX10_set, Cond.code yX10_set cX10_set 6 (some .long), Cond.constantLong RX10 99 (-1), Cond.fieldLink RX10 101 "HeaderLine$Header" "values" "[J", Cond.methodLink RX10 95 yX6_has, Cond.methodLink RX10 105 yX6_lowBits, Cond.instanceMethod yX6_lowBits, Cond.selects RX6 yX6_lowBits yX6_lowBits, Cond.code yX6_lowBits cX6_lowBits 4 (some .long), Cond.static yX10_lowest, Cond.code yX10_lowest cX10_lowest 3 (some .long), Cond.methodLink RL 32 yX11_set, Cond.instanceMethod yX11_set, Cond.selects RX11 yX11_set yX11_set, Cond.code yX11_set cX11_set 6 (some .long), Cond.constantLong RX11 169 (-1), Cond.methodLink RX11 171 yX11_cut, Cond.instanceMethod yX11_cut]
def wsL_law_r10 : List Cond := [Cond.selects RX11 yX11_cut yX11_cut, Cond.code yX11_cut cX11_cut 4 (some .long), Cond.methodLink RL 33 yX10_stride, Cond.instanceMethod yX10_stride, Cond.selects RX10 yX10_stride yX10_stride, Cond.code yX10_stride cX10_stride 6 (some .int), Cond.fieldLink RX10 115 "HeaderLine$Squeezer" "strides" "[I", Cond.fieldLink RX10 119 "HeaderLine$Squeezer" "owes" "Z", Cond.methodLink RX10 109 yX10_isFlow, Cond.static yX10_isFlow, Cond.code yX10_isFlow cX10_isFlow 1 (some .boolean), Cond.methodLink RX10 112 yX6_hasStride, Cond.instanceMethod yX6_hasStride, Cond.selects RX6 yX6_hasStride yX6_hasStride, Cond.code yX6_hasStride cX6_hasStride 2 (some .boolean), Cond.methodLink RL 37 yX11_stride, Cond.instanceMethod yX11_stride, Cond.selects RX11 yX11_stride yX11_stride, Cond.code yX11_stride cX11_stride 5 (some .int), Cond.constantLong RX11 181 (255), Cond.methodLink RX11 175 yX11_isFlow, Cond.static yX11_isFlow, Cond.code yX11_isFlow cX11_isFlow 1 (some .boolean), Cond.methodLink RX11 178 yX11_runs]
def wsL_law_r11 : List Cond := [Cond.instanceMethod yX11_runs, Cond.selects RX11 yX11_runs yX11_runs, Cond.code yX11_runs cX11_runs 2 (some .boolean), Cond.methodLink RL 38 yX10_send, Cond.instanceMethod yX10_send, Cond.selects RX10 yX10_send yX10_send, Cond.code yX10_send cX10_send 6 (some .int), Cond.fieldLink RX10 127 "HeaderLine$Squeezer" "number" "I", Cond.fieldLink RX10 130 "HeaderLine$Header" "number" "I", Cond.classLink RX10 149 RX7, Cond.instantiable RX7 4, Cond.initialized RX7, Cond.methodLink RX10 123 yX10_isLineFull, Cond.instanceMethod yX10_isLineFull, Cond.selects RX10 yX10_isLineFull yX10_isLineFull, Cond.code yX10_isLineFull cX10_isLineFull 1 (some .boolean), Cond.methodLink RX10 131 yX9_kindFor, Cond.instanceMethod yX9_kindFor, Cond.selects RX9 yX9_kindFor yX9_kindFor, Cond.code yX9_kindFor cX9_kindFor 6 (some .int), Cond.fieldLink RX9 42 "HeaderLine$Squeezer" "held" "I", Cond.fieldLink RX9 52 "HeaderLine$Plan" "size" "I", Cond.fieldLink RX9 57 "HeaderLine$Plan" "kinds" "[I", Cond.methodLink RX9 60 yX9_isGivenByAll]
def wsL_law_r12 : List Cond := [Cond.instanceMethod yX9_isGivenByAll, Cond.selects RX9 yX9_isGivenByAll yX9_isGivenByAll, Cond.code yX9_isGivenByAll cX9_isGivenByAll 4 (some .boolean), Cond.methodLink RX9 117 yX9_oldestMiss, Cond.instanceMethod yX9_oldestMiss, Cond.selects RX9 yX9_oldestMiss yX9_oldestMiss, Cond.code yX9_oldestMiss cX9_oldestMiss 10 (some .int), Cond.fieldLink RX9 73 "HeaderLine$Header" "values" "[J", Cond.fieldLink RX9 49 "HeaderLine$Header" "number" "I", Cond.methodLink RX9 45 yX9_reference, Cond.instanceMethod yX9_reference, Cond.selects RX9 yX9_reference yX9_reference, Cond.code yX9_reference cX9_reference 2 (some (.object "HeaderLine$Header")), Cond.fieldLink RX9 32 "HeaderLine$Squeezer" "first" "I", Cond.methodLink RX9 36 yJ9_floorMod_7cf53, Cond.methodLink RX9 121 yX6_given, Cond.instanceMethod yX6_given, Cond.selects RX6 yX6_given yX6_given, Cond.code yX6_given cX6_given 7 (some .long), Cond.fieldLink RX6 49 "HeaderLine$Header" "number" "I", Cond.fieldLink RX6 43 "HeaderLine$Header" "values" "[J", Cond.methodLink RX6 52 yX6_lowBits, Cond.methodLink RX9 125 yX6_found, Cond.instanceMethod yX6_found]
def wsL_law_r13 : List Cond := [Cond.selects RX6 yX6_found yX6_found, Cond.code yX6_found cX6_found 9 (some .long), Cond.methodLink RX10 135 yX5_begin, Cond.instanceMethod yX5_begin, Cond.selects RX5 yX5_begin yX5_begin, Cond.code yX5_begin cX5_begin 4 none, Cond.fieldLink RX5 21 "HeaderLine$Pen" "bits" "I", Cond.methodLink RX5 15 yJ7_fill_53178, Cond.methodLink RX5 25 yX5_write, Cond.instanceMethod yX5_write, Cond.selects RX5 yX5_write yX5_write, Cond.code yX5_write cX5_write 6 none, Cond.static yX10_wholeBytes, Cond.code yX10_wholeBytes cX10_wholeBytes 1 (some .int), Cond.methodLink RX10 139 yX9_beginRound, Cond.instanceMethod yX9_beginRound, Cond.selects RX9 yX9_beginRound yX9_beginRound, Cond.code yX9_beginRound cX9_beginRound 1 none, Cond.fieldLink RX9 64 "HeaderLine$Squeezer" "round" "I", Cond.methodLink RX10 142 yX9_writeWhole, Cond.instanceMethod yX9_writeWhole, Cond.selects RX9 yX9_writeWhole yX9_writeWhole, Cond.code yX9_writeWhole cX9_writeWhole 5 none, Cond.fieldLink RX9 77 "HeaderLine$Plan" "widths" "[I"]
def wsL_law_r14 : List Cond := [Cond.methodLink RX9 67 yX5_write, Cond.methodLink RX9 80 yX6_hasStride, Cond.methodLink RX10 146 yX9_writePart, Cond.instanceMethod yX9_writePart, Cond.selects RX9 yX9_writePart yX9_writePart, Cond.code yX9_writePart cX9_writePart 7 none, Cond.methodLink RX9 84 yX6_sumOf, Cond.instanceMethod yX6_sumOf, Cond.selects RX6 yX6_sumOf yX6_sumOf, Cond.code yX6_sumOf cX6_sumOf 5 (some .int), Cond.constantLong RX6 39 (17), Cond.constantLong RX6 41 (31), Cond.instanceMethod yX7_init, Cond.code yX7_init cX7_init 1 none, Cond.methodLink RX7 3 objectInit, Cond.fieldLink RX7 9 "HeaderLine$Proof" "lengths" "[I", Cond.fieldLink RX7 15 "HeaderLine$Proof" "misses" "[I", Cond.methodLink RX10 152 yX9_writeShort, Cond.instanceMethod yX9_writeShort, Cond.selects RX9 yX9_writeShort yX9_writeShort, Cond.code yX9_writeShort cX9_writeShort 6 none, Cond.fieldLink RX9 88 "HeaderLine$Proof" "references" "I", Cond.fieldLink RX9 97 "HeaderLine$Proof" "oldest" "I", Cond.fieldLink RX9 104 "HeaderLine$Proof" "lengths" "[I"]
def wsL_law_r15 : List Cond := [Cond.methodLink RX9 93 yX9_oldestNumber, Cond.instanceMethod yX9_oldestNumber, Cond.selects RX9 yX9_oldestNumber yX9_oldestNumber, Cond.code yX9_oldestNumber cX9_oldestNumber 1 (some .int), Cond.methodLink RX9 100 yX9_findLeast, Cond.instanceMethod yX9_findLeast, Cond.selects RX9 yX9_findLeast yX9_findLeast, Cond.code yX9_findLeast cX9_findLeast 7 none, Cond.fieldLink RX9 129 "HeaderLine$Proof" "misses" "[I", Cond.methodLink RX10 156 yX9_remember, Cond.instanceMethod yX9_remember, Cond.selects RX9 yX9_remember yX9_remember, Cond.code yX9_remember cX9_remember 3 none, Cond.fieldLink RX9 115 "HeaderLine$Squeezer" "number" "I", Cond.methodLink RX9 107 yX9_dropOldest, Cond.instanceMethod yX9_dropOldest, Cond.selects RX9 yX9_dropOldest yX9_dropOldest, Cond.code yX9_dropOldest cX9_dropOldest 2 none, Cond.methodLink RX9 111 yX3_become, Cond.instanceMethod yX3_become, Cond.selects RX3 yX3_become yX3_become, Cond.code yX3_become cX3_become 2 none, Cond.methodLink RX3 15 arraycopyName, Cond.native arraycopyName]
def wsL_law_r16 : List Cond := [Cond.static arraycopyName, Cond.initialized "java/lang/System", Cond.fieldLink RX3 21 "HeaderLine$Header" "number" "I", Cond.methodLink RX10 160 yX10_addWritten, Cond.instanceMethod yX10_addWritten, Cond.selects RX10 yX10_addWritten yX10_addWritten, Cond.code yX10_addWritten cX10_addWritten 7 (some .int), Cond.instantiable RX4 9, Cond.initialized RX4, Cond.constant RX10 327 (65536), Cond.fieldLink RX10 328 "HeaderLine$Pen" "bits" "I", Cond.fieldLink RX10 226 "HeaderLine$Letter" "proof" "LHeaderLine$Proof;", Cond.methodLink RX10 320 yX10_endsInCheck, Cond.static yX10_endsInCheck, Cond.code yX10_endsInCheck cX10_endsInCheck 1 (some .boolean), Cond.methodLink RX10 323 yX5_finished, Cond.instanceMethod yX5_finished, Cond.selects RX5 yX5_finished yX5_finished, Cond.code yX5_finished cX5_finished 4 (some (.array .int)), Cond.methodLink RX5 33 yJ7_copyOf_59c91, Cond.static yJ7_copyOf_59c91, Cond.code yJ7_copyOf_59c91 cJ7_copyOf_59c91 3 (some (.array .int)), Cond.methodLink RJ7 316 ⟨"[I", "clone", "()Ljava/lang/Object;"⟩, Cond.sameMethod "[I" "java/lang/Object" "clone" "()Ljava/lang/Object;"]
def wsL_law_r17 : List Cond := [Cond.native ⟨"java/lang/Object", "clone", "()Ljava/lang/Object;"⟩, Cond.instanceMethod ⟨"java/lang/Object", "clone", "()Ljava/lang/Object;"⟩, Cond.selects "[I" ⟨"[I", "clone", "()Ljava/lang/Object;"⟩ ⟨"java/lang/Object", "clone", "()Ljava/lang/Object;"⟩, Cond.classLink RJ7 317 "[I", Cond.methodLink RJ7 304 Lib.Math.min.name, Cond.static Lib.Math.min.name, Cond.initialized "java/lang/Math", Cond.code Lib.Math.min.name Lib.Math.min.code 2 (some .int), Cond.methodLink RJ7 150 arraycopyName, Cond.static yX10_checkOf, Cond.code yX10_checkOf cX10_checkOf 4 (some .int), Cond.methodLink RX10 210 yX4_init, Cond.instanceMethod yX4_init, Cond.code yX4_init cX4_init 6 none, Cond.methodLink RX4 1 objectInit, Cond.fieldLink RX4 7 "HeaderLine$Letter" "outcome" "I", Cond.fieldLink RX4 13 "HeaderLine$Letter" "kind" "I", Cond.fieldLink RX4 16 "HeaderLine$Letter" "flow" "I", Cond.fieldLink RX4 19 "HeaderLine$Letter" "number" "I", Cond.fieldLink RX4 22 "HeaderLine$Letter" "bytes" "[I", Cond.fieldLink RX4 26 "HeaderLine$Letter" "bits" "I", Cond.methodLink RX10 216 yX10_add, Cond.instanceMethod yX10_add, Cond.selects RX10 yX10_add yX10_add]
def wsL_law_r18 : List Cond := [Cond.code yX10_add cX10_add 2 (some .int), Cond.methodLink RL 42 yX11_send, Cond.instanceMethod yX11_send, Cond.selects RX11 yX11_send yX11_send, Cond.code yX11_send cX11_send 7 (some .int), Cond.fieldLink RX11 204 "HeaderLineModel" "letters" "I", Cond.methodLink RX11 224 yX11_giveAll, Cond.instanceMethod yX11_giveAll, Cond.selects RX11 yX11_giveAll yX11_giveAll, Cond.code yX11_giveAll cX11_giveAll 6 (some .boolean), Cond.methodLink RX11 187 yX11_given, Cond.instanceMethod yX11_given, Cond.selects RX11 yX11_given yX11_given, Cond.code yX11_given cX11_given 6 (some .long), Cond.methodLink RX11 183 yX11_onwards, Cond.instanceMethod yX11_onwards, Cond.selects RX11 yX11_onwards yX11_onwards, Cond.code yX11_onwards cX11_onwards 6 (some .long), Cond.methodLink RX11 240 yX11_sendWhole, Cond.instanceMethod yX11_sendWhole, Cond.selects RX11 yX11_sendWhole yX11_sendWhole, Cond.code yX11_sendWhole cX11_sendWhole 4 (some .int), Cond.methodLink RX11 216 yX11_head, Cond.instanceMethod yX11_head]
def wsL_law_r19 : List Cond := [Cond.selects RX11 yX11_head yX11_head, Cond.code yX11_head cX11_head 4 none, Cond.fieldLink RX11 195 "HeaderLineModel" "put" "I", Cond.constant RX11 207 (65536), Cond.methodLink RX11 212 yX11_say, Cond.instanceMethod yX11_say, Cond.selects RX11 yX11_say yX11_say, Cond.code yX11_say cX11_say 5 none, Cond.methodLink RX11 220 yX11_laid, Cond.instanceMethod yX11_laid, Cond.selects RX11 yX11_laid yX11_laid, Cond.code yX11_laid cX11_laid 10 (some .int), Cond.methodLink RX11 208 yX11_checkOf, Cond.instanceMethod yX11_checkOf, Cond.selects RX11 yX11_checkOf yX11_checkOf, Cond.code yX11_checkOf cX11_checkOf 5 (some .int), Cond.methodLink RX11 243 yX11_sendShort, Cond.instanceMethod yX11_sendShort, Cond.selects RX11 yX11_sendShort yX11_sendShort, Cond.code yX11_sendShort cX11_sendShort 5 (some .int), Cond.methodLink RX11 232 yX11_serves, Cond.instanceMethod yX11_serves, Cond.selects RX11 yX11_serves yX11_serves, Cond.code yX11_serves cX11_serves 7 (some .boolean)]
def wsL_law_r20 : List Cond := [Cond.methodLink RX11 191 yX11_finds, Cond.instanceMethod yX11_finds, Cond.selects RX11 yX11_finds yX11_finds, Cond.code yX11_finds cX11_finds 7 (some .boolean), Cond.methodLink RX11 236 yX11_fails, Cond.instanceMethod yX11_fails, Cond.selects RX11 yX11_fails yX11_fails, Cond.code yX11_fails cX11_fails 7 (some .int), Cond.methodLink RX11 228 yX11_draftSum, Cond.instanceMethod yX11_draftSum, Cond.selects RX11 yX11_draftSum yX11_draftSum, Cond.code yX11_draftSum cX11_draftSum 3 (some .int), Cond.methodLink RX11 200 yX11_sumOf, Cond.instanceMethod yX11_sumOf, Cond.selects RX11 yX11_sumOf yX11_sumOf, Cond.code yX11_sumOf cX11_sumOf 5 (some .int), Cond.constantLong RX11 198 (31), Cond.methodLink RX11 246 yX11_sendPart, Cond.instanceMethod yX11_sendPart, Cond.selects RX11 yX11_sendPart yX11_sendPart, Cond.code yX11_sendPart cX11_sendPart 5 (some .int), Cond.methodLink RX11 249 yX11_refer, Cond.instanceMethod yX11_refer, Cond.selects RX11 yX11_refer yX11_refer]
def wsL_law_r21 : List Cond := [Cond.code yX11_refer cX11_refer 5 none, Cond.methodLink RX11 253 yX11_drop, Cond.instanceMethod yX11_drop, Cond.selects RX11 yX11_drop yX11_drop, Cond.code yX11_drop cX11_drop 6 none, Cond.methodLink RL 43 yX10_ack, Cond.instanceMethod yX10_ack, Cond.selects RX10 yX10_ack yX10_ack, Cond.code yX10_ack cX10_ack 2 (some .int), Cond.fieldLink RX10 164 "HeaderLine$Context" "isThere" "Z", Cond.fieldLink RX10 167 "HeaderLine$Context" "header" "LHeaderLine$Header;", Cond.methodLink RX10 170 yX10_addAnswer, Cond.instanceMethod yX10_addAnswer, Cond.selects RX10 yX10_addAnswer yX10_addAnswer, Cond.code yX10_addAnswer cX10_addAnswer 4 (some .int), Cond.methodLink RL 47 yX11_ack, Cond.instanceMethod yX11_ack, Cond.selects RX11 yX11_ack yX11_ack, Cond.code yX11_ack cX11_ack 2 (some .int), Cond.methodLink RL 48 yX10_nack, Cond.instanceMethod yX10_nack, Cond.selects RX10 yX10_nack yX10_nack, Cond.code yX10_nack cX10_nack 2 (some .int), Cond.methodLink RL 51 yX11_nack]
def wsL_law_r22 : List Cond := [Cond.instanceMethod yX11_nack, Cond.selects RX11 yX11_nack yX11_nack, Cond.code yX11_nack cX11_nack 4 (some .int), Cond.methodLink RL 52 yX10_deliver, Cond.instanceMethod yX10_deliver, Cond.selects RX10 yX10_deliver yX10_deliver, Cond.code yX10_deliver cX10_deliver 3 (some .int), Cond.fieldLink RX10 178 "HeaderLine$Letter" "bytes" "[I", Cond.fieldLink RX10 185 "HeaderLine$Letter" "outcome" "I", Cond.methodLink RX10 174 yX10_letterUnderWay, Cond.instanceMethod yX10_letterUnderWay, Cond.selects RX10 yX10_letterUnderWay yX10_letterUnderWay, Cond.code yX10_letterUnderWay cX10_letterUnderWay 3 (some (.object "HeaderLine$Letter")), Cond.fieldLink RX10 188 "HeaderLine$Letter" "isLost" "Z", Cond.methodLink RX10 223 yX10_letterAt, Cond.instanceMethod yX10_letterAt, Cond.selects RX10 yX10_letterAt yX10_letterAt, Cond.code yX10_letterAt cX10_letterAt 2 (some (.object "HeaderLine$Letter")), Cond.methodLink RX10 181 yX10_outcomeOf, Cond.instanceMethod yX10_outcomeOf, Cond.selects RX10 yX10_outcomeOf yX10_outcomeOf, Cond.code yX10_outcomeOf cX10_outcomeOf 2 (some .int), Cond.fieldLink RX10 333 "HeaderLine$Arrival" "flow" "I", Cond.fieldLink RX10 334 "HeaderLine$Arrival" "kind" "I"]
def wsL_law_r23 : List Cond := [Cond.fieldLink RX10 335 "HeaderLine$Arrival" "header" "LHeaderLine$Header;", Cond.methodLink RX10 329 yX0_parse, Cond.instanceMethod yX0_parse, Cond.selects RX0 yX0_parse yX0_parse, Cond.code yX0_parse cX0_parse 4 (some .boolean), Cond.fieldLink RX0 35 "HeaderLine$Arrival" "at" "I", Cond.fieldLink RX0 39 "HeaderLine$Arrival" "isBroken" "Z", Cond.fieldLink RX0 47 "HeaderLine$Arrival" "kind" "I", Cond.fieldLink RX0 50 "HeaderLine$Arrival" "flow" "I", Cond.fieldLink RX0 53 "HeaderLine$Header" "number" "I", Cond.fieldLink RX0 56 "HeaderLine$Arrival" "round" "I", Cond.fieldLink RX0 59 "HeaderLine$Plan" "size" "I", Cond.fieldLink RX0 72 "HeaderLine$Arrival" "sum" "I", Cond.methodLink RX0 43 yX0_read, Cond.instanceMethod yX0_read, Cond.selects RX0 yX0_read yX0_read, Cond.code yX0_read cX0_read 5 (some .long), Cond.methodLink RX0 64 yX0_readField, Cond.instanceMethod yX0_readField, Cond.selects RX0 yX0_readField yX0_readField, Cond.code yX0_readField cX0_readField 5 none, Cond.fieldLink RX0 94 "HeaderLine$Plan" "kinds" "[I", Cond.fieldLink RX0 97 "HeaderLine$Plan" "widths" "[I", Cond.methodLink RX0 100 yX0_readValue]
def wsL_law_r24 : List Cond := [Cond.instanceMethod yX0_readValue, Cond.selects RX0 yX0_readValue yX0_readValue, Cond.code yX0_readValue cX0_readValue 4 none, Cond.methodLink RX0 104 yX6_hasStride, Cond.methodLink RX0 75 yX0_isEndRight, Cond.instanceMethod yX0_isEndRight, Cond.selects RX0 yX0_isEndRight yX0_isEndRight, Cond.code yX0_isEndRight cX0_isEndRight 3 (some .boolean), Cond.methodLink RX10 336 yX9_heed, Cond.instanceMethod yX9_heed, Cond.selects RX9 yX9_heed yX9_heed, Cond.code yX9_heed cX9_heed 4 (some .int), Cond.constant RX9 116 (65536), Cond.methodLink RX10 339 yX10_open, Cond.instanceMethod yX10_open, Cond.selects RX10 yX10_open yX10_open, Cond.code yX10_open cX10_open 4 (some .int), Cond.fieldLink RX10 255 "HeaderLine$Context" "round" "I", Cond.fieldLink RX10 343 "HeaderLine$Arrival" "round" "I", Cond.fieldLink RX10 352 "HeaderLine$Arrival" "sum" "I", Cond.methodLink RX10 344 yX0_rebuild, Cond.instanceMethod yX0_rebuild, Cond.selects RX0 yX0_rebuild yX0_rebuild, Cond.code yX0_rebuild cX0_rebuild 8 none]
def wsL_law_r25 : List Cond := [Cond.fieldLink RX0 79 "HeaderLine$Context" "header" "LHeaderLine$Header;", Cond.fieldLink RX0 82 "HeaderLine$Context" "strides" "[I", Cond.fieldLink RX0 91 "HeaderLine$Header" "values" "[J", Cond.methodLink RX0 83 yX6_given, Cond.methodLink RX0 87 yX6_found, Cond.methodLink RX10 348 yX6_sumOf, Cond.methodLink RX10 355 yX2_accept, Cond.instanceMethod yX2_accept, Cond.selects RX2 yX2_accept yX2_accept, Cond.code yX2_accept cX2_accept 3 none, Cond.fieldLink RX2 22 "HeaderLine$Arrival" "header" "LHeaderLine$Header;", Cond.fieldLink RX2 29 "HeaderLine$Arrival" "ways" "[I", Cond.methodLink RX2 30 arraycopyName, Cond.fieldLink RX2 36 "HeaderLine$Arrival" "flow" "I", Cond.fieldLink RX2 40 "HeaderLine$Got" "flow" "I", Cond.fieldLink RX2 41 "HeaderLine$Got" "hungOn" "I", Cond.fieldLink RX2 44 "HeaderLine$Got" "total" "I", Cond.methodLink RX2 25 yX3_become, Cond.methodLink RX10 359 yX1_accept, Cond.instanceMethod yX1_accept, Cond.selects RX1 yX1_accept yX1_accept, Cond.code yX1_accept cX1_accept 2 none, Cond.fieldLink RX1 22 "HeaderLine$Arrival" "header" "LHeaderLine$Header;", Cond.fieldLink RX1 29 "HeaderLine$Context" "isThere" "Z"]
def wsL_law_r26 : List Cond := [Cond.fieldLink RX1 33 "HeaderLine$Arrival" "kind" "I", Cond.fieldLink RX1 37 "HeaderLine$Arrival" "round" "I", Cond.fieldLink RX1 40 "HeaderLine$Context" "round" "I", Cond.fieldLink RX1 41 "HeaderLine$Arrival" "strides" "[I", Cond.methodLink RX1 42 arraycopyName, Cond.methodLink RX1 25 yX3_become, Cond.methodLink RL 55 yX11_deliver, Cond.instanceMethod yX11_deliver, Cond.selects RX11 yX11_deliver yX11_deliver, Cond.code yX11_deliver cX11_deliver 5 (some .int), Cond.fieldLink RX11 256 "HeaderLineModel" "read" "I", Cond.fieldLink RX11 259 "HeaderLineModel" "end" "I", Cond.fieldLink RX11 262 "HeaderLineModel" "broken" "Z", Cond.methodLink RX11 308 yX11_isUnderWay, Cond.instanceMethod yX11_isUnderWay, Cond.selects RX11 yX11_isUnderWay yX11_isUnderWay, Cond.code yX11_isUnderWay cX11_isUnderWay 2 (some .boolean), Cond.methodLink RX11 267 yX11_take, Cond.instanceMethod yX11_take, Cond.selects RX11 yX11_take yX11_take, Cond.code yX11_take cX11_take 6 (some .long), Cond.constantLong RX11 265 (2), Cond.methodLink RX11 311 yX11_answered, Cond.instanceMethod yX11_answered]
def wsL_law_r27 : List Cond := [Cond.selects RX11 yX11_answered yX11_answered, Cond.code yX11_answered cX11_answered 6 (some .int), Cond.methodLink RX11 278 yX11_takeEnd, Cond.instanceMethod yX11_takeEnd, Cond.selects RX11 yX11_takeEnd yX11_takeEnd, Cond.code yX11_takeEnd cX11_takeEnd 4 none, Cond.methodLink RX11 314 yX11_opened, Cond.instanceMethod yX11_opened, Cond.selects RX11 yX11_opened yX11_opened, Cond.code yX11_opened cX11_opened 6 (some .int), Cond.fieldLink RX11 271 "HeaderLineModel" "cameRound" "I", Cond.fieldLink RX11 296 "HeaderLineModel" "gotFrom" "I", Cond.fieldLink RX11 299 "HeaderLineModel" "gotFlow" "I", Cond.fieldLink RX11 302 "HeaderLineModel" "gotNumber" "I", Cond.fieldLink RX11 305 "HeaderLineModel" "gets" "I", Cond.methodLink RX11 286 yX11_takeFields, Cond.instanceMethod yX11_takeFields, Cond.selects RX11 yX11_takeFields yX11_takeFields, Cond.code yX11_takeFields cX11_takeFields 5 none, Cond.fieldLink RX11 274 "HeaderLineModel" "cameSum" "J", Cond.methodLink RX11 289 yX11_open, Cond.instanceMethod yX11_open, Cond.selects RX11 yX11_open yX11_open, Cond.code yX11_open cX11_open 6 none]
def wsL_law_r28 : List Cond := [Cond.methodLink RX11 282 yX11_found, Cond.instanceMethod yX11_found, Cond.selects RX11 yX11_found yX11_found, Cond.code yX11_found cX11_found 11 (some .long), Cond.methodLink RX11 292 yX11_isUnlike, Cond.instanceMethod yX11_isUnlike, Cond.selects RX11 yX11_isUnlike yX11_isUnlike, Cond.code yX11_isUnlike cX11_isUnlike 3 (some .boolean), Cond.methodLink RL 56 yX10_lose, Cond.instanceMethod yX10_lose, Cond.selects RX10 yX10_lose yX10_lose, Cond.code yX10_lose cX10_lose 3 (some .int), Cond.fieldLink RX10 191 "HeaderLine" "lostCount" "I", Cond.methodLink RL 59 yX11_lose, Cond.instanceMethod yX11_lose, Cond.selects RX11 yX11_lose yX11_lose, Cond.code yX11_lose cX11_lose 2 (some .int), Cond.methodLink RL 60 yX10_twice, Cond.instanceMethod yX10_twice, Cond.selects RX10 yX10_twice yX10_twice, Cond.code yX10_twice cX10_twice 5 (some .int), Cond.fieldLink RX10 200 "HeaderLine$Letter" "kind" "I", Cond.fieldLink RX10 203 "HeaderLine$Letter" "flow" "I", Cond.fieldLink RX10 206 "HeaderLine$Letter" "number" "I"]
def wsL_law_r29 : List Cond := [Cond.fieldLink RX10 207 "HeaderLine$Letter" "bits" "I", Cond.fieldLink RX10 213 "HeaderLine$Letter" "isCopy" "Z", Cond.methodLink RX10 194 yJ7_copyOf_59c91, Cond.methodLink RL 63 yX11_twice, Cond.instanceMethod yX11_twice, Cond.selects RX11 yX11_twice yX11_twice, Cond.code yX11_twice cX11_twice 4 (some .int), Cond.methodLink RL 64 yX10_bend, Cond.instanceMethod yX10_bend, Cond.selects RX10 yX10_bend yX10_bend, Cond.code yX10_bend cX10_bend 5 (some .int), Cond.methodLink RX10 220 yX4_hasByte, Cond.instanceMethod yX4_hasByte, Cond.selects RX4 yX4_hasByte yX4_hasByte, Cond.code yX4_hasByte cX4_hasByte 2 (some .boolean), Cond.methodLink RL 67 yX11_bend, Cond.instanceMethod yX11_bend, Cond.selects RX11 yX11_bend yX11_bend, Cond.code yX11_bend cX11_bend 4 (some .int), Cond.methodLink RL 68 yX10_octet, Cond.instanceMethod yX10_octet, Cond.selects RX10 yX10_octet yX10_octet, Cond.code yX10_octet cX10_octet 4 (some .int), Cond.methodLink RL 72 yX11_octet]
def wsL_law_r30 : List Cond := [Cond.instanceMethod yX11_octet, Cond.selects RX11 yX11_octet yX11_octet, Cond.code yX11_octet cX11_octet 3 (some .int), Cond.methodLink RL 73 yX10_look, Cond.instanceMethod yX10_look, Cond.selects RX10 yX10_look yX10_look, Cond.code yX10_look cX10_look 4 (some .int), Cond.methodLink RL 76 yX11_look, Cond.instanceMethod yX11_look, Cond.selects RX11 yX11_look yX11_look, Cond.code yX11_look cX11_look 3 (some .int), Cond.methodLink RL 77 yX10_prove, Cond.instanceMethod yX10_prove, Cond.selects RX10 yX10_prove yX10_prove, Cond.code yX10_prove cX10_prove 6 (some .int), Cond.fieldLink RX10 230 "HeaderLine$Proof" "lengths" "[I", Cond.fieldLink RX10 233 "HeaderLine$Proof" "misses" "[I", Cond.fieldLink RX10 236 "HeaderLine$Proof" "references" "I", Cond.fieldLink RX10 239 "HeaderLine$Proof" "oldest" "I", Cond.methodLink RL 80 yX11_prove, Cond.instanceMethod yX11_prove, Cond.selects RX11 yX11_prove yX11_prove, Cond.code yX11_prove cX11_prove 4 (some .int), Cond.constantLong RX11 317 (3)]
def wsL_law_r31 : List Cond := [Cond.methodLink RL 81 yX10_got, Cond.instanceMethod yX10_got, Cond.selects RX10 yX10_got yX10_got, Cond.code yX10_got cX10_got 2 (some .long), Cond.fieldLink RX10 242 "HeaderLine$Got" "total" "I", Cond.constantLong RX10 245 (-2), Cond.fieldLink RX10 247 "HeaderLine$Got" "header" "LHeaderLine$Header;", Cond.methodLink RL 85 yX11_got, Cond.instanceMethod yX11_got, Cond.selects RX11 yX11_got yX11_got, Cond.code yX11_got cX11_got 2 (some .long), Cond.constantLong RX11 319 (-2), Cond.methodLink RL 86 yX10_way, Cond.instanceMethod yX10_way, Cond.selects RX10 yX10_way yX10_way, Cond.code yX10_way cX10_way 2 (some .int), Cond.fieldLink RX10 248 "HeaderLine$Got" "ways" "[I", Cond.methodLink RL 89 yX11_way, Cond.instanceMethod yX11_way, Cond.selects RX11 yX11_way yX11_way, Cond.code yX11_way cX11_way 2 (some .int), Cond.methodLink RL 90 yX10_hung, Cond.instanceMethod yX10_hung, Cond.selects RX10 yX10_hung yX10_hung]
def wsL_law_r32 : List Cond := [Cond.code yX10_hung cX10_hung 2 (some .int), Cond.fieldLink RX10 251 "HeaderLine$Got" "flow" "I", Cond.fieldLink RX10 252 "HeaderLine$Got" "hungOn" "I", Cond.methodLink RL 93 yX11_hung, Cond.instanceMethod yX11_hung, Cond.selects RX11 yX11_hung yX11_hung, Cond.code yX11_hung cX11_hung 2 (some .int), Cond.methodLink RL 94 yX10_context, Cond.instanceMethod yX10_context, Cond.selects RX10 yX10_context yX10_context, Cond.code yX10_context cX10_context 4 (some .int), Cond.methodLink RL 97 yX11_context, Cond.instanceMethod yX11_context, Cond.selects RX11 yX11_context yX11_context, Cond.code yX11_context cX11_context 3 (some .int), Cond.methodLink RL 98 yX10_known, Cond.instanceMethod yX10_known, Cond.selects RX10 yX10_known yX10_known, Cond.code yX10_known cX10_known 5 (some .long), Cond.fieldLink RX10 258 "HeaderLine$Context" "strides" "[I", Cond.methodLink RL 102 yX11_known, Cond.instanceMethod yX11_known, Cond.selects RX11 yX11_known yX11_known, Cond.code yX11_known cX11_known 4 (some .long)]
def wsL_law_r33 : List Cond := [Cond.methodLink RL 103 yX10_squeezer, Cond.instanceMethod yX10_squeezer, Cond.selects RX10 yX10_squeezer yX10_squeezer, Cond.code yX10_squeezer cX10_squeezer 4 (some .int), Cond.fieldLink RX10 259 "HeaderLine$Squeezer" "round" "I", Cond.fieldLink RX10 260 "HeaderLine$Squeezer" "held" "I", Cond.methodLink RX10 263 yX9_oldestNumber, Cond.methodLink RL 106 yX11_squeezer, Cond.instanceMethod yX11_squeezer, Cond.selects RX11 yX11_squeezer yX11_squeezer, Cond.code yX11_squeezer cX11_squeezer 3 (some .int), Cond.methodLink RL 107 yX10_forget, Cond.instanceMethod yX10_forget, Cond.selects RX10 yX10_forget yX10_forget, Cond.code yX10_forget cX10_forget 4 (some .int), Cond.methodLink RL 110 yX11_forget, Cond.instanceMethod yX11_forget, Cond.selects RX11 yX11_forget yX11_forget, Cond.code yX11_forget cX11_forget 4 (some .int), Cond.methodLink RL 111 yX10_spent, Cond.instanceMethod yX10_spent, Cond.selects RX10 yX10_spent yX10_spent, Cond.code yX10_spent cX10_spent 10 (some .long), Cond.methodLink RX10 267 yX6_wholeBits]
def wsL_law_r34 : List Cond := [Cond.instanceMethod yX6_wholeBits, Cond.selects RX6 yX6_wholeBits yX6_wholeBits, Cond.code yX6_wholeBits cX6_wholeBits 3 (some .int), Cond.methodLink RX6 36 yX6_hasStride, Cond.methodLink RL 115 yX11_spent, Cond.instanceMethod yX11_spent, Cond.selects RX11 yX11_spent yX11_spent, Cond.code yX11_spent cX11_spent 7 (some .long), Cond.constantLong RX11 321 (5), Cond.methodLink RX11 323 yX11_wholeBits, Cond.instanceMethod yX11_wholeBits, Cond.selects RX11 yX11_wholeBits yX11_wholeBits, Cond.code yX11_wholeBits cX11_wholeBits 3 (some .int), Cond.methodLink RL 116 yX10_keep, Cond.instanceMethod yX10_keep, Cond.selects RX10 yX10_keep yX10_keep, Cond.code yX10_keep cX10_keep 5 (some .int), Cond.fieldLink RX10 273 "HeaderLine$Shelf" "holds" "I", Cond.methodLink RX10 270 yX10_isShelf, Cond.static yX10_isShelf, Cond.code yX10_isShelf cX10_isShelf 1 (some .boolean), Cond.methodLink RX10 276 yX10_keepLetter, Cond.static yX10_keepLetter, Cond.code yX10_keepLetter cX10_keepLetter 4 (some .int)]
def wsL_law_r35 : List Cond := [Cond.fieldLink RX10 366 "HeaderLine$Shelf" "size" "I", Cond.fieldLink RX10 301 "HeaderLine$Shelf" "row" "[J", Cond.methodLink RX10 362 yX8_holdLetter, Cond.instanceMethod yX8_holdLetter, Cond.selects RX8 yX8_holdLetter yX8_holdLetter, Cond.code yX8_holdLetter cX8_holdLetter 2 none, Cond.fieldLink RX8 15 "HeaderLine$Shelf" "holds" "I", Cond.fieldLink RX8 19 "HeaderLine$Letter" "kind" "I", Cond.fieldLink RX8 24 "HeaderLine$Shelf" "letterKind" "I", Cond.fieldLink RX8 27 "HeaderLine$Letter" "bytes" "[I", Cond.fieldLink RX8 31 "HeaderLine$Shelf" "letterBytes" "I", Cond.methodLink RX10 287 yX8_holdRow, Cond.instanceMethod yX8_holdRow, Cond.selects RX8 yX8_holdRow yX8_holdRow, Cond.code yX8_holdRow cX8_holdRow 3 none, Cond.methodLink RX8 34 Lib.Math.min.name, Cond.methodLink RX8 40 Lib.Math.max.name, Cond.static Lib.Math.max.name, Cond.code Lib.Math.max.name Lib.Math.max.code 2 (some .int), Cond.fieldLink RX8 43 "HeaderLine$Shelf" "size" "I", Cond.methodLink RX8 46 yJ7_fill_d0a16, Cond.static yJ7_fill_d0a16, Cond.code yJ7_fill_d0a16 cJ7_fill_d0a16 5 none, Cond.methodLink RX10 280 yX10_keepReferences]
def wsL_law_r36 : List Cond := [Cond.instanceMethod yX10_keepReferences, Cond.selects RX10 yX10_keepReferences yX10_keepReferences, Cond.code yX10_keepReferences cX10_keepReferences 5 (some .int), Cond.methodLink RX10 367 yX9_reference, Cond.methodLink RX10 284 yX10_keepContext, Cond.instanceMethod yX10_keepContext, Cond.selects RX10 yX10_keepContext yX10_keepContext, Cond.code yX10_keepContext cX10_keepContext 4 (some .int), Cond.methodLink RL 119 yX11_keep, Cond.instanceMethod yX11_keep, Cond.selects RX11 yX11_keep yX11_keep, Cond.code yX11_keep cX11_keep 5 (some .int), Cond.methodLink RX11 326 yX11_isShelf, Cond.static yX11_isShelf, Cond.code yX11_isShelf cX11_isShelf 1 (some .boolean), Cond.methodLink RX11 329 yX11_canKeep, Cond.instanceMethod yX11_canKeep, Cond.selects RX11 yX11_canKeep yX11_canKeep, Cond.code yX11_canKeep cX11_canKeep 3 (some .boolean), Cond.methodLink RL 120 yX10_make, Cond.instanceMethod yX10_make, Cond.selects RX10 yX10_make yX10_make, Cond.code yX10_make cX10_make 4 (some .int), Cond.methodLink RL 123 yX11_make]
def wsL_law_r37 : List Cond := [Cond.instanceMethod yX11_make, Cond.selects RX11 yX11_make yX11_make, Cond.code yX11_make cX11_make 5 (some .int), Cond.methodLink RL 124 yX10_put, Cond.instanceMethod yX10_put, Cond.selects RX10 yX10_put yX10_put, Cond.code yX10_put cX10_put 7 (some .long), Cond.constantLong RX10 291 (-11), Cond.constantLong RX10 293 (-12), Cond.constantLong RX10 299 (-13), Cond.methodLink RX10 295 yX8_hasPlaces, Cond.instanceMethod yX8_hasPlaces, Cond.selects RX8 yX8_hasPlaces yX8_hasPlaces, Cond.code yX8_hasPlaces cX8_hasPlaces 3 (some .boolean), Cond.methodLink RL 127 yX11_put, Cond.instanceMethod yX11_put, Cond.selects RX11 yX11_put yX11_put, Cond.code yX11_put cX11_put 6 (some .long), Cond.constantLong RX11 333 (30000), Cond.constantLong RX11 335 (-11), Cond.constantLong RX11 337 (-12), Cond.constantLong RX11 339 (-13), Cond.methodLink RL 128 yX10_copy, Cond.instanceMethod yX10_copy]
def wsL_law_r38 : List Cond := [Cond.selects RX10 yX10_copy yX10_copy, Cond.code yX10_copy cX10_copy 8 (some .int), Cond.methodLink RX10 304 arraycopyName, Cond.methodLink RL 132 yX11_copy, Cond.instanceMethod yX11_copy, Cond.selects RX11 yX11_copy yX11_copy, Cond.code yX11_copy cX11_copy 7 (some .int), Cond.methodLink RX11 341 yX11_hasPlaces, Cond.instanceMethod yX11_hasPlaces, Cond.selects RX11 yX11_hasPlaces yX11_hasPlaces, Cond.code yX11_hasPlaces cX11_hasPlaces 4 (some .boolean), Cond.methodLink RL 133 yX10_worth, Cond.instanceMethod yX10_worth, Cond.selects RX10 yX10_worth yX10_worth, Cond.code yX10_worth cX10_worth 5 (some .int), Cond.fieldLink RX10 314 "HeaderLine$Shelf" "letterKind" "I", Cond.fieldLink RX10 317 "HeaderLine$Shelf" "letterBytes" "I", Cond.methodLink RX10 310 yX10_refusalOfLetterOn, Cond.instanceMethod yX10_refusalOfLetterOn, Cond.selects RX10 yX10_refusalOfLetterOn yX10_refusalOfLetterOn, Cond.code yX10_refusalOfLetterOn cX10_refusalOfLetterOn 2 (some .int), Cond.methodLink RL 136 yX11_worth, Cond.instanceMethod yX11_worth, Cond.selects RX11 yX11_worth yX11_worth]
def wsL_law_r39 : List Cond := [Cond.code yX11_worth cX11_worth 5 (some .int), Cond.methodLink RX11 344 yX11_denied, Cond.instanceMethod yX11_denied, Cond.selects RX11 yX11_denied yX11_denied, Cond.code yX11_denied cX11_denied 2 (some .int), Cond.methodLink RL 137 yX10_toss, Cond.instanceMethod yX10_toss, Cond.selects RX10 yX10_toss yX10_toss, Cond.code yX10_toss cX10_toss 4 (some .int), Cond.methodLink RL 140 yX11_toss, Cond.instanceMethod yX11_toss, Cond.selects RX11 yX11_toss yX11_toss, Cond.code yX11_toss cX11_toss 3 (some .int), Cond.methodLink RL 141 yX10_count, Cond.instanceMethod yX10_count, Cond.selects RX10 yX10_count yX10_count, Cond.code yX10_count cX10_count 2 (some .int), Cond.methodLink RL 144 yX11_count, Cond.instanceMethod yX11_count, Cond.selects RX11 yX11_count yX11_count, Cond.code yX11_count cX11_count 4 (some .int)]
def wsL_law : List Cond := (wsL_law_r1 ++ (wsL_law_r2 ++ (wsL_law_r3 ++ (wsL_law_r4 ++ (wsL_law_r5 ++ (wsL_law_r6 ++ (wsL_law_r7 ++ (wsL_law_r8 ++ (wsL_law_r9 ++ (wsL_law_r10 ++ (wsL_law_r11 ++ (wsL_law_r12 ++ (wsL_law_r13 ++ (wsL_law_r14 ++ (wsL_law_r15 ++ (wsL_law_r16 ++ (wsL_law_r17 ++ (wsL_law_r18 ++ (wsL_law_r19 ++ (wsL_law_r20 ++ (wsL_law_r21 ++ (wsL_law_r22 ++ (wsL_law_r23 ++ (wsL_law_r24 ++ (wsL_law_r25 ++ (wsL_law_r26 ++ (wsL_law_r27 ++ (wsL_law_r28 ++ (wsL_law_r29 ++ (wsL_law_r30 ++ (wsL_law_r31 ++ (wsL_law_r32 ++ (wsL_law_r33 ++ (wsL_law_r34 ++ (wsL_law_r35 ++ (wsL_law_r36 ++ (wsL_law_r37 ++ (wsL_law_r38 ++ wsL_law_r39)))))))))))))))))))))))))))))))))))))) ++ wsX100 ++ wsX110 ++ wsX60 ++ wsX30 ++ wsX90 ++ wsX10 ++ wsX80 ++ wsX50 ++ wsX00 ++ wsX20 ++ wsX70 ++ wsX40 ++ ([] : List Cond)
abbrev vwCl : List vw_C := [(RX0, TX0, 12), (RX1, TX1, 4), (RX2, TX2, 5), (RX3, TX3, 2), (RX4, TX4, 9), (RX5, TX5, 2), (RX6, TX6, 5), (RX7, TX7, 4), (RX8, TX8, 5), (RX9, TX9, 7), (RX10, TX10, 12), (RX11, TX11, 58)]
end
section
/-! The memory as a pure value: kinds, lengths, fields by number and address, rows by address, the heap's size. -/
abbrev Mm : Type := (Nat → Nat) × (Nat → Nat) × (Nat → Nat → Int32) × (Nat → Nat → Int64) × (Nat → Nat → Option Nat) × (Nat → Nat → Int32) × (Nat → Nat → Int64) × (Nat → Nat → Option Nat) × Nat
def mK (M : Mm) : Nat → Nat := M.1
def mN (M : Mm) : Nat → Nat := M.2.1
def mI (M : Mm) : Nat → Nat → Int32 := M.2.2.1
def mJ (M : Mm) : Nat → Nat → Int64 := M.2.2.2.1
def mR (M : Mm) : Nat → Nat → Option Nat := M.2.2.2.2.1
def mA (M : Mm) : Nat → Nat → Int32 := M.2.2.2.2.2.1
def mB (M : Mm) : Nat → Nat → Int64 := M.2.2.2.2.2.2.1
def mQ (M : Mm) : Nat → Nat → Option Nat := M.2.2.2.2.2.2.2.1
def mS (M : Mm) : Nat := M.2.2.2.2.2.2.2.2
def up2 {α : Type} (f : Nat → Nat → α) (k a : Nat) (v : α) : Nat → Nat → α := fun x y => if x = k then (if y = a then v else f x y) else f x y
def sI (M : Mm) (k a : Nat) (v : Int32) : Mm := (mK M, mN M, up2 (mI M) k a v, mJ M, mR M, mA M, mB M, mQ M, mS M)
def sJ (M : Mm) (k a : Nat) (v : Int64) : Mm := (mK M, mN M, mI M, up2 (mJ M) k a v, mR M, mA M, mB M, mQ M, mS M)
def sR (M : Mm) (k a : Nat) (v : Option Nat) : Mm := (mK M, mN M, mI M, mJ M, up2 (mR M) k a v, mA M, mB M, mQ M, mS M)
def sA (M : Mm) (a : Nat) (g : Nat → Int32) : Mm := (mK M, mN M, mI M, mJ M, mR M, va_up (mA M) a g, mB M, mQ M, mS M)
def sB (M : Mm) (a : Nat) (g : Nat → Int64) : Mm := (mK M, mN M, mI M, mJ M, mR M, mA M, va_up (mB M) a g, mQ M, mS M)
def sQ (M : Mm) (a : Nat) (g : Nat → Option Nat) : Mm := (mK M, mN M, mI M, mJ M, mR M, mA M, mB M, va_up (mQ M) a g, mS M)
/-- a new object of kind kd at the heap's end: all its fields are 0 or null -/
def nO (M : Mm) (kd : Nat) : Mm := (va_up (mK M) (mS M) kd, mN M, (fun k a => if a = mS M then 0 else mI M k a), (fun k a => if a = mS M then 0 else mJ M k a), (fun k a => if a = mS M then none else mR M k a), mA M, mB M, mQ M, mS M + 1)
/-- a new row of kind kd (20 int, 21 long, 22 boolean, from 23 on of references) and length n -/
def nA (M : Mm) (kd n : Nat) : Mm := (va_up (mK M) (mS M) kd, va_up (mN M) (mS M) n, mI M, mJ M, mR M, va_up (mA M) (mS M) (fun _ => 0), va_up (mB M) (mS M) (fun _ => 0), va_up (mQ M) (mS M) (fun _ => none), mS M + 1)
def ix (i : Int32) : Nat := i.toNatClampNeg
def vin (i : Int32) (n : Nat) : Bool := decide (0 ≤ i.toInt) && decide (i.toInt < (n : Int))
def gI (M : Mm) (kd num a : Nat) : Option Int32 := if mK M a = kd then some (mI M num a) else none
def gJ (M : Mm) (kd num a : Nat) : Option Int64 := if mK M a = kd then some (mJ M num a) else none
/-- a reference that isn't null -/
def gR (M : Mm) (kd num a : Nat) : Option Nat := if mK M a = kd then mR M num a else none
/-- a reference or null -/
def gN (M : Mm) (kd num a : Nat) : Option (Option Nat) := if mK M a = kd then some (mR M num a) else none
def pI (M : Mm) (kd num a : Nat) (v : Int32) : Option Mm := if mK M a = kd then some (sI M num a v) else none
def pZ (M : Mm) (kd num a : Nat) (v : Int32) : Option Mm := if mK M a = kd then if v = 0 ∨ v = 1 then some (sI M num a v) else none else none
def pJ (M : Mm) (kd num a : Nat) (v : Int64) : Option Mm := if mK M a = kd then some (sJ M num a v) else none
def pR (M : Mm) (kd num a : Nat) (v : Option Nat) : Option Mm := if mK M a = kd then some (sR M num a v) else none
def aI (M : Mm) (a : Nat) (i : Int32) : Option Int32 := if mK M a = 20 then if vin i (mN M a) then some (mA M a (ix i)) else none else none
def aZ (M : Mm) (a : Nat) (i : Int32) : Option Int32 := if mK M a = 22 then if vin i (mN M a) then some (mA M a (ix i)) else none else none
def aJ (M : Mm) (a : Nat) (i : Int32) : Option Int64 := if mK M a = 21 then if vin i (mN M a) then some (mB M a (ix i)) else none else none
def aR (M : Mm) (kd a : Nat) (i : Int32) : Option Nat := if mK M a = kd then if vin i (mN M a) then mQ M a (ix i) else none else none
def aN (M : Mm) (kd a : Nat) (i : Int32) : Option (Option Nat) := if mK M a = kd then if vin i (mN M a) then some (mQ M a (ix i)) else none else none
def wI (M : Mm) (a : Nat) (i : Int32) (v : Int32) : Option Mm := if mK M a = 20 then if vin i (mN M a) then some (sA M a (va_up (mA M a) (ix i) v)) else none else none
def wZ (M : Mm) (a : Nat) (i : Int32) (v : Int32) : Option Mm := if mK M a = 22 then if vin i (mN M a) then some (sA M a (va_up (mA M a) (ix i) (vp_nar .boolean v))) else none else none
def wJ (M : Mm) (a : Nat) (i : Int32) (v : Int64) : Option Mm := if mK M a = 21 then if vin i (mN M a) then some (sB M a (va_up (mB M a) (ix i) v)) else none else none
/-- store of a reference to an object of kind ke into a row of kind kd -/
def wR (M : Mm) (kd ke a : Nat) (i : Int32) (v : Nat) : Option Mm := if mK M a = kd then if vin i (mN M a) then if mK M v = ke then some (sQ M a (va_up (mQ M a) (ix i) (some v))) else none else none else none
def aL (M : Mm) (a : Nat) : Option Int32 := if 20 ≤ mK M a then if mK M a < 28 then some (nI (mN M a)) else none else none
/-- a new row of n places, n of the machine: refused here beyond B -/
def mA0 (M : Mm) (kd B : Nat) (n : Int32) : Option Mm := if 0 ≤ n.toInt then if n.toInt ≤ (B : Int) then some (nA M kd (ix n)) else none else none
def cpI (M : Mm) (a : Nat) (i : Int32) (b : Nat) (j n : Int32) : Option Mm := if mK M a = 20 then if mK M b = 20 then if 0 ≤ i.toInt then if 0 ≤ j.toInt then if 0 ≤ n.toInt then if i.toInt + n.toInt ≤ (mN M a : Int) then if j.toInt + n.toInt ≤ (mN M b : Int) then some (sA M b (va_cpy (mA M a) (mA M b) (ix i) (ix j) (ix n))) else none else none else none else none else none else none else none
def cpJ (M : Mm) (a : Nat) (i : Int32) (b : Nat) (j n : Int32) : Option Mm := if mK M a = 21 then if mK M b = 21 then if 0 ≤ i.toInt then if 0 ≤ j.toInt then if 0 ≤ n.toInt then if i.toInt + n.toInt ≤ (mN M a : Int) then if j.toInt + n.toInt ≤ (mN M b : Int) then some (sB M b (va_cpy (mB M a) (mB M b) (ix i) (ix j) (ix n))) else none else none else none else none else none else none else none
/-- a clone of an int row -/
def clI (M : Mm) (B a : Nat) : Option Mm := if mK M a = 20 then if mN M a ≤ B then some (sA (nA M 20 (mN M a)) (mS M) (mA M a)) else none else none
def ob2 {α β : Type} (x : Option (Mm × α)) (f : Mm → α → Option β) : Option β := match x with
  | none => none
  | some q => f q.1 q.2
def nm {β : Type} (x : Option Nat) (A : Option β) (B : Nat → Option β) : Option β := match x with
  | none => A
  | some a => B a
def ck {β : Type} (c : Bool) (x : Option β) : Option β := if c then x else none
theorem ob_some {α β : Type} {x : Option α} {f : α → Option β} {r : β} (h : x.bind f = some r) : ∃ v, x = some v ∧ f v = some r := by
  cases x with
  | none => cases h
  | some v => exact ⟨v, rfl, h⟩
theorem ob2_some {α β : Type} {x : Option (Mm × α)} {f : Mm → α → Option β} {r : β} (h : ob2 x f = some r) : ∃ M v, x = some (M, v) ∧ f M v = some r := by
  cases x with
  | none => cases h
  | some q => exact ⟨q.1, q.2, rfl, h⟩
theorem ck_some {β : Type} {c : Bool} {x : Option β} {r : β} (h : ck c x = some r) : c = true ∧ x = some r := by
  cases c with
  | false => cases h
  | true => exact ⟨rfl, h⟩
theorem it_t {α : Type} {c : Prop} [Decidable c] {A B : α} {r : α} (h : (if c then A else B) = r) (hc : c) : A = r := by rw [if_pos hc] at h; exact h
theorem it_f {α : Type} {c : Prop} [Decidable c] {A B : α} {r : α} (h : (if c then A else B) = r) (hc : ¬ c) : B = r := by rw [if_neg hc] at h; exact h
theorem if_some {α : Type} {c : Prop} [Decidable c] {A : Option α} {r : α} (h : (if c then A else none) = some r) : c ∧ A = some r := by
  by_cases hc : c
  · rw [if_pos hc] at h; exact ⟨hc, h⟩
  · rw [if_neg hc] at h; cases h
theorem vin_in {i : Int32} {n : Nat} (h : vin i n = true) : vp_in i n := by
  unfold vin at h
  rw [Bool.and_eq_true, decide_eq_true_eq, decide_eq_true_eq] at h
  exact vp_in_iff.mpr h
end
section
/-! What the machine's heap is, of a memory; and the rows: an instruction, a step of the pure value. -/
def tyTab : List (List Nat) := [[2, 2, 2, 2, 2, 0, 0, 0, 0, 2, 0, 0], [2, 2, 0, 0], [2, 2, 0, 0, 0], [2, 0], [0, 0, 0, 2, 0, 0, 0, 0, 2], [2, 0], [2, 2, 2, 2, 0], [2, 2, 0, 0], [2, 0, 0, 0, 0], [2, 0, 0, 0, 0, 2, 0], [0, 2, 2, 2, 2, 2, 2, 2, 2, 2, 0, 0], [0, 0, 2, 2, 2, 2, 0, 0, 2, 2, 2, 2, 2, 2, 2, 2, 0, 2, 2, 2, 2, 2, 2, 2, 2, 2, 2, 2, 2, 2, 2, 2, 2, 2, 2, 0, 0, 0, 0, 2, 2, 2, 0, 0, 0, 0, 2, 2, 2, 2, 0, 1, 2, 2, 2, 2, 2, 2]]
def tyO (c k : Nat) : Nat := (tyTab.getD c []).getD k 0
def fv (M : Mm) (c k a : Nat) : Value := if tyO c k = 0 then .int (mI M (100 * c + k) a) else if tyO c k = 1 then .long (mJ M (100 * c + k) a) else va_rf (mR M (100 * c + k) a)
def tysC (cy : Nat → ClassId) : List (ClassId × FieldType) := [(cy 0, .int), (cy 1, .long), (cy 2, .boolean), (cy 3, .object RX1), (cy 4, .object RX3), (cy 5, .object RX4), (cy 6, .object RX8), (cy 7, .object RX9)]
def cAt (D : va_G) (cy : Nat → ClassId) (M : Mm) (H : Heap) (a : Nat) : Prop :=
  (mK M a ≤ 12 → ∃ r : vw_C, vwCl[mK M a - 1]? = some r ∧ t_OB a (D.1 (mK M a - 1)) r.2.2 (D.2 (mK M a - 1)) H (fun k => fv M (mK M a - 1) k a)) ∧
  (mK M a = 20 → H[a]? = some (arrV (cy 0) (mN M a) (fun j => .int (mA M a j)))) ∧
  (mK M a = 21 → H[a]? = some (arrV (cy 1) (mN M a) (fun j => .long (mB M a j)))) ∧
  (mK M a = 22 → H[a]? = some (arrV (cy 2) (mN M a) (fun j => .int (mA M a j)))) ∧
  (23 ≤ mK M a → H[a]? = some (arrV (cy (mK M a - 20)) (mN M a) (fun j => va_rf (mQ M a j))))
def Hp (b0 : Nat) (D : va_G) (cy : Nat → ClassId) (M : Mm) (H : Heap) : Prop := H.size = mS M ∧ ∀ a, mK M a ≠ 0 → b0 ≤ a ∧ a < H.size ∧ cAt D cy M H a
theorem cAt_kept {D : va_G} {cy : Nat → ClassId} {M M1 : Mm} {H H1 : Heap} {a : Nat} (h : cAt D cy M H a) (hH : H1[a]? = H[a]?) (hk : mK M1 a = mK M a) (hn : mN M1 a = mN M a) (hi : ∀ k, mI M1 k a = mI M k a) (hj : ∀ k, mJ M1 k a = mJ M k a) (hr : ∀ k, mR M1 k a = mR M k a) (hA : mA M1 a = mA M a) (hB : mB M1 a = mB M a) (hQ : mQ M1 a = mQ M a) : cAt D cy M1 H1 a := by
  obtain ⟨h0, h1, h2, h3, h4⟩ := h
  refine ⟨fun g => ?_, fun g => ?_, fun g => ?_, fun g => ?_, fun g => ?_⟩
  · rw [hk] at g
    obtain ⟨r, e1, e2⟩ := h0 g
    refine ⟨r, by rw [hk]; exact e1, ?_⟩
    rw [hk]
    refine (e2.kept hH).to (fun k _ => ?_)
    simp only [fv, hi, hj, hr]
  · rw [hk] at g; rw [hH, hn, hA]; exact h1 g
  · rw [hk] at g; rw [hH, hn, hB]; exact h2 g
  · rw [hk] at g; rw [hH, hn, hA]; exact h3 g
  · rw [hk] at g; rw [hH, hn, hQ, hk]; exact h4 g
theorem Hp_of {b0 : Nat} {D : va_G} {cy : Nat → ClassId} {M M1 : Mm} {H H1 : Heap} {a : Nat} (hP : Hp b0 D cy M H) (z : H1.size = H.size) (oq : ∀ q : Nat, q ≠ a → H1[q]? = H[q]?) (hs : mS M1 = mS M) (hk : mK M1 = mK M) (hn : mN M1 = mN M)
    (hi : ∀ b, b ≠ a → ∀ k, mI M1 k b = mI M k b) (hj : ∀ b, b ≠ a → ∀ k, mJ M1 k b = mJ M k b) (hr : ∀ b, b ≠ a → ∀ k, mR M1 k b = mR M k b) (hA : ∀ b, b ≠ a → mA M1 b = mA M b) (hB : ∀ b, b ≠ a → mB M1 b = mB M b) (hQ : ∀ b, b ≠ a → mQ M1 b = mQ M b) (ha : mK M a ≠ 0 → cAt D cy M1 H1 a) : Hp b0 D cy M1 H1 := by
  refine ⟨by rw [z, hs]; exact hP.1, fun b hb => ?_⟩
  rw [hk] at hb
  obtain ⟨g1, g2, g3⟩ := hP.2 b hb
  refine ⟨g1, by rw [z]; exact g2, ?_⟩
  by_cases e : b = a
  · subst e; exact ha hb
  · exact cAt_kept g3 (oq b e) (by rw [hk]) (by rw [hn]) (hi b e) (hj b e) (hr b e) (hA b e) (hB b e) (hQ b e)
theorem up2_ne {α : Type} {f : Nat → Nat → α} {k a : Nat} {v : α} {x y : Nat} (h : y ≠ a) : up2 f k a v x y = f x y := by
  simp only [up2, if_neg h, ite_self]
theorem vau_ne {α : Type} {f : Nat → α} {k : Nat} {v : α} {j : Nat} (h : j ≠ k) : va_up f k v j = f j := if_neg h
theorem vau_eq {α : Type} {f : Nat → α} {k : Nat} {v : α} : va_up f k v k = v := if_pos rfl
theorem Hp_obj {b0 : Nat} {D : va_G} {cy : Nat → ClassId} {M : Mm} {H : Heap} {a ci : Nat} {C : String} {T : u_T} {N : Nat} (hP : Hp b0 D cy M H) (hk : mK M a = ci + 1) (hc : vwCl[ci]? = some (C, T, N)) : b0 ≤ a ∧ t_OB a (D.1 ci) N (D.2 ci) H (fun k => fv M ci k a) := by
  have hlt : ci < 12 := (List.getElem?_eq_some_iff.mp hc).1
  obtain ⟨g1, -, g3, -⟩ := hP.2 a (by omega)
  obtain ⟨r, e1, e2⟩ := g3 (by omega)
  rw [hk] at e1 e2
  have hr : r = (C, T, N) := Option.some.inj (e1.symm.trans hc)
  subst hr
  exact ⟨g1, e2⟩
theorem Hp_I {b0 : Nat} {D : va_G} {cy : Nat → ClassId} {M : Mm} {H : Heap} {a : Nat} (hP : Hp b0 D cy M H) (hk : mK M a = 20) : b0 ≤ a ∧ H[a]? = some (arrV (cy 0) (mN M a) (fun j => .int (mA M a j))) := by
  obtain ⟨g1, -, -, g4, -⟩ := hP.2 a (by omega)
  exact ⟨g1, g4 hk⟩
theorem Hp_J {b0 : Nat} {D : va_G} {cy : Nat → ClassId} {M : Mm} {H : Heap} {a : Nat} (hP : Hp b0 D cy M H) (hk : mK M a = 21) : b0 ≤ a ∧ H[a]? = some (arrV (cy 1) (mN M a) (fun j => .long (mB M a j))) := by
  obtain ⟨g1, -, -, -, g4, -⟩ := hP.2 a (by omega)
  exact ⟨g1, g4 hk⟩
theorem Hp_Z {b0 : Nat} {D : va_G} {cy : Nat → ClassId} {M : Mm} {H : Heap} {a : Nat} (hP : Hp b0 D cy M H) (hk : mK M a = 22) : b0 ≤ a ∧ H[a]? = some (arrV (cy 2) (mN M a) (fun j => .int (mA M a j))) := by
  obtain ⟨g1, -, -, -, -, g4, -⟩ := hP.2 a (by omega)
  exact ⟨g1, g4 hk⟩
theorem Hp_Q {b0 : Nat} {D : va_G} {cy : Nat → ClassId} {M : Mm} {H : Heap} {a kd : Nat} (hP : Hp b0 D cy M H) (hk : mK M a = kd) (h23 : 23 ≤ kd) : b0 ≤ a ∧ H[a]? = some (arrV (cy (kd - 20)) (mN M a) (fun j => va_rf (mQ M a j))) := by
  obtain ⟨g1, -, -, -, -, -, g4⟩ := hP.2 a (by omega)
  rw [← hk]
  exact ⟨g1, g4 (by omega)⟩
def BA (b0 : Nat) : Nat → Prop := fun q => b0 ≤ q
section XRows
variable {p : Program} {l : Launch} {e : Env} {R : Room} {s : State} {m : MethodId} {args : Array Value} {below : List Frame} {meth : Method} {c : Code} {H : Heap} {locs : List Loc} {cells slots : Nat} {Q : State → Prop}
variable {cc : ByteArray} {pc : Nat} {ls : Array Slot} {rest : List Value} {D : va_G} {cy : Nat → ClassId} {a b0 : Nat} {M : Mm} {H0 : Heap} {Ts : List Cond} {own C : String} {T : u_T} {N ci k idx kd num : Nat} {ρ : Type} {r : ρ}
/-- getfield: the value, whatever its type -/
theorem xr_getV (hx : p.tables.exec = Jvm.exec) (hb : c.code = cc) (hts : ∀ w ∈ Ts, w.before args s = true) (hin : ∀ w ∈ u_ws C T N, w ∈ Ts) (hown : s.vm.findClass own = some m.cls) (hK : va_K D vwCl (tysC cy) s) (hP : Hp b0 D cy M H) (hc : vwCl[ci]? = some (C, T, N)) (hk : k < N) (hl : Cond.fieldLink own idx (T k).1 (T k).2.1 (T k).2.2.1 ∈ Ts) (hkd : mK M a = ci + 1) {v : Value} (hv : fv M ci k a = v) (hd : decode cc pc = .ok (.getfield idx, 3))
    (kk : W p l e R s m args below meth c H locs cells slots Q (F0 m (pc + 3) ls (v :: rest))) : W p l e R s m args below meth c H locs cells slots Q (F0 m pc ls (.ref a :: rest)) := by
  obtain ⟨-, cell, q1, q2, q3, q4⟩ := Hp_obj hP hkd hc
  obtain ⟨hS, hfc, kC, hkC, hkind⟩ := hK.1 ci _ hc
  obtain ⟨cf, kf, fi, f, hi, hsl⟩ := hS k hk
  refine W.getf hx hb hown (hts _ hl) hi (u_facts hfc hkC (u_lays hts hin hk) hi).1 q1 (by rw [q3]; exact fun h => by cases h) (v := v) ?_ rfl rfl hd kk
  have hsl2 : f.slot = D.2 ci k := hsl
  rw [hsl2, q4 k hk]
  exact congrArg some hv
theorem xr_getI (hx : p.tables.exec = Jvm.exec) (hb : c.code = cc) (hts : ∀ w ∈ Ts, w.before args s = true) (hin : ∀ w ∈ u_ws C T N, w ∈ Ts) (hown : s.vm.findClass own = some m.cls) (hK : va_K D vwCl (tysC cy) s) (hP : Hp b0 D cy M H) {f : Int32 → Option ρ} (hF : (gI M kd num a).bind f = some r) (ci k : Nat) (hc : vwCl[ci]? = some (C, T, N)) (hk : k < N) (hl : Cond.fieldLink own idx (T k).1 (T k).2.1 (T k).2.2.1 ∈ Ts) (hz : tyO ci k = 0 ∧ kd = ci + 1 ∧ num = 100 * ci + k) (hd : decode cc pc = .ok (.getfield idx, 3))
    (kk : ∀ v, f v = some r → W p l e R s m args below meth c H locs cells slots Q (F0 m (pc + 3) ls (.int v :: rest))) : W p l e R s m args below meth c H locs cells slots Q (F0 m pc ls (.ref a :: rest)) := by
  obtain ⟨v, h1, h2⟩ := ob_some hF
  obtain ⟨h3, h4⟩ := if_some h1
  obtain ⟨z1, z2, z3⟩ := hz
  have h5 : mI M num a = v := Option.some.inj h4
  exact xr_getV hx hb hts hin hown hK hP hc hk hl (by rw [h3, z2]) (v := .int v) (by simp only [fv, z1, if_true, ← z3, h5]) hd (kk v h2)
theorem xr_getJ (hx : p.tables.exec = Jvm.exec) (hb : c.code = cc) (hts : ∀ w ∈ Ts, w.before args s = true) (hin : ∀ w ∈ u_ws C T N, w ∈ Ts) (hown : s.vm.findClass own = some m.cls) (hK : va_K D vwCl (tysC cy) s) (hP : Hp b0 D cy M H) {f : Int64 → Option ρ} (hF : (gJ M kd num a).bind f = some r) (ci k : Nat) (hc : vwCl[ci]? = some (C, T, N)) (hk : k < N) (hl : Cond.fieldLink own idx (T k).1 (T k).2.1 (T k).2.2.1 ∈ Ts) (hz : tyO ci k = 1 ∧ kd = ci + 1 ∧ num = 100 * ci + k) (hd : decode cc pc = .ok (.getfield idx, 3))
    (kk : ∀ v, f v = some r → W p l e R s m args below meth c H locs cells slots Q (F0 m (pc + 3) ls (.long v :: rest))) : W p l e R s m args below meth c H locs cells slots Q (F0 m pc ls (.ref a :: rest)) := by
  obtain ⟨v, h1, h2⟩ := ob_some hF
  obtain ⟨h3, h4⟩ := if_some h1
  obtain ⟨z1, z2, z3⟩ := hz
  have h5 : mJ M num a = v := Option.some.inj h4
  exact xr_getV hx hb hts hin hown hK hP hc hk hl (by rw [h3, z2]) (v := .long v) (by simp only [fv, z1, ← z3, h5]; rfl) hd (kk v h2)
theorem xr_getR (hx : p.tables.exec = Jvm.exec) (hb : c.code = cc) (hts : ∀ w ∈ Ts, w.before args s = true) (hin : ∀ w ∈ u_ws C T N, w ∈ Ts) (hown : s.vm.findClass own = some m.cls) (hK : va_K D vwCl (tysC cy) s) (hP : Hp b0 D cy M H) {f : Nat → Option ρ} (hF : (gR M kd num a).bind f = some r) (ci k : Nat) (hc : vwCl[ci]? = some (C, T, N)) (hk : k < N) (hl : Cond.fieldLink own idx (T k).1 (T k).2.1 (T k).2.2.1 ∈ Ts) (hz : tyO ci k = 2 ∧ kd = ci + 1 ∧ num = 100 * ci + k) (hd : decode cc pc = .ok (.getfield idx, 3))
    (kk : ∀ v, f v = some r → W p l e R s m args below meth c H locs cells slots Q (F0 m (pc + 3) ls (.ref v :: rest))) : W p l e R s m args below meth c H locs cells slots Q (F0 m pc ls (.ref a :: rest)) := by
  obtain ⟨v, h1, h2⟩ := ob_some hF
  obtain ⟨h3, h4⟩ := if_some h1
  obtain ⟨z1, z2, z3⟩ := hz
  exact xr_getV hx hb hts hin hown hK hP hc hk hl (by rw [h3, z2]) (v := .ref v) (by simp only [fv, z1, ← z3, h4]; rfl) hd (kk v h2)
theorem xr_getN (hx : p.tables.exec = Jvm.exec) (hb : c.code = cc) (hts : ∀ w ∈ Ts, w.before args s = true) (hin : ∀ w ∈ u_ws C T N, w ∈ Ts) (hown : s.vm.findClass own = some m.cls) (hK : va_K D vwCl (tysC cy) s) (hP : Hp b0 D cy M H) {f : Option Nat → Option ρ} (hF : (gN M kd num a).bind f = some r) (ci k : Nat) (hc : vwCl[ci]? = some (C, T, N)) (hk : k < N) (hl : Cond.fieldLink own idx (T k).1 (T k).2.1 (T k).2.2.1 ∈ Ts) (hz : tyO ci k = 2 ∧ kd = ci + 1 ∧ num = 100 * ci + k) (hd : decode cc pc = .ok (.getfield idx, 3))
    (kk : ∀ v, f v = some r → W p l e R s m args below meth c H locs cells slots Q (F0 m (pc + 3) ls (va_rf v :: rest))) : W p l e R s m args below meth c H locs cells slots Q (F0 m pc ls (.ref a :: rest)) := by
  obtain ⟨v, h1, h2⟩ := ob_some hF
  obtain ⟨h3, h4⟩ := if_some h1
  obtain ⟨z1, z2, z3⟩ := hz
  have h5 : mR M num a = v := Option.some.inj h4
  exact xr_getV hx hb hts hin hown hK hP hc hk hl (by rw [h3, z2]) (v := va_rf v) (by simp only [fv, z1, ← z3, h5]; rfl) hd (kk v h2)
/-- putfield, whatever the type: M1 is M but for that field of that object -/
theorem xr_putV (hx : p.tables.exec = Jvm.exec) (hb : c.code = cc) (hts : ∀ w ∈ Ts, w.before args s = true) (hin : ∀ w ∈ u_ws C T N, w ∈ Ts) (hown : s.vm.findClass own = some m.cls) (hK : va_K D vwCl (tysC cy) s) (hP : Hp b0 D cy M H) (hS0 : va_S (BA b0) H0 H locs) (hc : vwCl[ci]? = some (C, T, N)) (hk : k < N) (ty0 : Nat → FieldType) (hty : ∀ k, k < N → parseFieldDescriptor (T k).2.2.1 = some (ty0 k)) (hnm : ∀ a, a < N → ∀ b, b < N → a ≠ b → (T a).2.1 ≠ (T b).2.1) (hl : Cond.fieldLink own idx (T k).1 (T k).2.1 (T k).2.2.1 ∈ Ts)
    (hfin : (T k).2.2.2 = false ∨ ((T k).2.2.2 = true ∧ meth.name = "<init>" ∧ (T k).1 = own)) (hkd : mK M a = ci + 1) {v : Value} {M1 : Mm} (hn : narrow (ty0 k) v = v) (hfit : fits (ty0 k) v = true)
    (hs1 : mS M1 = mS M) (hk1 : mK M1 = mK M) (hn1 : mN M1 = mN M) (hi : ∀ b, b ≠ a → ∀ k, mI M1 k b = mI M k b) (hj : ∀ b, b ≠ a → ∀ k, mJ M1 k b = mJ M k b) (hr : ∀ b, b ≠ a → ∀ k, mR M1 k b = mR M k b) (hA : mA M1 = mA M) (hB : mB M1 = mB M) (hQ : mQ M1 = mQ M) (hf : ∀ j, fv M1 ci j a = updV (fun k => fv M ci k a) k v j)
    (hd : decode cc pc = .ok (.putfield idx, 3)) (kk : ∀ (H1 : Heap) (locs1 : List Loc), Hp b0 D cy M1 H1 → va_S (BA b0) H0 H1 locs1 → W p l e R s m args below meth c H1 locs1 cells slots Q (F0 m (pc + 3) ls rest)) : W p l e R s m args below meth c H locs cells slots Q (F0 m pc ls (v :: .ref a :: rest)) := by
  have hap := va_apart (own := own) hts hin ty0 hty hnm hK hc
  obtain ⟨hba, cell, q1, q2, q3, q4⟩ := Hp_obj hP hkd hc
  obtain ⟨hS, hfc, kC, hkC, hkind⟩ := hK.1 ci _ hc
  obtain ⟨cf, kf, fi, f, hi0, hsl⟩ := hS k hk
  have hsl2 : f.slot = D.2 ci k := hsl
  have hlay := u_lays hts hin hk
  have hst := (u_facts hfc hkC hlay hi0).1
  have h6 := u_fits hfc hkC hkind hlay hi0 (hty k hk) hn hfit
  have fin : ∀ H' : Heap, H'[a]? = some (cell.setSlot f.slot v) → H'.size = H.size → (∀ q, q ≠ a → H'[q]? = H[q]?) → W p l e R s m args below meth c H' (locs ++ [⟨a, f.slot⟩]) cells slots Q (F0 m (pc + 3) ls rest) := by
    intro H' e1 e2 e3
    rw [hsl2] at e1
    refine kk H' _ (Hp_of (a := a) hP e2 e3 hs1 hk1 hn1 hi hj hr (fun b _ => by rw [hA]) (fun b _ => by rw [hB]) (fun b _ => by rw [hQ]) (fun _ => ?_)) (hS0.put e2 e3 hba)
    have hlt : ci < 12 := (List.getElem?_eq_some_iff.mp hc).1
    refine ⟨fun _ => ?_, fun g => by rw [hk1] at g; omega, fun g => by rw [hk1] at g; omega, fun g => by rw [hk1] at g; omega, fun g => by rw [hk1] at g; omega⟩
    rw [hk1, hkd]
    refine ⟨_, hc, t_OB.to (V := updV (fun k => fv M ci k a) k v) ⟨_, e1, q2, q3, t_set q4 hap hk v⟩ (fun j _ => (hf j).symm)⟩
  rcases hfin with hfin | ⟨hfin, hin2, hdecl⟩
  · have hlay2 := hts _ (hin _ (u_in_lay hk))
    unfold u_lay at hlay2
    rw [if_neg (by rw [hfin]; decide)] at hlay2
    have h7 := u_store hfc hkC hkind hlay2 hi0 (hty k hk) hn hfit
    exact W.putK hx hb (f := f) ⟨hown, hts _ hl, ⟨_, _, _, hi0⟩, hst⟩ (by rw [q2]; exact h7) q1 q3 (by rw [hsl2]; exact k2_hasslot (q4 k hk)) rfl rfl hd fin
  · have hlay2 := hts _ (hin _ (u_in_lay hk))
    unfold u_lay at hlay2
    rw [if_pos hfin] at hlay2
    have hcf : m.cls = cf := by
      obtain ⟨_, _, c', _, _, _, -, -, hf', -, -, -, hown2, -⟩ := Cond.laysFinal_spec hlay2
      have e1 : c' = cf := by have := hi0.symm.trans hf'; simp at this; exact this.1.symm
      rw [hdecl] at hown2
      rw [← e1]; exact Option.some.inj (hown.symm.trans hown2)
    exact W.putFinK hx hb hown (hts _ hl) hi0 hst hcf hin2 (by rw [q2]; exact h6) q1 q3 (by rw [hsl2]; exact k2_hasslot (q4 k hk)) rfl rfl hd fin
theorem xr_putI (hx : p.tables.exec = Jvm.exec) (hb : c.code = cc) (hts : ∀ w ∈ Ts, w.before args s = true) (hin : ∀ w ∈ u_ws C T N, w ∈ Ts) (hown : s.vm.findClass own = some m.cls) (hK : va_K D vwCl (tysC cy) s) (hP : Hp b0 D cy M H) (hS : va_S (BA b0) H0 H locs) {v : Int32} {f : Mm → Option ρ} (hF : (pI M kd num a v).bind f = some r) (ci k : Nat) (hc : vwCl[ci]? = some (C, T, N)) (hk : k < N) (ty0 : Nat → FieldType) (hty : ∀ k, k < N → parseFieldDescriptor (T k).2.2.1 = some (ty0 k)) (hnm : ∀ a, a < N → ∀ b, b < N → a ≠ b → (T a).2.1 ≠ (T b).2.1) (hl : Cond.fieldLink own idx (T k).1 (T k).2.1 (T k).2.2.1 ∈ Ts) (hfin : (T k).2.2.2 = false ∨ ((T k).2.2.2 = true ∧ meth.name = "<init>" ∧ (T k).1 = own)) (hti : ty0 k = .int) (hz : tyO ci k = 0 ∧ kd = ci + 1 ∧ num = 100 * ci + k) (hd : decode cc pc = .ok (.putfield idx, 3))
    (kk : ∀ (M : Mm) (H : Heap) (locs : List Loc), f M = some r → Hp b0 D cy M H → va_S (BA b0) H0 H locs → W p l e R s m args below meth c H locs cells slots Q (F0 m (pc + 3) ls rest)) : W p l e R s m args below meth c H locs cells slots Q (F0 m pc ls (.int v :: .ref a :: rest)) := by
  obtain ⟨M1, h1, h2⟩ := ob_some hF
  obtain ⟨h3, h4⟩ := if_some h1
  obtain ⟨z1, z2, z3⟩ := hz
  have h5 : sI M num a v = M1 := Option.some.inj h4
  subst h5
  refine xr_putV (M1 := sI M num a v) hx hb hts hin hown hK hP hS hc hk ty0 hty hnm hl hfin (by rw [h3, z2]) (by rw [hti]; rfl) (by rw [hti]; rfl) rfl rfl rfl (fun b hb2 k2 => ?_) (fun b hb2 k2 => ?_) (fun b hb2 k2 => ?_) rfl rfl rfl (fun j => ?_) hd (fun H1 locs1 g1 g2 => kk _ H1 locs1 h2 g1 g2)
  · first | exact up2_ne hb2 | rfl
  · first | exact up2_ne hb2 | rfl
  · first | exact up2_ne hb2 | rfl
  · by_cases hj : j = k
    · subst hj
      simp only [fv, updV, z1, ← z3, if_true]
      simp [sI, mI, up2]
    · have hne : ¬ 100 * ci + j = num := by omega
      simp [fv, updV, hj, sI, mI, mJ, mR, up2, hne]
theorem xr_putZ (hx : p.tables.exec = Jvm.exec) (hb : c.code = cc) (hts : ∀ w ∈ Ts, w.before args s = true) (hin : ∀ w ∈ u_ws C T N, w ∈ Ts) (hown : s.vm.findClass own = some m.cls) (hK : va_K D vwCl (tysC cy) s) (hP : Hp b0 D cy M H) (hS : va_S (BA b0) H0 H locs) {v : Int32} {f : Mm → Option ρ} (hF : (pZ M kd num a v).bind f = some r) (ci k : Nat) (hc : vwCl[ci]? = some (C, T, N)) (hk : k < N) (ty0 : Nat → FieldType) (hty : ∀ k, k < N → parseFieldDescriptor (T k).2.2.1 = some (ty0 k)) (hnm : ∀ a, a < N → ∀ b, b < N → a ≠ b → (T a).2.1 ≠ (T b).2.1) (hl : Cond.fieldLink own idx (T k).1 (T k).2.1 (T k).2.2.1 ∈ Ts) (hfin : (T k).2.2.2 = false ∨ ((T k).2.2.2 = true ∧ meth.name = "<init>" ∧ (T k).1 = own)) (hti : ty0 k = .boolean) (hz : tyO ci k = 0 ∧ kd = ci + 1 ∧ num = 100 * ci + k) (hd : decode cc pc = .ok (.putfield idx, 3))
    (kk : ∀ (M : Mm) (H : Heap) (locs : List Loc), f M = some r → Hp b0 D cy M H → va_S (BA b0) H0 H locs → W p l e R s m args below meth c H locs cells slots Q (F0 m (pc + 3) ls rest)) : W p l e R s m args below meth c H locs cells slots Q (F0 m pc ls (.int v :: .ref a :: rest)) := by
  obtain ⟨M1, h1, h2⟩ := ob_some hF
  obtain ⟨h3, h4⟩ := if_some h1
  obtain ⟨hv01, h4⟩ := if_some h4
  obtain ⟨z1, z2, z3⟩ := hz
  have h5 : sI M num a v = M1 := Option.some.inj h4
  subst h5
  refine xr_putV (M1 := sI M num a v) hx hb hts hin hown hK hP hS hc hk ty0 hty hnm hl hfin (by rw [h3, z2]) (by rw [hti]; rcases hv01 with e | e <;> subst e <;> rfl) (by rw [hti]; rcases hv01 with e | e <;> subst e <;> rfl) rfl rfl rfl (fun b hb2 k2 => ?_) (fun b hb2 k2 => ?_) (fun b hb2 k2 => ?_) rfl rfl rfl (fun j => ?_) hd (fun H1 locs1 g1 g2 => kk _ H1 locs1 h2 g1 g2)
  · first | exact up2_ne hb2 | rfl
  · first | exact up2_ne hb2 | rfl
  · first | exact up2_ne hb2 | rfl
  · by_cases hj : j = k
    · subst hj
      simp only [fv, updV, z1, ← z3, if_true]
      simp [sI, mI, up2]
    · have hne : ¬ 100 * ci + j = num := by omega
      simp [fv, updV, hj, sI, mI, mJ, mR, up2, hne]
theorem xr_putJ (hx : p.tables.exec = Jvm.exec) (hb : c.code = cc) (hts : ∀ w ∈ Ts, w.before args s = true) (hin : ∀ w ∈ u_ws C T N, w ∈ Ts) (hown : s.vm.findClass own = some m.cls) (hK : va_K D vwCl (tysC cy) s) (hP : Hp b0 D cy M H) (hS : va_S (BA b0) H0 H locs) {v : Int64} {f : Mm → Option ρ} (hF : (pJ M kd num a v).bind f = some r) (ci k : Nat) (hc : vwCl[ci]? = some (C, T, N)) (hk : k < N) (ty0 : Nat → FieldType) (hty : ∀ k, k < N → parseFieldDescriptor (T k).2.2.1 = some (ty0 k)) (hnm : ∀ a, a < N → ∀ b, b < N → a ≠ b → (T a).2.1 ≠ (T b).2.1) (hl : Cond.fieldLink own idx (T k).1 (T k).2.1 (T k).2.2.1 ∈ Ts) (hfin : (T k).2.2.2 = false ∨ ((T k).2.2.2 = true ∧ meth.name = "<init>" ∧ (T k).1 = own)) (hti : ty0 k = .long) (hz : tyO ci k = 1 ∧ kd = ci + 1 ∧ num = 100 * ci + k) (hd : decode cc pc = .ok (.putfield idx, 3))
    (kk : ∀ (M : Mm) (H : Heap) (locs : List Loc), f M = some r → Hp b0 D cy M H → va_S (BA b0) H0 H locs → W p l e R s m args below meth c H locs cells slots Q (F0 m (pc + 3) ls rest)) : W p l e R s m args below meth c H locs cells slots Q (F0 m pc ls (.long v :: .ref a :: rest)) := by
  obtain ⟨M1, h1, h2⟩ := ob_some hF
  obtain ⟨h3, h4⟩ := if_some h1
  obtain ⟨z1, z2, z3⟩ := hz
  have h5 : sJ M num a v = M1 := Option.some.inj h4
  subst h5
  refine xr_putV (M1 := sJ M num a v) hx hb hts hin hown hK hP hS hc hk ty0 hty hnm hl hfin (by rw [h3, z2]) (by rw [hti]; rfl) (by rw [hti]; rfl) rfl rfl rfl (fun b hb2 k2 => ?_) (fun b hb2 k2 => ?_) (fun b hb2 k2 => ?_) rfl rfl rfl (fun j => ?_) hd (fun H1 locs1 g1 g2 => kk _ H1 locs1 h2 g1 g2)
  · first | exact up2_ne hb2 | rfl
  · first | exact up2_ne hb2 | rfl
  · first | exact up2_ne hb2 | rfl
  · by_cases hj : j = k
    · subst hj
      simp only [fv, updV, z1, ← z3, if_true]
      simp [sJ, mJ, up2]
    · have hne : ¬ 100 * ci + j = num := by omega
      simp [fv, updV, hj, sJ, mI, mJ, mR, up2, hne]
theorem xr_putR (hx : p.tables.exec = Jvm.exec) (hb : c.code = cc) (hts : ∀ w ∈ Ts, w.before args s = true) (hin : ∀ w ∈ u_ws C T N, w ∈ Ts) (hown : s.vm.findClass own = some m.cls) (hK : va_K D vwCl (tysC cy) s) (hP : Hp b0 D cy M H) (hS : va_S (BA b0) H0 H locs) {v : Option Nat} {f : Mm → Option ρ} (hF : (pR M kd num a v).bind f = some r) (ci k : Nat) (hc : vwCl[ci]? = some (C, T, N)) (hk : k < N) (ty0 : Nat → FieldType) (hty : ∀ k, k < N → parseFieldDescriptor (T k).2.2.1 = some (ty0 k)) (hnm : ∀ a, a < N → ∀ b, b < N → a ≠ b → (T a).2.1 ≠ (T b).2.1) (hl : Cond.fieldLink own idx (T k).1 (T k).2.1 (T k).2.2.1 ∈ Ts) (hfin : (T k).2.2.2 = false ∨ ((T k).2.2.2 = true ∧ meth.name = "<init>" ∧ (T k).1 = own)) (hti : (∃ n, ty0 k = .object n) ∨ ∃ t, ty0 k = .array t) (hz : tyO ci k = 2 ∧ kd = ci + 1 ∧ num = 100 * ci + k) (hd : decode cc pc = .ok (.putfield idx, 3))
    (kk : ∀ (M : Mm) (H : Heap) (locs : List Loc), f M = some r → Hp b0 D cy M H → va_S (BA b0) H0 H locs → W p l e R s m args below meth c H locs cells slots Q (F0 m (pc + 3) ls rest)) : W p l e R s m args below meth c H locs cells slots Q (F0 m pc ls (va_rf v :: .ref a :: rest)) := by
  obtain ⟨M1, h1, h2⟩ := ob_some hF
  obtain ⟨h3, h4⟩ := if_some h1
  obtain ⟨z1, z2, z3⟩ := hz
  have h5 : sR M num a v = M1 := Option.some.inj h4
  subst h5
  refine xr_putV (M1 := sR M num a v) hx hb hts hin hown hK hP hS hc hk ty0 hty hnm hl hfin (by rw [h3, z2]) (by rcases hti with ⟨n, e⟩ | ⟨t, e⟩ <;> rw [e] <;> cases v <;> rfl) (by rcases hti with ⟨n, e⟩ | ⟨t, e⟩ <;> rw [e] <;> cases v <;> rfl) rfl rfl rfl (fun b hb2 k2 => ?_) (fun b hb2 k2 => ?_) (fun b hb2 k2 => ?_) rfl rfl rfl (fun j => ?_) hd (fun H1 locs1 g1 g2 => kk _ H1 locs1 h2 g1 g2)
  · first | exact up2_ne hb2 | rfl
  · first | exact up2_ne hb2 | rfl
  · first | exact up2_ne hb2 | rfl
  · by_cases hj : j = k
    · subst hj
      simp only [fv, updV, z1, ← z3, if_true]
      simp [sR, mR, up2]
    · have hne : ¬ 100 * ci + j = num := by omega
      simp [fv, updV, hj, sR, mI, mJ, mR, up2, hne]
theorem xr_aI (hx : p.tables.exec = Jvm.exec) (hb : c.code = cc) (hK : va_K D vwCl (tysC cy) s) (hP : Hp b0 D cy M H) {i : Int32} {f : Int32 → Option ρ} (hF : (aI M a i).bind f = some r) (hd : decode cc pc = .ok (.iaload, 1))
    (kk : ∀ v, f v = some r → W p l e R s m args below meth c H locs cells slots Q (F0 m (pc + 1) ls (.int v :: rest))) : W p l e R s m args below meth c H locs cells slots Q (F0 m pc ls (.int i :: .ref a :: rest)) := by
  obtain ⟨v, h1, h2⟩ := ob_some hF
  obtain ⟨h3, h4⟩ := if_some h1
  obtain ⟨h5, h6⟩ := if_some h4
  have hin := vin_in h5
  have hlt : i.toNatClampNeg < mN M a := Nat.not_le.mp fun q => hin (Or.inr q)
  have h7 := Option.some.inj h6
  exact W.iald (v := .int v) hx hb (Hp_I hP h3).2 ((hK.2 0 _ rfl).1 _ _) (fun q => by cases q) (by rw [arrV_size]; exact hin) (by rw [arrV_read _ _ hlt, ← h7]; rfl) rfl rfl hd (kk v h2)
theorem xr_aJ (hx : p.tables.exec = Jvm.exec) (hb : c.code = cc) (hK : va_K D vwCl (tysC cy) s) (hP : Hp b0 D cy M H) {i : Int32} {f : Int64 → Option ρ} (hF : (aJ M a i).bind f = some r) (hd : decode cc pc = .ok (.laload, 1))
    (kk : ∀ v, f v = some r → W p l e R s m args below meth c H locs cells slots Q (F0 m (pc + 1) ls (.long v :: rest))) : W p l e R s m args below meth c H locs cells slots Q (F0 m pc ls (.int i :: .ref a :: rest)) := by
  obtain ⟨v, h1, h2⟩ := ob_some hF
  obtain ⟨h3, h4⟩ := if_some h1
  obtain ⟨h5, h6⟩ := if_some h4
  have hin := vin_in h5
  have hlt : i.toNatClampNeg < mN M a := Nat.not_le.mp fun q => hin (Or.inr q)
  have h7 := Option.some.inj h6
  exact W.lald (v := .long v) hx hb (Hp_J hP h3).2 ((hK.2 1 _ rfl).1 _ _) (fun q => by cases q) (by rw [arrV_size]; exact hin) (by rw [arrV_read _ _ hlt, ← h7]; rfl) rfl rfl hd (kk v h2)
theorem xr_aZ (hx : p.tables.exec = Jvm.exec) (hb : c.code = cc) (hK : va_K D vwCl (tysC cy) s) (hP : Hp b0 D cy M H) {i : Int32} {f : Int32 → Option ρ} (hF : (aZ M a i).bind f = some r) (hd : decode cc pc = .ok (.baload, 1))
    (kk : ∀ v, f v = some r → W p l e R s m args below meth c H locs cells slots Q (F0 m (pc + 1) ls (.int v :: rest))) : W p l e R s m args below meth c H locs cells slots Q (F0 m pc ls (.int i :: .ref a :: rest)) := by
  obtain ⟨v, h1, h2⟩ := ob_some hF
  obtain ⟨h3, h4⟩ := if_some h1
  obtain ⟨h5, h6⟩ := if_some h4
  have hin := vin_in h5
  have hlt : i.toNatClampNeg < mN M a := Nat.not_le.mp fun q => hin (Or.inr q)
  have h7 := Option.some.inj h6
  exact W.zald (v := .int v) hx hb (Hp_Z hP h3).2 ((hK.2 2 _ rfl).1 _ _) (fun q => by cases q) (by rw [arrV_size]; exact hin) (by rw [arrV_read _ _ hlt, ← h7]; rfl) rfl rfl hd (kk v h2)
theorem xr_aR (hx : p.tables.exec = Jvm.exec) (hb : c.code = cc) (hK : va_K D vwCl (tysC cy) s) (hP : Hp b0 D cy M H) {i : Int32} {f : Nat → Option ρ} (hF : (aR M kd a i).bind f = some r) {En : String} (t0 : Nat) (ht : (tysC cy)[t0]? = some (cy (kd - 20), .object En)) (h23 : 23 ≤ kd) (hd : decode cc pc = .ok (.aaload, 1))
    (kk : ∀ v, f v = some r → W p l e R s m args below meth c H locs cells slots Q (F0 m (pc + 1) ls (.ref v :: rest))) : W p l e R s m args below meth c H locs cells slots Q (F0 m pc ls (.int i :: .ref a :: rest)) := by
  obtain ⟨v, h1, h2⟩ := ob_some hF
  obtain ⟨h3, h4⟩ := if_some h1
  obtain ⟨h5, h6⟩ := if_some h4
  have hin := vin_in h5
  have hlt : i.toNatClampNeg < mN M a := Nat.not_le.mp fun q => hin (Or.inr q)
  have h7 : mQ M a i.toNatClampNeg = some v := h6
  exact W.aald (v := .ref v) (ty := .object En) hx hb (Hp_Q hP h3 h23).2 ((hK.2 t0 _ ht).1 _ _) rfl (fun q => by cases q) (by rw [arrV_size]; exact hin) (by rw [arrV_read _ _ hlt, h7]; rfl) rfl rfl hd (kk v h2)
theorem xr_aN (hx : p.tables.exec = Jvm.exec) (hb : c.code = cc) (hK : va_K D vwCl (tysC cy) s) (hP : Hp b0 D cy M H) {i : Int32} {f : Option Nat → Option ρ} (hF : (aN M kd a i).bind f = some r) {En : String} (t0 : Nat) (ht : (tysC cy)[t0]? = some (cy (kd - 20), .object En)) (h23 : 23 ≤ kd) (hd : decode cc pc = .ok (.aaload, 1))
    (kk : ∀ v, f v = some r → W p l e R s m args below meth c H locs cells slots Q (F0 m (pc + 1) ls (va_rf v :: rest))) : W p l e R s m args below meth c H locs cells slots Q (F0 m pc ls (.int i :: .ref a :: rest)) := by
  obtain ⟨v, h1, h2⟩ := ob_some hF
  obtain ⟨h3, h4⟩ := if_some h1
  obtain ⟨h5, h6⟩ := if_some h4
  have hin := vin_in h5
  have hlt : i.toNatClampNeg < mN M a := Nat.not_le.mp fun q => hin (Or.inr q)
  have h7 : mQ M a i.toNatClampNeg = v := Option.some.inj h6
  exact W.aald (v := va_rf v) (ty := .object En) hx hb (Hp_Q hP h3 h23).2 ((hK.2 t0 _ ht).1 _ _) rfl (fun q => by cases q) (by rw [arrV_size]; exact hin) (by rw [arrV_read _ _ hlt, h7]) rfl rfl hd (kk v h2)
theorem xr_wI (hx : p.tables.exec = Jvm.exec) (hb : c.code = cc) (hK : va_K D vwCl (tysC cy) s) (hP : Hp b0 D cy M H) (hS : va_S (BA b0) H0 H locs) {i : Int32} {x : Int32} {f : Mm → Option ρ} (hF : (wI M a i x).bind f = some r) (hd : decode cc pc = .ok (.iastore, 1))
    (kk : ∀ (M : Mm) (H : Heap) (locs : List Loc), f M = some r → Hp b0 D cy M H → va_S (BA b0) H0 H locs → W p l e R s m args below meth c H locs cells slots Q (F0 m (pc + 1) ls rest)) : W p l e R s m args below meth c H locs cells slots Q (F0 m pc ls (.int x :: .int i :: .ref a :: rest)) := by
  obtain ⟨M1, h1, h2⟩ := ob_some hF
  obtain ⟨h3, h4⟩ := if_some h1
  obtain ⟨h5, h6⟩ := if_some h4
  have hin := vin_in h5
  have h7 : sA M a (va_up (mA M a) (ix i) x) = M1 := Option.some.inj h6
  subst h7
  have hc1 := Hp_I hP h3
  refine W.iast hx hb hc1.2 ((hK.2 0 _ rfl).1 _ _) (fun q => by cases q) (by rw [arrV_size]; exact hin) rfl rfl hd fun H1 e z oq => ?_
  have hcell : H1[a]? = some (arrV (cy 0) (mN M a) (fun j => .int (va_up (mA M) a (va_up (mA M a) (ix i) x) a j))) := by
    rw [e, arrV_store]
    congr 2
    funext q
    rw [vau_eq]
    by_cases hq : q = i.toNatClampNeg
    · subst hq
      simp [updV, va_up, ix, vp_nar]
      try rfl
    · simp [updV, va_up, ix, hq]
  refine kk _ H1 _ h2 (Hp_of (a := a) hP z oq rfl rfl rfl (fun _ _ _ => rfl) (fun _ _ _ => rfl) (fun _ _ _ => rfl) (fun b hb2 => ?_) (fun b hb2 => ?_) (fun b hb2 => ?_) (fun _ => ⟨fun g => by have g2 : mK M a ≤ 12 := g; omega, fun _ => hcell, fun g => by have g2 : mK M a = 21 := g; omega, fun g => by have g2 : mK M a = 22 := g; omega, fun g => by have g2 : 23 ≤ mK M a := g; omega⟩)) (hS.put z oq hc1.1)
  · first | exact vau_ne hb2 | rfl
  · first | exact vau_ne hb2 | rfl
  · first | exact vau_ne hb2 | rfl
theorem xr_wJ (hx : p.tables.exec = Jvm.exec) (hb : c.code = cc) (hK : va_K D vwCl (tysC cy) s) (hP : Hp b0 D cy M H) (hS : va_S (BA b0) H0 H locs) {i : Int32} {x : Int64} {f : Mm → Option ρ} (hF : (wJ M a i x).bind f = some r) (hd : decode cc pc = .ok (.lastore, 1))
    (kk : ∀ (M : Mm) (H : Heap) (locs : List Loc), f M = some r → Hp b0 D cy M H → va_S (BA b0) H0 H locs → W p l e R s m args below meth c H locs cells slots Q (F0 m (pc + 1) ls rest)) : W p l e R s m args below meth c H locs cells slots Q (F0 m pc ls (.long x :: .int i :: .ref a :: rest)) := by
  obtain ⟨M1, h1, h2⟩ := ob_some hF
  obtain ⟨h3, h4⟩ := if_some h1
  obtain ⟨h5, h6⟩ := if_some h4
  have hin := vin_in h5
  have h7 : sB M a (va_up (mB M a) (ix i) x) = M1 := Option.some.inj h6
  subst h7
  have hc1 := Hp_J hP h3
  refine W.last hx hb hc1.2 ((hK.2 1 _ rfl).1 _ _) (fun q => by cases q) (by rw [arrV_size]; exact hin) rfl rfl hd fun H1 e z oq => ?_
  have hcell : H1[a]? = some (arrV (cy 1) (mN M a) (fun j => .long (va_up (mB M) a (va_up (mB M a) (ix i) x) a j))) := by
    rw [e, arrV_store]
    congr 2
    funext q
    rw [vau_eq]
    by_cases hq : q = i.toNatClampNeg
    · subst hq
      simp [updV, va_up, ix, vp_nar]
      try rfl
    · simp [updV, va_up, ix, hq]
  refine kk _ H1 _ h2 (Hp_of (a := a) hP z oq rfl rfl rfl (fun _ _ _ => rfl) (fun _ _ _ => rfl) (fun _ _ _ => rfl) (fun b hb2 => ?_) (fun b hb2 => ?_) (fun b hb2 => ?_) (fun _ => ⟨fun g => by have g2 : mK M a ≤ 12 := g; omega, fun g => by have g2 : mK M a = 20 := g; omega, fun _ => hcell, fun g => by have g2 : mK M a = 22 := g; omega, fun g => by have g2 : 23 ≤ mK M a := g; omega⟩)) (hS.put z oq hc1.1)
  · first | exact vau_ne hb2 | rfl
  · first | exact vau_ne hb2 | rfl
  · first | exact vau_ne hb2 | rfl
theorem xr_wZ (hx : p.tables.exec = Jvm.exec) (hb : c.code = cc) (hK : va_K D vwCl (tysC cy) s) (hP : Hp b0 D cy M H) (hS : va_S (BA b0) H0 H locs) {i : Int32} {x : Int32} {f : Mm → Option ρ} (hF : (wZ M a i x).bind f = some r) (hd : decode cc pc = .ok (.bastore, 1))
    (kk : ∀ (M : Mm) (H : Heap) (locs : List Loc), f M = some r → Hp b0 D cy M H → va_S (BA b0) H0 H locs → W p l e R s m args below meth c H locs cells slots Q (F0 m (pc + 1) ls rest)) : W p l e R s m args below meth c H locs cells slots Q (F0 m pc ls (.int x :: .int i :: .ref a :: rest)) := by
  obtain ⟨M1, h1, h2⟩ := ob_some hF
  obtain ⟨h3, h4⟩ := if_some h1
  obtain ⟨h5, h6⟩ := if_some h4
  have hin := vin_in h5
  have h7 : sA M a (va_up (mA M a) (ix i) (vp_nar .boolean x)) = M1 := Option.some.inj h6
  subst h7
  have hc1 := Hp_Z hP h3
  refine W.zast hx hb hc1.2 ((hK.2 2 _ rfl).1 _ _) (fun q => by cases q) (by rw [arrV_size]; exact hin) rfl rfl hd fun H1 e z oq => ?_
  have hcell : H1[a]? = some (arrV (cy 2) (mN M a) (fun j => .int (va_up (mA M) a (va_up (mA M a) (ix i) (vp_nar .boolean x)) a j))) := by
    rw [e, arrV_store]
    congr 2
    funext q
    rw [vau_eq]
    by_cases hq : q = i.toNatClampNeg
    · subst hq
      simp [updV, va_up, ix, vp_nar]
      try rfl
    · simp [updV, va_up, ix, hq]
  refine kk _ H1 _ h2 (Hp_of (a := a) hP z oq rfl rfl rfl (fun _ _ _ => rfl) (fun _ _ _ => rfl) (fun _ _ _ => rfl) (fun b hb2 => ?_) (fun b hb2 => ?_) (fun b hb2 => ?_) (fun _ => ⟨fun g => by have g2 : mK M a ≤ 12 := g; omega, fun g => by have g2 : mK M a = 20 := g; omega, fun g => by have g2 : mK M a = 21 := g; omega, fun _ => hcell, fun g => by have g2 : 23 ≤ mK M a := g; omega⟩)) (hS.put z oq hc1.1)
  · first | exact vau_ne hb2 | rfl
  · first | exact vau_ne hb2 | rfl
  · first | exact vau_ne hb2 | rfl
theorem xr_wR (hx : p.tables.exec = Jvm.exec) (hb : c.code = cc) (hK : va_K D vwCl (tysC cy) s) (hP : Hp b0 D cy M H) (hS : va_S (BA b0) H0 H locs) {i : Int32} {x ke : Nat} {f : Mm → Option ρ} (hF : (wR M kd ke a i x).bind f = some r) (t0 ci : Nat) {q0 : vw_C} (ht : (tysC cy)[t0]? = some (cy (kd - 20), .object q0.1)) (h23 : 23 ≤ kd) (hc : vwCl[ci]? = some q0) (hke : ke = ci + 1) (hd : decode cc pc = .ok (.aastore, 1))
    (kk : ∀ (M : Mm) (H : Heap) (locs : List Loc), f M = some r → Hp b0 D cy M H → va_S (BA b0) H0 H locs → W p l e R s m args below meth c H locs cells slots Q (F0 m (pc + 1) ls rest)) : W p l e R s m args below meth c H locs cells slots Q (F0 m pc ls (.ref x :: .int i :: .ref a :: rest)) := by
  obtain ⟨M1, h1, h2⟩ := ob_some hF
  obtain ⟨h3, h4⟩ := if_some h1
  obtain ⟨h5, h6⟩ := if_some h4
  obtain ⟨h8, h9⟩ := if_some h6
  have hin := vin_in h5
  have hlt : i.toNatClampNeg < mN M a := Nat.not_le.mp fun q => hin (Or.inr q)
  have h0 : ¬ i < 0 := fun q => hin (Or.inl q)
  have h7 : sQ M a (va_up (mQ M a) (ix i) (some x)) = M1 := Option.some.inj h9
  subst h7
  have hc1 := Hp_Q hP h3 h23
  obtain ⟨-, cellV, g1, g2, g3, -⟩ := Hp_obj (C := q0.1) (T := q0.2.1) (N := q0.2.2) hP (by rw [h8, hke]) hc
  have hcls := (hK.1 ci q0 hc).2
  obtain ⟨kA, comp, k1, k2, k3, -⟩ := (hK.2 t0 _ ht).2
  have hcomp : comp = D.1 ci := Option.some.inj (k3.symm.trans hcls.1)
  subst hcomp
  obtain ⟨kC, hkC, -⟩ := hcls.2
  refine W.aast hx hb hc1.2 (fun q h => by cases h) (fun h => by cases h) k1 k2 rfl hkC ⟨h0, by rw [arrV_size]; exact hlt⟩ g1 (fun q h => by rw [g3] at h; cases h) (by rw [g2]; exact hkC) (by rw [g2]; exact va_assign hcls) rfl rfl hd fun H1 e z oq => ?_
  have hcell : H1[a]? = some (arrV (cy (kd - 20)) (mN M a) (fun j => va_rf (va_up (mQ M) a (va_up (mQ M a) (ix i) (some x)) a j))) := by
    rw [e, arrV_store]
    congr 2
    funext q
    rw [vau_eq]
    by_cases hq : q = i.toNatClampNeg
    · subst hq
      simp [updV, va_up, ix, va_rf]
    · simp [updV, va_up, ix, hq]
  refine kk _ H1 _ h2 (Hp_of (a := a) hP z oq rfl rfl rfl (fun _ _ _ => rfl) (fun _ _ _ => rfl) (fun _ _ _ => rfl) (fun b hb2 => rfl) (fun b hb2 => rfl) (fun b hb2 => vau_ne hb2) (fun _ => ⟨fun g => by have g2 : mK M a ≤ 12 := g; omega, fun g => by have g2 : mK M a = 20 := g; omega, fun g => by have g2 : mK M a = 21 := g; omega, fun g => by have g2 : mK M a = 22 := g; omega, fun _ => ?_⟩)) (hS.put z oq hc1.1)
  show H1[a]? = some (arrV (cy (mK M a - 20)) _ _)
  rw [h3]
  exact hcell
end XRows
end
section
/-! New cells, lengths, copies, calls, returns. -/
theorem Hp_new {b0 : Nat} {D : va_G} {cy : Nat → ClassId} {M M1 : Mm} {H H1 : Heap} (hP : Hp b0 D cy M H) (hb0 : b0 ≤ H.size) (z : H1.size = H.size + 1) (oq : ∀ q : Nat, q < H.size → H1[q]? = H[q]?) (hs : mS M1 = mS M + 1) (hk : ∀ b, b ≠ mS M → mK M1 b = mK M b) (hn : ∀ b, b ≠ mS M → mN M1 b = mN M b)
    (hi : ∀ b, b ≠ mS M → ∀ k, mI M1 k b = mI M k b) (hj : ∀ b, b ≠ mS M → ∀ k, mJ M1 k b = mJ M k b) (hr : ∀ b, b ≠ mS M → ∀ k, mR M1 k b = mR M k b) (hA : ∀ b, b ≠ mS M → mA M1 b = mA M b) (hB : ∀ b, b ≠ mS M → mB M1 b = mB M b) (hQ : ∀ b, b ≠ mS M → mQ M1 b = mQ M b) (ha : cAt D cy M1 H1 (mS M)) : Hp b0 D cy M1 H1 := by
  refine ⟨by rw [z, hs, hP.1], fun b hb => ?_⟩
  by_cases e : b = mS M
  · subst e; exact ⟨by rw [← hP.1]; exact hb0, by rw [z, hP.1]; omega, ha⟩
  · rw [hk b e] at hb
    obtain ⟨g1, g2, g3⟩ := hP.2 b hb
    exact ⟨g1, by omega, cAt_kept g3 (oq b g2) (hk b e) (hn b e) (hi b e) (hj b e) (hr b e) (hA b e) (hB b e) (hQ b e)⟩
theorem va_S_new {A : Nat → Prop} {H0 H H1 : Heap} {locs : List Loc} (hS : va_S A H0 H locs) (z : H1.size = H.size + 1) (oq : ∀ q : Nat, q < H.size → H1[q]? = H[q]?) : va_S A H0 H1 locs :=
  ⟨Nat.le_trans hS.1 (by omega), fun x h1 h2 => (oq x (Nat.lt_of_lt_of_le h1 hS.1)).trans (hS.2.1 x h1 h2), hS.2.2⟩
/-- the words on nest mates, and on casts, that the tables give and no list of words may hold -/
def nests : List (String × Nat × MethodName × String) := [("HeaderLine", 21, ⟨"HeaderLine$Plan", "<init>", "()V"⟩, "HeaderLine"), ("HeaderLine", 28, ⟨"HeaderLine$Header", "<init>", "()V"⟩, "HeaderLine"), ("HeaderLine$Squeezer", 31, ⟨"HeaderLine$Header", "<init>", "()V"⟩, "HeaderLine"), ("HeaderLine", 46, ⟨"HeaderLine$Context", "<init>", "()V"⟩, "HeaderLine"), ("HeaderLine$Context", 11, ⟨"HeaderLine$Header", "<init>", "()V"⟩, "HeaderLine"), ("HeaderLine", 59, ⟨"HeaderLine$Shelf", "<init>", "()V"⟩, "HeaderLine"), ("HeaderLine", 62, ⟨"HeaderLine$Pen", "<init>", "()V"⟩, "HeaderLine"), ("HeaderLine", 69, ⟨"HeaderLine$Arrival", "<init>", "()V"⟩, "HeaderLine"), ("HeaderLine$Arrival", 11, ⟨"HeaderLine$Header", "<init>", "()V"⟩, "HeaderLine"), ("HeaderLine", 76, ⟨"HeaderLine$Got", "<init>", "()V"⟩, "HeaderLine"), ("HeaderLine$Got", 11, ⟨"HeaderLine$Header", "<init>", "()V"⟩, "HeaderLine"), ("HeaderLine$Plan", 32, ⟨"HeaderLine", "lowest", "(JI)J"⟩, "HeaderLine"), ("HeaderLine$Pen", 29, ⟨"HeaderLine", "wholeBytes", "(I)I"⟩, "HeaderLine"), ("HeaderLine", 151, ⟨"HeaderLine$Proof", "<init>", "()V"⟩, "HeaderLine"), ("HeaderLine$Pen", 37, ⟨"HeaderLine", "checkOf", "([II)I"⟩, "HeaderLine"), ("HeaderLine$Arrival", 68, ⟨"HeaderLine", "endsInCheck", "(I)Z"⟩, "HeaderLine"), ("HeaderLine$Arrival", 107, ⟨"HeaderLine", "wholeBytes", "(I)I"⟩, "HeaderLine"), ("HeaderLine$Arrival", 111, ⟨"HeaderLine", "checkOf", "([II)I"⟩, "HeaderLine")]
def NK (U : State) : Prop := (∀ q ∈ nests, va_Nw (.methodLinkNest q.1 q.2.1 q.2.2.1 q.2.2.2) U) ∧ va_Nw (.castable "[I" "java/lang/Cloneable") U ∧ va_AO RX1 U ∧ va_AO RX3 U ∧ va_AO RX4 U ∧ va_AO RX8 U ∧ va_AO RX9 U
theorem NK.warm {s U : State} (hW : s.WarmedH U.vm) (h : NK s) : NK U := ⟨fun q hq => va_Nw.warmM hW (h.1 q hq), va_Nw.warmC hW h.2.1, h.2.2.1.moved hW.alike, h.2.2.2.1.moved hW.alike, h.2.2.2.2.1.moved hW.alike, h.2.2.2.2.2.1.moved hW.alike, h.2.2.2.2.2.2.moved hW.alike⟩
theorem NK.same {u U : State} (e : u.vm = U.vm) (h : NK u) : NK U := ⟨fun q hq => va_Nw.same rfl e (h.1 q hq), va_Nw.same rfl e h.2.1, h.2.2.1.moved (by rw [e]; exact Vm.Alike.refl _), h.2.2.2.1.moved (by rw [e]; exact Vm.Alike.refl _), h.2.2.2.2.1.moved (by rw [e]; exact Vm.Alike.refl _), h.2.2.2.2.2.1.moved (by rw [e]; exact Vm.Alike.refl _), h.2.2.2.2.2.2.moved (by rw [e]; exact Vm.Alike.refl _)⟩
/-- a method's start and end, in terms of the memory -/
def Pm (b0 : Nat) (D : va_G) (cy : Nat → ClassId) (M : Mm) (U : State) : Prop := Hp b0 D cy M U.heap ∧ va_K D vwCl (tysC cy) U ∧ NK U ∧ b0 ≤ U.heap.size
def Qm (b0 : Nat) (D : va_G) (cy : Nat → ClassId) (M : Mm) (ov : Option Value) : Array Value → State → Outcome → State → Prop := fun _ st oc t => oc = .returned ov ∧ Hp b0 D cy M t.heap ∧ va_F (BA b0) st t
section XRows2
variable {p : Program} {l : Launch} {e : Env} {R : Room} {s : State} {m : MethodId} {args : Array Value} {below : List Frame} {meth : Method} {c : Code} {H : Heap} {locs : List Loc} {cells slots : Nat} {Q : State → Prop}
variable {cc : ByteArray} {pc : Nat} {ls : Array Slot} {rest : List Value} {D : va_G} {cy : Nat → ClassId} {a b0 : Nat} {M : Mm} {H0 : Heap} {Ts : List Cond} {own C : String} {T : u_T} {N ci k idx kd num : Nat} {ρ : Type} {r : ρ}
theorem xr_aL (hx : p.tables.exec = Jvm.exec) (hb : c.code = cc) (hK : va_K D vwCl (tysC cy) s) (hP : Hp b0 D cy M H) {f : Int32 → Option ρ} (hF : (aL M a).bind f = some r) (hd : decode cc pc = .ok (.arraylength, 1))
    (kk : ∀ v, f v = some r → W p l e R s m args below meth c H locs cells slots Q (F0 m (pc + 1) ls (.int v :: rest))) : W p l e R s m args below meth c H locs cells slots Q (F0 m pc ls (.ref a :: rest)) := by
  obtain ⟨v, h1, h2⟩ := ob_some hF
  obtain ⟨h3, h4⟩ := if_some h1
  obtain ⟨h5, h6⟩ := if_some h4
  have h7 : nI (mN M a) = v := Option.some.inj h6
  subst h7
  rcases (show mK M a = 20 ∨ mK M a = 21 ∨ mK M a = 22 ∨ mK M a = 23 ∨ mK M a = 24 ∨ mK M a = 25 ∨ mK M a = 26 ∨ mK M a = 27 by omega) with g | g | g | g | g | g | g | g
  · exact W.alen (n := nI (mN M a)) hx hb (Hp_I hP g).2 ((hK.2 0 _ rfl).1 _ _) (by rw [arrV_size]; rfl) rfl rfl hd (kk _ h2)
  · exact W.alen (n := nI (mN M a)) hx hb (Hp_J hP g).2 ((hK.2 1 _ rfl).1 _ _) (by rw [arrV_size]; rfl) rfl rfl hd (kk _ h2)
  · exact W.alen (n := nI (mN M a)) hx hb (Hp_Z hP g).2 ((hK.2 2 _ rfl).1 _ _) (by rw [arrV_size]; rfl) rfl rfl hd (kk _ h2)
  · exact W.alen (n := nI (mN M a)) hx hb (Hp_Q hP g (by omega)).2 ((hK.2 3 _ rfl).1 _ _) (by rw [arrV_size]; rfl) rfl rfl hd (kk _ h2)
  · exact W.alen (n := nI (mN M a)) hx hb (Hp_Q hP g (by omega)).2 ((hK.2 4 _ rfl).1 _ _) (by rw [arrV_size]; rfl) rfl rfl hd (kk _ h2)
  · exact W.alen (n := nI (mN M a)) hx hb (Hp_Q hP g (by omega)).2 ((hK.2 5 _ rfl).1 _ _) (by rw [arrV_size]; rfl) rfl rfl hd (kk _ h2)
  · exact W.alen (n := nI (mN M a)) hx hb (Hp_Q hP g (by omega)).2 ((hK.2 6 _ rfl).1 _ _) (by rw [arrV_size]; rfl) rfl rfl hd (kk _ h2)
  · exact W.alen (n := nI (mN M a)) hx hb (Hp_Q hP g (by omega)).2 ((hK.2 7 _ rfl).1 _ _) (by rw [arrV_size]; rfl) rfl rfl hd (kk _ h2)
theorem ix_le {n : Int32} {B : Nat} (h0 : 0 ≤ n.toInt) (h : n.toInt ≤ (B : Int)) : ¬ n < 0 ∧ n.toNatClampNeg ≤ B := by
  refine ⟨fun q => ?_, ?_⟩
  · have := Int32.lt_iff_toInt_lt.mp q
    simp at this
    omega
  · show n.toInt.toNat ≤ B
    omega
/-- newarray of int, long, boolean: kd 20, 21, 22 -/
theorem xr_newA (hx : p.tables.exec = Jvm.exec) (hb : c.code = cc) (hts : ∀ w ∈ Ts, w.before args s = true) (hK : va_K D vwCl (tysC cy) s) (hP : Hp b0 D cy M H) (hS : va_S (BA b0) H0 H locs) (hb0 : b0 ≤ H0.size) {n : Int32} {B : Nat} {f : Mm → Option ρ} (hF : (mA0 M kd B n).bind f = some r) {atype : ArrayType} (harr : Cond.arrayClass (newarray.typeOf atype) ∈ Ts) (hz : (atype = .int ∧ kd = 20) ∨ (atype = .long ∧ kd = 21) ∨ (atype = .boolean ∧ kd = 22)) (hB : B ≤ 20000) (hcells : cells + 1 ≤ R.cells) (hslots : slots + B ≤ R.slots) (hd : decode cc pc = .ok (.newarray atype, 2))
    (kk : ∀ (M1 : Mm) (H : Heap), f M1 = some r → Hp b0 D cy M1 H → va_S (BA b0) H0 H locs → W p l e R s m args below meth c H locs (cells + 1) (slots + B) Q (F0 m (pc + 2) ls (.ref (mS M) :: rest))) : W p l e R s m args below meth c H locs cells slots Q (F0 m pc ls (.int n :: rest)) := by
  obtain ⟨M1, h1, h2⟩ := ob_some hF
  obtain ⟨h3, h4⟩ := if_some h1
  obtain ⟨h5, h6⟩ := if_some h4
  obtain ⟨g1, g2⟩ := ix_le h3 h5
  have h7 : nA M kd (ix n) = M1 := Option.some.inj h6
  subst h7
  have hbH : b0 ≤ H.size := Nat.le_trans hb0 hS.1
  refine va_newaK hx hb (hts _ harr) rfl hd rfl g1 rfl (by rcases hz with ⟨rfl, -⟩ | ⟨rfl, -⟩ | ⟨rfl, -⟩ <;> simp [newarray.typeOf, componentBytes] <;> omega) hcells (by omega) rfl fun H1 cA e1 z1 o1 hAr hNm => ?_
  refine W.widen (k := cells + 1) (n := slots + B) (Nat.le_refl _) (by omega) ?_
  refine W.eq (g2 := F0 m (pc + 2) ls (.ref (mS M) :: rest)) (by rw [← hP.1]) ?_
  rw [hP.1] at e1
  refine kk _ H1 h2 (Hp_new hP hbH z1 o1 rfl (fun b q => vau_ne q) (fun b q => vau_ne q) (fun _ _ _ => rfl) (fun _ _ _ => rfl) (fun _ _ _ => rfl) (fun b q => vau_ne q) (fun b q => vau_ne q) (fun b q => vau_ne q) ?_) (va_S_new hS z1 o1)
  have hkk : mK (nA M kd (ix n)) (mS M) = kd := vau_eq
  have hnn : mN (nA M kd (ix n)) (mS M) = ix n := vau_eq
  have hAA : mA (nA M kd (ix n)) (mS M) = fun _ => 0 := vau_eq
  have hBB : mB (nA M kd (ix n)) (mS M) = fun _ => 0 := vau_eq
  rcases hz with ⟨rfl, rfl⟩ | ⟨rfl, rfl⟩ | ⟨rfl, rfl⟩
  · have hcy : cA = cy 0 := Option.some.inj (hNm.symm.trans (hK.2 0 _ rfl).2)
    subst hcy
    refine ⟨fun g => by rw [hkk] at g; omega, fun g => ?_, fun g => by rw [hkk] at g; omega, fun g => by rw [hkk] at g; omega, fun g => by rw [hkk] at g; omega⟩
    rw [hnn, hAA]
    exact e1
  · have hcy : cA = cy 1 := Option.some.inj (hNm.symm.trans (hK.2 1 _ rfl).2)
    subst hcy
    refine ⟨fun g => by rw [hkk] at g; omega, fun g => by rw [hkk] at g; omega, fun g => ?_, fun g => by rw [hkk] at g; omega, fun g => by rw [hkk] at g; omega⟩
    rw [hnn, hBB]
    exact e1
  · have hcy : cA = cy 2 := Option.some.inj (hNm.symm.trans (hK.2 2 _ rfl).2)
    subst hcy
    refine ⟨fun g => by rw [hkk] at g; omega, fun g => by rw [hkk] at g; omega, fun g => by rw [hkk] at g; omega, fun g => ?_, fun g => by rw [hkk] at g; omega⟩
    rw [hnn, hAA]
    exact e1
theorem xr_newQ (hx : p.tables.exec = Jvm.exec) (hb : c.code = cc) (hts : ∀ w ∈ Ts, w.before args s = true) (hown : s.vm.findClass own = some m.cls) (hK : va_K D vwCl (tysC cy) s) (hP : Hp b0 D cy M H) (hS : va_S (BA b0) H0 H locs) (hb0 : b0 ≤ H0.size) {n : Int32} {B : Nat} {f : Mm → Option ρ} (hF : (mA0 M kd B n).bind f = some r) (t0 : Nat) (ht : (tysC cy)[t0]? = some (cy (kd - 20), .object C)) (h23 : 23 ≤ kd) (hl : Cond.classLink own idx C ∈ Ts) (hover : va_AO C s) (hB : B ≤ 20000) (hcells : cells + 1 ≤ R.cells) (hslots : slots + B ≤ R.slots) (hd : decode cc pc = .ok (.anewarray idx, 3))
    (kk : ∀ (M1 : Mm) (H : Heap), f M1 = some r → Hp b0 D cy M1 H → va_S (BA b0) H0 H locs → W p l e R s m args below meth c H locs (cells + 1) (slots + B) Q (F0 m (pc + 3) ls (.ref (mS M) :: rest))) : W p l e R s m args below meth c H locs cells slots Q (F0 m pc ls (.int n :: rest)) := by
  obtain ⟨M1, h1, h2⟩ := ob_some hF
  obtain ⟨h3, h4⟩ := if_some h1
  obtain ⟨h5, h6⟩ := if_some h4
  obtain ⟨g1, g2⟩ := ix_le h3 h5
  have h7 : nA M kd (ix n) = M1 := Option.some.inj h6
  subst h7
  have hbH : b0 ≤ H.size := Nat.le_trans hb0 hS.1
  refine W.anew hx hb hown (hts _ hl) (va_AO.use hover) rfl hd rfl g1 (by omega) hcells (by omega) fun cA kA comp f1 f2 f3 f4 => ?_
  generalize hH1 : H.push ({ cls := cA, slots := Array.replicate n.toNatClampNeg .null, vm := .none } : Cell) = H1
  have z1 : H1.size = H.size + 1 := by rw [← hH1, Array.size_push]
  have e1 : H1[H.size]? = some (arrV cA n.toNatClampNeg (fun _ => .null)) := by rw [← hH1, Array.getElem?_push_size, ← arrV_new]
  have o1 : ∀ q : Nat, q < H.size → H1[q]? = H[q]? := fun q hq => by rw [← hH1, Array.getElem?_push, if_neg (Nat.ne_of_lt hq)]
  refine W.widen (k := cells + 1) (n := slots + B) (Nat.le_refl _) (by omega) ?_
  refine W.eq (g2 := F0 m (pc + 3) ls (.ref (mS M) :: rest)) (by rw [← hP.1]) ?_
  rw [hP.1] at e1
  obtain ⟨-, -, -, -, -, hcy0⟩ := (hK.2 t0 _ ht).2
  have hcy : cA = cy (kd - 20) := Option.some.inj (f1.symm.trans hcy0)
  subst hcy
  refine kk _ H1 h2 (Hp_new hP hbH z1 o1 rfl (fun b q => vau_ne q) (fun b q => vau_ne q) (fun _ _ _ => rfl) (fun _ _ _ => rfl) (fun _ _ _ => rfl) (fun b q => vau_ne q) (fun b q => vau_ne q) (fun b q => vau_ne q) ?_) (va_S_new hS z1 o1)
  have hkk : mK (nA M kd (ix n)) (mS M) = kd := vau_eq
  have hnn : mN (nA M kd (ix n)) (mS M) = ix n := vau_eq
  have hQQ : mQ (nA M kd (ix n)) (mS M) = fun _ => none := vau_eq
  refine ⟨fun g => by rw [hkk] at g; omega, fun g => by rw [hkk] at g; omega, fun g => by rw [hkk] at g; omega, fun g => by rw [hkk] at g; omega, fun g => ?_⟩
  rw [hnn, hQQ, hkk]
  exact e1
theorem xr_new (hx : p.tables.exec = Jvm.exec) (hb : c.code = cc) (hts : ∀ w ∈ Ts, w.before args s = true) (hin : ∀ w ∈ u_ws C T N, w ∈ Ts) (hown : s.vm.findClass own = some m.cls) (hK : va_K D vwCl (tysC cy) s) (hP : Hp b0 D cy M H) (hS : va_S (BA b0) H0 H locs) (hb0 : b0 ≤ H0.size) (ci : Nat) (hc : vwCl[ci]? = some (C, T, N)) (ty0 : Nat → FieldType) (hty : ∀ k, k < N → parseFieldDescriptor (T k).2.2.1 = some (ty0 k)) (hdf : ∀ k, k < N → defaultValue (ty0 k) = if tyO ci k = 0 then .int 0 else if tyO ci k = 1 then .long 0 else .null) (hl : Cond.classLink own idx C ∈ Ts) (hli : Cond.instantiable C N ∈ Ts) (hln : Cond.initialized C ∈ Ts) (hcells : cells + 1 ≤ R.cells) (hslots : slots + N ≤ R.slots) (hd : decode cc pc = .ok (.new idx, 3)) (hkd : kd = ci + 1)
    (kk : ∀ (H : Heap), Hp b0 D cy (nO M kd) H → va_S (BA b0) H0 H locs → W p l e R s m args below meth c H locs (cells + 1) (slots + N) Q (F0 m (pc + 3) ls (.ref (mS M) :: rest))) : W p l e R s m args below meth c H locs cells slots Q (F0 m pc ls rest) := by
  subst hkd
  have hKn := hK.1 ci _ hc
  have hbH : b0 ≤ H.size := Nat.le_trans hb0 hS.1
  refine W.newcK hx hb hown (hts _ hl) (hts _ hli) (hts _ hln) rfl hd hcells hslots hKn.2.1 rfl fun H1 kC hkC e1 z1 o1 => ?_
  refine W.eq (g2 := F0 m (pc + 3) ls (.ref (mS M) :: rest)) (by rw [← hP.1]) ?_
  have hb1 := u_born ty0 hts hin hKn hkC e1 hty
  rw [hP.1] at hb1
  refine kk H1 (Hp_new hP hbH z1 o1 rfl (fun b q => vau_ne q) (fun _ _ => rfl) (fun b q k => if_neg q) (fun b q k => if_neg q) (fun b q k => if_neg q) (fun _ _ => rfl) (fun _ _ => rfl) (fun _ _ => rfl) ?_) (va_S_new hS z1 o1)
  have hkk : mK (nO M (ci + 1)) (mS M) = ci + 1 := vau_eq
  have hlt : ci < 12 := (List.getElem?_eq_some_iff.mp hc).1
  refine ⟨fun _ => ?_, fun g => by rw [hkk] at g; omega, fun g => by rw [hkk] at g; omega, fun g => by rw [hkk] at g; omega, fun g => by rw [hkk] at g; omega⟩
  rw [hkk]
  refine ⟨_, hc, hb1.to (fun j hj => ?_)⟩
  rw [hdf j hj]
  show _ = fv (nO M (ci + 1)) ci j (mS M)
  simp [fv, nO, mI, mJ, mR, mS, va_rf]
theorem xr_cpI (hx : p.tables.exec = Jvm.exec) (hb : c.code = cc) (hml : c.maxLocals = ls.size) (hts : ∀ w ∈ Ts, w.before args s = true) (hown : s.vm.findClass own = some m.cls) (hK : va_K D vwCl (tysC cy) s) (hP : Hp b0 D cy M H) (hS : va_S (BA b0) H0 H locs) {a2 : Nat} {i j n : Int32} {f : Mm → Option ρ} (hF : (cpI M a i a2 j n).bind f = some r) (hl : Cond.methodLink own idx arraycopyName ∈ Ts) (hw : Cond.native arraycopyName ∈ Ts ∧ Cond.static arraycopyName ∈ Ts ∧ Cond.initialized "java/lang/System" ∈ Ts) (hframes : 1 ≤ R.frames) (hlocals : (rest.map fun v => v.category).sum + (nativeFrameWords "java/lang/System" "arraycopy" 5 + 11) ≤ R.locals) (hd : decode cc pc = .ok (.invokestatic idx, 3))
    (kk : ∀ (M : Mm) (H : Heap) (locs : List Loc), f M = some r → Hp b0 D cy M H → va_S (BA b0) H0 H locs → W p l e R s m args below meth c H locs cells slots Q (F0 m (pc + 3) ls rest)) : W p l e R s m args below meth c H locs cells slots Q (F0 m pc ls (.int n :: .int j :: .ref a2 :: .int i :: .ref a :: rest)) := by
  obtain ⟨M1, h1, h2⟩ := ob_some hF
  obtain ⟨k1, h1⟩ := if_some h1
  obtain ⟨k2, h1⟩ := if_some h1
  obtain ⟨k3, h1⟩ := if_some h1
  obtain ⟨k4, h1⟩ := if_some h1
  obtain ⟨k5, h1⟩ := if_some h1
  obtain ⟨k6, h1⟩ := if_some h1
  obtain ⟨k7, h1⟩ := if_some h1
  have h7 : sA M a2 (va_cpy (mA M a) (mA M a2) (ix i) (ix j) (ix n)) = M1 := Option.some.inj h1
  subst h7
  have nn : ∀ z : Int32, 0 ≤ z.toInt → ¬ z < 0 := fun z hz q => by
    have := Int32.lt_iff_toInt_lt.mp q
    simp at this
    omega
  have tn : ∀ z : Int32, 0 ≤ z.toInt → (z.toNatClampNeg : Int) = z.toInt := fun z hz => by show ((z.toInt.toNat : Nat) : Int) = _; omega
  have c0 := Hp_I hP k1
  have c1 := Hp_I hP k2
  have e6 : i.toNatClampNeg + n.toNatClampNeg ≤ mN M a := by have := tn i k3; have := tn n k5; omega
  have e7 : j.toNatClampNeg + n.toNatClampNeg ≤ mN M a2 := by have := tn j k4; have := tn n k5; omega
  intro T hT X
  obtain ⟨-, kk0, hk0, cm0, hkk0⟩ := (hK.2 0 _ rfl).1 (mN M a) (fun j => .int (mA M a j))
  obtain ⟨vm', X', step⟩ := X.arraycopy hx hown (hts _ hl) (hts _ hw.1) (hts _ hw.2.1) (hts _ hw.2.2) (src := a) (dst := a2) (cs := arrV (cy 0) (mN M a) (fun j => .int (mA M a j))) (cd := arrV (cy 0) (mN M a2) (fun j => .int (mA M a2 j))) (srcPos := i) (destPos := j) (n := n) (by rw [hT]; exact c0.2) (by rw [hT]; exact c1.2)
    (fun _ h => by cases h) (fun _ h => by cases h) (fun h => by cases h) (fun h => by cases h) hk0 hk0 hkk0 hkk0 (by simp [refKind]) (nn i k3) (nn j k4) (nn n k5)
    (by rw [arrV_size]; omega) (by rw [arrV_size]; omega)
    (fun vm₁ _ q hq => by
      have e : (arrV (cy 0) (mN M a) (fun j => .int (mA M a j))).slots.getD (i.toNatClampNeg + q) .null = .int (mA M a (i.toNatClampNeg + q)) := by
        rw [Array.getD_eq_getD_getElem?, arrV_read _ _ (by omega)]
        rfl
      refine ⟨?_, ?_⟩
      · rw [e]; rfl
      · rw [e]; exact trivial)
    (g := F0 m pc ls (.int n :: .int j :: .ref a2 :: .int i :: .ref a :: rest)) rfl (by rw [hml]) (rest := rest) rfl (by rw [hb]; exact hd) hframes (by show 2 * 0 + _ + _ ≤ _; omega)
  have e1 : copied (arrV (cy 0) (mN M a) (fun j => .int (mA M a j))) (arrV (cy 0) (mN M a2) (fun j => .int (mA M a2 j))) i j n = arrV (cy 0) (mN M a2) (fun q => .int (va_cpy (mA M a) (mA M a2) (ix i) (ix j) (ix n) q)) := va_copied (fun z => .int z) _ _ _ _ e6
  rw [e1] at X' step
  have hl2 : a2 < H.size := (Array.getElem?_eq_some_iff.mp c1.2).1
  have hheap : ((T.setVm vm').setCell a2 (arrV (cy 0) (mN M a2) (fun q => .int (va_cpy (mA M a) (mA M a2) (ix i) (ix j) (ix n) q)))).heap = H.setIfInBounds a2 (arrV (cy 0) (mN M a2) (fun q => .int (va_cpy (mA M a) (mA M a2) (ix i) (ix j) (ix n) q))) := by rw [← hT]; rfl
  generalize hH1 : H.setIfInBounds a2 (arrV (cy 0) (mN M a2) (fun q => .int (va_cpy (mA M a) (mA M a2) (ix i) (ix j) (ix n) q))) = H1 at hheap
  have oq : ∀ q : Nat, q ≠ a2 → H1[q]? = H[q]? := fun q hq => by rw [← hH1]; simp [Array.getElem?_setIfInBounds, Ne.symm hq]
  have z1 : H1.size = H.size := by rw [← hH1]; simp
  have ec : H1[a2]? = some (arrV (cy 0) (mN M a2) (fun q => .int (va_up (mA M) a2 (va_cpy (mA M a) (mA M a2) (ix i) (ix j) (ix n)) a2 q))) := by rw [← hH1, vau_eq]; simp [Array.getElem?_setIfInBounds, hl2]
  obtain ⟨t, a1, b1⟩ := kk _ H1 _ h2 (Hp_of (a := a2) hP z1 oq rfl rfl rfl (fun _ _ _ => rfl) (fun _ _ _ => rfl) (fun _ _ _ => rfl) (fun b q => vau_ne q) (fun _ _ => rfl) (fun _ _ => rfl) (fun _ => ⟨fun g => by have g2 : mK M a2 ≤ 12 := g; omega, fun _ => ec, fun g => by have g2 : mK M a2 = 21 := g; omega, fun g => by have g2 : mK M a2 = 22 := g; omega, fun g => by have g2 : 23 ≤ mK M a2 := g; omega⟩))
    ⟨by rw [z1]; exact hS.1, fun q g1 g2 => by rw [oq q (fun e => g2 (by rw [e]; exact c1.1))]; exact hS.2.1 q g1 g2, fun q hq => by
      rcases List.mem_append.mp hq with h | h
      · exact hS.2.2 q h
      · obtain ⟨z, -, hz⟩ := List.mem_map.mp h
        rw [← hz]
        exact c1.1⟩ _ hheap X'
  exact ⟨t, step t a1, b1⟩
theorem xr_cpJ (hx : p.tables.exec = Jvm.exec) (hb : c.code = cc) (hml : c.maxLocals = ls.size) (hts : ∀ w ∈ Ts, w.before args s = true) (hown : s.vm.findClass own = some m.cls) (hK : va_K D vwCl (tysC cy) s) (hP : Hp b0 D cy M H) (hS : va_S (BA b0) H0 H locs) {a2 : Nat} {i j n : Int32} {f : Mm → Option ρ} (hF : (cpJ M a i a2 j n).bind f = some r) (hl : Cond.methodLink own idx arraycopyName ∈ Ts) (hw : Cond.native arraycopyName ∈ Ts ∧ Cond.static arraycopyName ∈ Ts ∧ Cond.initialized "java/lang/System" ∈ Ts) (hframes : 1 ≤ R.frames) (hlocals : (rest.map fun v => v.category).sum + (nativeFrameWords "java/lang/System" "arraycopy" 5 + 11) ≤ R.locals) (hd : decode cc pc = .ok (.invokestatic idx, 3))
    (kk : ∀ (M : Mm) (H : Heap) (locs : List Loc), f M = some r → Hp b0 D cy M H → va_S (BA b0) H0 H locs → W p l e R s m args below meth c H locs cells slots Q (F0 m (pc + 3) ls rest)) : W p l e R s m args below meth c H locs cells slots Q (F0 m pc ls (.int n :: .int j :: .ref a2 :: .int i :: .ref a :: rest)) := by
  obtain ⟨M1, h1, h2⟩ := ob_some hF
  obtain ⟨k1, h1⟩ := if_some h1
  obtain ⟨k2, h1⟩ := if_some h1
  obtain ⟨k3, h1⟩ := if_some h1
  obtain ⟨k4, h1⟩ := if_some h1
  obtain ⟨k5, h1⟩ := if_some h1
  obtain ⟨k6, h1⟩ := if_some h1
  obtain ⟨k7, h1⟩ := if_some h1
  have h7 : sB M a2 (va_cpy (mB M a) (mB M a2) (ix i) (ix j) (ix n)) = M1 := Option.some.inj h1
  subst h7
  have nn : ∀ z : Int32, 0 ≤ z.toInt → ¬ z < 0 := fun z hz q => by
    have := Int32.lt_iff_toInt_lt.mp q
    simp at this
    omega
  have tn : ∀ z : Int32, 0 ≤ z.toInt → (z.toNatClampNeg : Int) = z.toInt := fun z hz => by show ((z.toInt.toNat : Nat) : Int) = _; omega
  have c0 := Hp_J hP k1
  have c1 := Hp_J hP k2
  have e6 : i.toNatClampNeg + n.toNatClampNeg ≤ mN M a := by have := tn i k3; have := tn n k5; omega
  have e7 : j.toNatClampNeg + n.toNatClampNeg ≤ mN M a2 := by have := tn j k4; have := tn n k5; omega
  intro T hT X
  obtain ⟨-, kk0, hk0, cm0, hkk0⟩ := (hK.2 1 _ rfl).1 (mN M a) (fun j => .long (mB M a j))
  obtain ⟨vm', X', step⟩ := X.arraycopy hx hown (hts _ hl) (hts _ hw.1) (hts _ hw.2.1) (hts _ hw.2.2) (src := a) (dst := a2) (cs := arrV (cy 1) (mN M a) (fun j => .long (mB M a j))) (cd := arrV (cy 1) (mN M a2) (fun j => .long (mB M a2 j))) (srcPos := i) (destPos := j) (n := n) (by rw [hT]; exact c0.2) (by rw [hT]; exact c1.2)
    (fun _ h => by cases h) (fun _ h => by cases h) (fun h => by cases h) (fun h => by cases h) hk0 hk0 hkk0 hkk0 (by simp [refKind]) (nn i k3) (nn j k4) (nn n k5)
    (by rw [arrV_size]; omega) (by rw [arrV_size]; omega)
    (fun vm₁ _ q hq => by
      have e : (arrV (cy 1) (mN M a) (fun j => .long (mB M a j))).slots.getD (i.toNatClampNeg + q) .null = .long (mB M a (i.toNatClampNeg + q)) := by
        rw [Array.getD_eq_getD_getElem?, arrV_read _ _ (by omega)]
        rfl
      refine ⟨?_, ?_⟩
      · rw [e]; rfl
      · rw [e]; exact trivial)
    (g := F0 m pc ls (.int n :: .int j :: .ref a2 :: .int i :: .ref a :: rest)) rfl (by rw [hml]) (rest := rest) rfl (by rw [hb]; exact hd) hframes (by show 2 * 0 + _ + _ ≤ _; omega)
  have e1 : copied (arrV (cy 1) (mN M a) (fun j => .long (mB M a j))) (arrV (cy 1) (mN M a2) (fun j => .long (mB M a2 j))) i j n = arrV (cy 1) (mN M a2) (fun q => .long (va_cpy (mB M a) (mB M a2) (ix i) (ix j) (ix n) q)) := va_copied (fun z => .long z) _ _ _ _ e6
  rw [e1] at X' step
  have hl2 : a2 < H.size := (Array.getElem?_eq_some_iff.mp c1.2).1
  have hheap : ((T.setVm vm').setCell a2 (arrV (cy 1) (mN M a2) (fun q => .long (va_cpy (mB M a) (mB M a2) (ix i) (ix j) (ix n) q)))).heap = H.setIfInBounds a2 (arrV (cy 1) (mN M a2) (fun q => .long (va_cpy (mB M a) (mB M a2) (ix i) (ix j) (ix n) q))) := by rw [← hT]; rfl
  generalize hH1 : H.setIfInBounds a2 (arrV (cy 1) (mN M a2) (fun q => .long (va_cpy (mB M a) (mB M a2) (ix i) (ix j) (ix n) q))) = H1 at hheap
  have oq : ∀ q : Nat, q ≠ a2 → H1[q]? = H[q]? := fun q hq => by rw [← hH1]; simp [Array.getElem?_setIfInBounds, Ne.symm hq]
  have z1 : H1.size = H.size := by rw [← hH1]; simp
  have ec : H1[a2]? = some (arrV (cy 1) (mN M a2) (fun q => .long (va_up (mB M) a2 (va_cpy (mB M a) (mB M a2) (ix i) (ix j) (ix n)) a2 q))) := by rw [← hH1, vau_eq]; simp [Array.getElem?_setIfInBounds, hl2]
  obtain ⟨t, a1, b1⟩ := kk _ H1 _ h2 (Hp_of (a := a2) hP z1 oq rfl rfl rfl (fun _ _ _ => rfl) (fun _ _ _ => rfl) (fun _ _ _ => rfl) (fun _ _ => rfl) (fun b q => vau_ne q) (fun _ _ => rfl) (fun _ => ⟨fun g => by have g2 : mK M a2 ≤ 12 := g; omega, fun g => by have g2 : mK M a2 = 20 := g; omega, fun _ => ec, fun g => by have g2 : mK M a2 = 22 := g; omega, fun g => by have g2 : 23 ≤ mK M a2 := g; omega⟩))
    ⟨by rw [z1]; exact hS.1, fun q g1 g2 => by rw [oq q (fun e => g2 (by rw [e]; exact c1.1))]; exact hS.2.1 q g1 g2, fun q hq => by
      rcases List.mem_append.mp hq with h | h
      · exact hS.2.2 q h
      · obtain ⟨z, -, hz⟩ := List.mem_map.mp h
        rw [← hz]
        exact c1.1⟩ _ hheap X'
  exact ⟨t, step t a1, b1⟩
end XRows2
end
section
/-! Clones, casts, null, calls, returns. -/
section XRows3
variable {p : Program} {l : Launch} {e : Env} {R : Room} {s : State} {m : MethodId} {args : Array Value} {below : List Frame} {meth : Method} {c : Code} {H : Heap} {locs : List Loc} {cells slots : Nat} {Q : State → Prop}
variable {cc : ByteArray} {pc : Nat} {ls : Array Slot} {rest : List Value} {D : va_G} {cy : Nat → ClassId} {a b0 : Nat} {M : Mm} {H0 : Heap} {Ts : List Cond} {own C : String} {T : u_T} {N ci k idx kd num : Nat} {ρ : Type} {r : ρ}
theorem xr_clI (hx : p.tables.exec = Jvm.exec) (hb : c.code = cc) (hml : c.maxLocals = ls.size) (hts : ∀ w ∈ Ts, w.before args s = true) (hown : s.vm.findClass own = some m.cls) (hK : va_K D vwCl (tysC cy) s) (hN : NK s) (hP : Hp b0 D cy M H) (hS : va_S (BA b0) H0 H locs) (hb0 : b0 ≤ H0.size) {B : Nat} {f : Mm → Option ρ} (hF : (clI M B a).bind f = some r)
    (hlink : Cond.methodLink own idx ⟨"[I", "clone", "()Ljava/lang/Object;"⟩ ∈ Ts) (hw : Cond.sameMethod "[I" "java/lang/Object" "clone" "()Ljava/lang/Object;" ∈ Ts ∧ Cond.native ⟨"java/lang/Object", "clone", "()Ljava/lang/Object;"⟩ ∈ Ts ∧ Cond.instanceMethod ⟨"java/lang/Object", "clone", "()Ljava/lang/Object;"⟩ ∈ Ts ∧ Cond.selects "[I" ⟨"[I", "clone", "()Ljava/lang/Object;"⟩ ⟨"java/lang/Object", "clone", "()Ljava/lang/Object;"⟩ ∈ Ts)
    (hframes : 1 ≤ R.frames) (hlocals : (rest.map fun v => v.category).sum + 14 ≤ R.locals) (hcells : cells + 1 ≤ R.cells) (hslots : slots + B ≤ R.slots) (hd : decode cc pc = .ok (.invokevirtual idx, 3))
    (kk : ∀ (M1 : Mm) (H : Heap), f M1 = some r → Hp b0 D cy M1 H → va_S (BA b0) H0 H locs → W p l e R s m args below meth c H locs (cells + 1) (slots + B) Q (F0 m (pc + 3) ls (.ref (mS M) :: rest))) : W p l e R s m args below meth c H locs cells slots Q (F0 m pc ls (.ref a :: rest)) := by
  obtain ⟨M1, h1, h2⟩ := ob_some hF
  obtain ⟨h3, h4⟩ := if_some h1
  obtain ⟨h5, h6⟩ := if_some h4
  have h7 : sA (nA M 20 (mN M a)) (mS M) (mA M a) = M1 := Option.some.inj h6
  subst h7
  have hbH : b0 ≤ H.size := Nat.le_trans hb0 hS.1
  have hnm : s.vm.findClass "[I" = some (cy 0) := (hK.2 0 _ rfl).2
  obtain ⟨c0, t0', f1, f2, f3⟩ := Cond.castable_spec (va_Nw.use (A := args) rfl hN.2.1)
  cases hnm.symm.trans f1
  generalize hcell : arrV (cy 0) (mN M a) (fun j => .int (mA M a j)) = cell
  have hsz : cell.slots.size = mN M a := by rw [← hcell]; exact arrV_size _ _ _
  have hvm0 : cell.vm = .none := by rw [← hcell]; rfl
  have hcl0 : cell.cls = cy 0 := by rw [← hcell]; rfl
  have hcellE : ({ cls := cell.cls, slots := cell.slots } : Cell) = cell := by rw [← hcell]; rfl
  have hat : H[a]? = some cell := by rw [← hcell]; exact (Hp_I hP h3).2
  intro T hT X
  have hcellT : T.heap[a]? = some cell := by rw [hT]; exact hat
  obtain ⟨-, kA, hkA, comp, hkind⟩ := State.isArrayOf_alike X.warmed.alike ((hK.2 0 _ rfl).1 0 (fun _ => .null))
  obtain ⟨-, kS, hkS, compS, hkindS⟩ := (hK.2 0 _ rfl).1 0 (fun _ => .null)
  obtain ⟨vm', X', st⟩ := X.cloneArray hx hown (hts _ hlink) (hts _ hw.1) (hts _ hw.2.1) (hts _ hw.2.2.1) (hts _ hw.2.2.2) (a := a) (cell := cell) hcellT (fun k h => by rw [hvm0] at h; cases h) (by rw [hvm0]; exact fun h => by cases h) (by rw [hcl0]; exact hnm) f2 (by rw [hcl0]; exact f3)
    (fun i v hv => by
      rw [hcl0]
      have hk' : T.vm.classes[cy 0]? = some kA := hkA
      have hfit : fits .int v = true := by
        have hi : i < mN M a := by
          have := (Array.getElem?_eq_some_iff.mp hv).1
          rw [hsz] at this
          exact this
        rw [← hcell, arrV_read _ _ hi] at hv
        rw [← Option.some.inj hv]
        rfl
      simpa [State.fitsSlot, State.slotType?, hk', hkind] using hfit)
    (g := F0 m pc ls (.ref a :: rest)) rfl (by rw [hml]) rfl (by rw [hb]; exact hd) hframes (by show 2 * 0 + _ + 14 ≤ _; omega) hcells (by rw [hsz]; omega) (hloader := by rw [hcl0]; exact Vm.clonesLoader_of_array hkS hkindS)
  rw [hcellE, hsz] at X'
  generalize hH1 : H.push cell = H1
  have z1 : H1.size = H.size + 1 := by rw [← hH1, Array.size_push]
  have e1 : H1[H.size]? = some cell := by rw [← hH1, Array.getElem?_push_size]
  have o1 : ∀ q : Nat, q < H.size → H1[q]? = H[q]? := fun q hq => by rw [← hH1, Array.getElem?_push, if_neg (Nat.ne_of_lt hq)]
  rw [hP.1, ← hcell] at e1
  have hkk : mK (sA (nA M 20 (mN M a)) (mS M) (mA M a)) (mS M) = 20 := vau_eq
  have hnn : mN (sA (nA M 20 (mN M a)) (mS M) (mA M a)) (mS M) = mN M a := vau_eq
  have hAA : mA (sA (nA M 20 (mN M a)) (mS M) (mA M a)) (mS M) = mA M a := vau_eq
  have hPn : Hp b0 D cy (sA (nA M 20 (mN M a)) (mS M) (mA M a)) H1 := by
    refine Hp_new hP hbH z1 o1 rfl (fun b q => vau_ne q) (fun b q => vau_ne q) (fun _ _ _ => rfl) (fun _ _ _ => rfl) (fun _ _ _ => rfl) (fun b q => (vau_ne q).trans (vau_ne q)) (fun b q => vau_ne q) (fun b q => vau_ne q) ?_
    refine ⟨fun g => by rw [hkk] at g; omega, fun g => ?_, fun g => by rw [hkk] at g; omega, fun g => by rw [hkk] at g; omega, fun g => by rw [hkk] at g; omega⟩
    rw [hnn, hAA]
    exact e1
  have kw := kk _ H1 h2 hPn (va_S_new hS z1 o1)
  have kw2 := W.widen (k := cells + 1) (n := slots + B) (cells := cells + 1) (slots := slots + mN M a) (Nat.le_refl _) (by omega) kw
  obtain ⟨t, b1, b2⟩ := kw2 ((T.setVm vm').pushCell cell) (by rw [← hH1, ← hT]; rfl) X'
  refine ⟨t, st t ?_, b2⟩
  rw [hcellE, hT, hP.1]
  exact b1
theorem xr_castI (hx : p.tables.exec = Jvm.exec) (hb : c.code = cc) (hts : ∀ w ∈ Ts, w.before args s = true) (hown : s.vm.findClass own = some m.cls) (hK : va_K D vwCl (tysC cy) s) (hP : Hp b0 D cy M H) (hk : mK M a = 20) (hlink : Cond.classLink own idx "[I" ∈ Ts) (hd : decode cc pc = .ok (.checkcast idx, 3))
    (kk : W p l e R s m args below meth c H locs cells slots Q (F0 m (pc + 3) ls (.ref a :: rest))) : W p l e R s m args below meth c H locs cells slots Q (F0 m pc ls (.ref a :: rest)) := by
  have hat := (Hp_I hP hk).2
  have hP1 : va_P D vwCl [(a, .inl (cy 0, mN M a, .inl (mA M a)))] H := by
    intro k q hq
    have hz : k < 1 := (List.getElem?_eq_some_iff.mp hq).1
    rw [show k = 0 by omega] at hq
    cases hq
    exact hat
  exact va_castA hx hb hown (hts _ hlink) hP1 0 rfl (hK.2 0 _ rfl).2 hd kk
theorem cat_rf (v : Option Nat) : (va_rf v).category = 1 := by cases v <;> rfl
theorem xr_aload_n (hx : p.tables.exec = Jvm.exec) (hb : c.code = cc) {v : Option Nat} {k : Fin 4} {i : Nat} (hd : decode cc pc = .ok (.aload_n k, 1)) (hi : (k : Nat) = i) (hl : ls[i]? = some (.val (va_rf v)))
    (kk : W p l e R s m args below meth c H locs cells slots Q (F0 m (pc + 1) ls (va_rf v :: rest))) : W p l e R s m args below meth c H locs cells slots Q (F0 m pc ls rest) := by
  cases v with
  | none => exact lv_aload_nN hx hb hd hi hl kk
  | some x => exact lv_aload_n hx hb hd hi hl kk
theorem xr_aload (hx : p.tables.exec = Jvm.exec) (hb : c.code = cc) {v : Option Nat} {i : Nat} (hd : decode cc pc = .ok (.aload i, 2)) (hl : ls[i]? = some (.val (va_rf v)))
    (kk : W p l e R s m args below meth c H locs cells slots Q (F0 m (pc + 2) ls (va_rf v :: rest))) : W p l e R s m args below meth c H locs cells slots Q (F0 m pc ls rest) := by
  cases v with
  | none => exact lv_aloadN hx hb hd hl kk
  | some x => exact lv_aload hx hb hd hl kk
theorem xr_astore_n (hx : p.tables.exec = Jvm.exec) (hb : c.code = cc) {v : Option Nat} {k : Fin 4} {i nL : Nat} {lv lv' : List (Nat × Value)} (hd : decode cc pc = .ok (.astore_n k, 1)) (hi : (k : Nat) = i) (h : lv_has ls nL lv) (hn : i < nL) (hl : (i, va_rf v) :: lv.filter (fun q => !(q.1 == i) && !(q.1 + 1 == i && q.2.category == 2)) = lv')
    (kk : ∀ ls : Array Slot, lv_has ls nL lv' → W p l e R s m args below meth c H locs cells slots Q (F0 m (pc + 1) ls rest)) : W p l e R s m args below meth c H locs cells slots Q (F0 m pc ls (va_rf v :: rest)) := by
  cases v with
  | none => exact lv_astore_nN hx hb hd hi h hn hl kk
  | some x => exact lv_astore_n hx hb hd hi h hn hl kk
theorem xr_astore (hx : p.tables.exec = Jvm.exec) (hb : c.code = cc) {v : Option Nat} {i nL : Nat} {lv lv' : List (Nat × Value)} (hd : decode cc pc = .ok (.astore i, 2)) (h : lv_has ls nL lv) (hn : i < nL) (hl : (i, va_rf v) :: lv.filter (fun q => !(q.1 == i) && !(q.1 + 1 == i && q.2.category == 2)) = lv')
    (kk : ∀ ls : Array Slot, lv_has ls nL lv' → W p l e R s m args below meth c H locs cells slots Q (F0 m (pc + 2) ls rest)) : W p l e R s m args below meth c H locs cells slots Q (F0 m pc ls (va_rf v :: rest)) := by
  cases v with
  | none => exact lv_astoreN hx hb hd h hn hl kk
  | some x => exact lv_astore hx hb hd h hn hl kk
theorem nm_n {β : Type} {A : Option β} {B : Nat → Option β} {r : Option β} (h : nm none A B = r) : A = r := h
theorem nm_s {β : Type} {x : Nat} {A : Option β} {B : Nat → Option β} {r : Option β} (h : nm (some x) A B = r) : B x = r := h
theorem nz01 {v : Int32} (h : v = 0 ∨ v = 1) : narrow .boolean (.int v) = .int v := by rcases h with e | e <;> subst e <;> rfl
theorem ov_rf (v : Option Nat) : va_rf v = .null ∨ ∃ a, va_rf v = .ref a := by
  cases v with
  | none => exact Or.inl rfl
  | some x => exact Or.inr ⟨x, rfl⟩
theorem xr_call1 {mc ms : Nat} {st0 : List Value} {M1 : Mm} {v : Value} {aa : Array Value} (hr : va_Run p l e R s m args below meth c H locs cells slots mc ms (F0 m pc ls st0) rest (Qm b0 D cy M1 (some v) aa) (BA b0)) (hS : va_S (BA b0) H0 H locs)
    (kk : ∀ (H : Heap) (locs : List Loc), Hp b0 D cy M1 H → va_S (BA b0) H0 H locs → W p l e R s m args below meth c H locs (cells + mc) (slots + ms) Q (F0 m (pc + 3) ls (v :: rest))) : W p l e R s m args below meth c H locs cells slots Q (F0 m pc ls st0) := by
  intro T hT X
  obtain ⟨v', st₀, t, T', L, h0, X', hL, e1, e2, ⟨hv, hp, hz, hk⟩, st⟩ := hr T hT X
  cases hv
  rw [h0] at hz hk
  obtain ⟨t2, a1, b1⟩ := kk T'.heap (locs ++ L) (by rw [e1]; exact hp)
    ⟨Nat.le_trans hS.1 (by rw [e1]; exact hz), fun q h1 h2 => by rw [e1, hk q (Nat.lt_of_lt_of_le h1 hS.1) h2]; exact hS.2.1 q h1 h2, fun q hq => by
      rcases List.mem_append.mp hq with h | h
      · exact hS.2.2 q h
      · exact hL q h⟩ T' rfl X'
  exact ⟨t2, st t2 a1, b1⟩
theorem xr_call0 {mc ms : Nat} {st0 : List Value} {M1 : Mm} {aa : Array Value} (hr : va_Run p l e R s m args below meth c H locs cells slots mc ms (F0 m pc ls st0) rest (Qm b0 D cy M1 none aa) (BA b0)) (hS : va_S (BA b0) H0 H locs)
    (kk : ∀ (H : Heap) (locs : List Loc), Hp b0 D cy M1 H → va_S (BA b0) H0 H locs → W p l e R s m args below meth c H locs (cells + mc) (slots + ms) Q (F0 m (pc + 3) ls rest)) : W p l e R s m args below meth c H locs cells slots Q (F0 m pc ls st0) := by
  intro T hT X
  obtain ⟨v', st₀, t, T', L, h0, X', hL, e1, e2, ⟨hv, hp, hz, hk⟩, st⟩ := hr T hT X
  cases hv
  rw [h0] at hz hk
  obtain ⟨t2, a1, b1⟩ := kk T'.heap (locs ++ L) (by rw [e1]; exact hp)
    ⟨Nat.le_trans hS.1 (by rw [e1]; exact hz), fun q h1 h2 => by rw [e1, hk q (Nat.lt_of_lt_of_le h1 hS.1) h2]; exact hS.2.1 q h1 h2, fun q hq => by
      rcases List.mem_append.mp hq with h | h
      · exact hS.2.2 q h
      · exact hL q h⟩ T' rfl X'
  exact ⟨t2, st t2 a1, b1⟩
theorem xp_B {av : List Value} : FrameBlind (va_Pc av (Pm b0 D cy M)) := fun a U g mk q => ⟨q.1, q.2.1, va_K.moved (u := U) (U := U.calling g mk a) (Vm.Alike.refl U.vm) q.2.2.1, NK.same (u := U) (U := U.calling g mk a) rfl q.2.2.2.1, q.2.2.2.2⟩
theorem xp_S {As : List Value} (hP : Hp b0 D cy M H) (hK : va_K D vwCl (tysC cy) s) (hN : NK s) (hS : va_S (BA b0) H0 H locs) (hb0 : b0 ≤ H0.size) : PreS s H (va_Pc As (Pm b0 D cy M)) As :=
  ⟨xp_B, fun U hU hW => ⟨rfl, by rw [hU]; exact hP, va_K.moved hW.alike hK, NK.warm hW hN, by rw [hU]; exact Nat.le_trans hb0 hS.1⟩⟩
theorem xp_V {As : List Value} (hP : Hp b0 D cy M H) (hK : va_K D vwCl (tysC cy) s) (hN : NK s) (hS : va_S (BA b0) H0 H locs) (hb0 : b0 ≤ H0.size) (ci : Nat) (hc : vwCl[ci]? = some (C, T, N)) (hk : mK M a = ci + 1) : PreV s H C a (va_Pc (.ref a :: As) (Pm b0 D cy M)) As := by
  obtain ⟨-, cell, g1, g2, g3, -⟩ := Hp_obj hP hk hc
  exact ⟨xp_B, ⟨cell, g1, by rw [g3]; rfl, by rw [g2]; exact (hK.1 ci _ hc).2.1⟩, fun U hU hW => ⟨rfl, by rw [hU]; exact hP, va_K.moved hW.alike hK, NK.warm hW hN, by rw [hU]; exact Nat.le_trans hb0 hS.1⟩⟩
end XRows3
/-- what a walk of a method takes along -/
def Cx (y : MethodName) (cc : ByteArray) (nL : Nat) (ret : Option FieldType) (ws : List Cond) (b0 : Nat) (D : va_G) (cy : Nat → ClassId) (p : Program) (s : State) (m : MethodId) (args : Array Value) (meth : Method) (c : Code) : Prop :=
  p.tables.exec = Jvm.exec ∧ c.code = cc ∧ meth.sig.returnType = ret ∧ c.maxLocals = nL ∧ s.vm.findClass y.cls = some m.cls ∧ (∀ w ∈ ws, w.before args s = true) ∧ meth.locks = false ∧ va_K D vwCl (tysC cy) s ∧ NK s ∧ b0 ≤ s.heap.size ∧ meth.name = y.name
theorem ct_of {l : Launch} {y : MethodName} {cc : ByteArray} {nL : Nat} {ret : Option FieldType} {ws ws' : List Cond} {rm : Room} {b0 : Nat} {D : va_G} {cy : Nat → ClassId} {M M1 : Mm} {ov : Option Value} {mc ms : Nat} (av : List Value) (hy : plainName y.cls = true) (hw : ws = Cond.code y cc nL ret :: ws')
    (body : ∀ p e s m below meth c, Cx y cc nL ret ws b0 D cy p s m av.toArray meth c → Hp b0 D cy M s.heap → W p l e rm s m av.toArray below meth c s.heap [] 0 0 (MQ below (Qm b0 D cy M1 ov) av.toArray s mc ms (BA b0)) (F0 m 0 ((lg_sl av ++ List.replicate (nL - (lg_sl av).length) Slot.unset).toArray) [])) :
    Met l y ws rm (va_Pc av (Pm b0 D cy M)) (Qm b0 D cy M1 ov) mc ms (BA b0) := by
  refine Met.ofW (cc := cc) (maxL := nL) (ret := ret) hy hw ?_
  intro p e s m args below meth c s₁ B hml hv
  obtain ⟨rfl, hP, hK, hN, hb0⟩ := hv
  rw [lg_entry_eq]
  exact body p e s m below meth c ⟨B.exec, B.bytes, B.returns, hml, findClass_of_methodNamed B.named, atoms_spec (ws := ws) B.pre, B.notSynchronized, hK, hN, hb0, (name_of_methodNamed B.named B.method).1⟩ hP
end
